section
-- ===== PART A: goes FIRST, ahead of the names: the tables' words, and 'selects' of the private methods out of them =====
/-- a private method of a class that the tables say can be made, by its rows of tables_1 -/
def lw_okq (q : MethodName × Nat) : Prop := (q.1.cls ≠ "java/lang/invoke/MethodHandle" ∧ q.1.cls ≠ "java/lang/invoke/VarHandle") ∧ Cond.instantiable q.1.cls q.2 ∈ tables_1 ∧ Cond.privateMethod q.1 ∈ tables_1 ∧ Cond.instanceMethod q.1 ∈ tables_1
theorem lw_p0 : lw_okq (⟨"WallDesk$Walls", "addFirm", "(I)I"⟩, 7) := ⟨⟨by decide +kernel, by decide +kernel⟩, List.mem_of_getElem? (i := 19) (by decide +kernel), List.mem_of_getElem? (i := 152) (by decide +kernel), List.mem_of_getElem? (i := 153) (by decide +kernel)⟩
theorem lw_p1 : lw_okq (⟨"WallDesk$Walls", "hasFirm", "(I)Z"⟩, 7) := ⟨⟨by decide +kernel, by decide +kernel⟩, List.mem_of_getElem? (i := 19) (by decide +kernel), List.mem_of_getElem? (i := 160) (by decide +kernel), List.mem_of_getElem? (i := 161) (by decide +kernel)⟩
theorem lw_p2 : lw_okq (⟨"WallDesk$Walls", "addObject", "(I)I"⟩, 7) := ⟨⟨by decide +kernel, by decide +kernel⟩, List.mem_of_getElem? (i := 19) (by decide +kernel), List.mem_of_getElem? (i := 165) (by decide +kernel), List.mem_of_getElem? (i := 166) (by decide +kernel)⟩
theorem lw_p3 : lw_okq (⟨"WallDesk", "reach", "(III)I"⟩, 9) := ⟨⟨by decide +kernel, by decide +kernel⟩, List.mem_of_getElem? (i := 11) (by decide +kernel), List.mem_of_getElem? (i := 173) (by decide +kernel), List.mem_of_getElem? (i := 174) (by decide +kernel)⟩
theorem lw_p4 : lw_okq (⟨"WallDesk$Walls", "hasObject", "(I)Z"⟩, 7) := ⟨⟨by decide +kernel, by decide +kernel⟩, List.mem_of_getElem? (i := 19) (by decide +kernel), List.mem_of_getElem? (i := 177) (by decide +kernel), List.mem_of_getElem? (i := 178) (by decide +kernel)⟩
theorem lw_p5 : lw_okq (⟨"WallDesk$Walls", "onWriting", "(II)I"⟩, 7) := ⟨⟨by decide +kernel, by decide +kernel⟩, List.mem_of_getElem? (i := 19) (by decide +kernel), List.mem_of_getElem? (i := 181) (by decide +kernel), List.mem_of_getElem? (i := 182) (by decide +kernel)⟩
theorem lw_p6 : lw_okq (⟨"WallDesk$Walls", "letRead", "(II)Z"⟩, 7) := ⟨⟨by decide +kernel, by decide +kernel⟩, List.mem_of_getElem? (i := 19) (by decide +kernel), List.mem_of_getElem? (i := 185) (by decide +kernel), List.mem_of_getElem? (i := 186) (by decide +kernel)⟩
theorem lw_p7 : lw_okq (⟨"WallDesk$Walls", "onReading", "(II)I"⟩, 7) := ⟨⟨by decide +kernel, by decide +kernel⟩, List.mem_of_getElem? (i := 19) (by decide +kernel), List.mem_of_getElem? (i := 192) (by decide +kernel), List.mem_of_getElem? (i := 193) (by decide +kernel)⟩
theorem lw_p8 : lw_okq (⟨"WallDesk$Glasses", "anyRuns", "(III)Z"⟩, 5) := ⟨⟨by decide +kernel, by decide +kernel⟩, List.mem_of_getElem? (i := 53) (by decide +kernel), List.mem_of_getElem? (i := 196) (by decide +kernel), List.mem_of_getElem? (i := 197) (by decide +kernel)⟩
theorem lw_p9 : lw_okq (⟨"WallDesk$Glasses", "runs", "(II)Z"⟩, 5) := ⟨⟨by decide +kernel, by decide +kernel⟩, List.mem_of_getElem? (i := 53) (by decide +kernel), List.mem_of_getElem? (i := 200) (by decide +kernel), List.mem_of_getElem? (i := 201) (by decide +kernel)⟩
theorem lw_p10 : lw_okq (⟨"WallDesk$Log", "isFull", "()Z"⟩, 3) := ⟨⟨by decide +kernel, by decide +kernel⟩, List.mem_of_getElem? (i := 85) (by decide +kernel), List.mem_of_getElem? (i := 204) (by decide +kernel), List.mem_of_getElem? (i := 205) (by decide +kernel)⟩
theorem lw_p11 : lw_okq (⟨"WallDesk$Walls", "showFirm", "(II)V"⟩, 7) := ⟨⟨by decide +kernel, by decide +kernel⟩, List.mem_of_getElem? (i := 19) (by decide +kernel), List.mem_of_getElem? (i := 208) (by decide +kernel), List.mem_of_getElem? (i := 209) (by decide +kernel)⟩
theorem lw_p12 : lw_okq (⟨"WallDesk$Walls", "teachFirm", "(II)V"⟩, 7) := ⟨⟨by decide +kernel, by decide +kernel⟩, List.mem_of_getElem? (i := 19) (by decide +kernel), List.mem_of_getElem? (i := 212) (by decide +kernel), List.mem_of_getElem? (i := 213) (by decide +kernel)⟩
theorem lw_p13 : lw_okq (⟨"WallDesk$Log", "add", "(IIIII)V"⟩, 3) := ⟨⟨by decide +kernel, by decide +kernel⟩, List.mem_of_getElem? (i := 85) (by decide +kernel), List.mem_of_getElem? (i := 219) (by decide +kernel), List.mem_of_getElem? (i := 220) (by decide +kernel)⟩
theorem lw_p14 : lw_okq (⟨"WallDesk$Log", "linkDue", "(I)J"⟩, 3) := ⟨⟨by decide +kernel, by decide +kernel⟩, List.mem_of_getElem? (i := 85) (by decide +kernel), List.mem_of_getElem? (i := 223) (by decide +kernel), List.mem_of_getElem? (i := 224) (by decide +kernel)⟩
theorem lw_p15 : lw_okq (⟨"WallDesk$Glasses", "openDuties", "(I)I"⟩, 5) := ⟨⟨by decide +kernel, by decide +kernel⟩, List.mem_of_getElem? (i := 53) (by decide +kernel), List.mem_of_getElem? (i := 239) (by decide +kernel), List.mem_of_getElem? (i := 240) (by decide +kernel)⟩
def lw_privs_1 : List (MethodName × Nat) := [(⟨"WallDesk$Walls", "addFirm", "(I)I"⟩, 7), (⟨"WallDesk$Walls", "hasFirm", "(I)Z"⟩, 7), (⟨"WallDesk$Walls", "addObject", "(I)I"⟩, 7), (⟨"WallDesk", "reach", "(III)I"⟩, 9), (⟨"WallDesk$Walls", "hasObject", "(I)Z"⟩, 7), (⟨"WallDesk$Walls", "onWriting", "(II)I"⟩, 7), (⟨"WallDesk$Walls", "letRead", "(II)Z"⟩, 7), (⟨"WallDesk$Walls", "onReading", "(II)I"⟩, 7), (⟨"WallDesk$Glasses", "anyRuns", "(III)Z"⟩, 5), (⟨"WallDesk$Glasses", "runs", "(II)Z"⟩, 5), (⟨"WallDesk$Log", "isFull", "()Z"⟩, 3), (⟨"WallDesk$Walls", "showFirm", "(II)V"⟩, 7), (⟨"WallDesk$Walls", "teachFirm", "(II)V"⟩, 7), (⟨"WallDesk$Log", "add", "(IIIII)V"⟩, 3), (⟨"WallDesk$Log", "linkDue", "(I)J"⟩, 3), (⟨"WallDesk$Glasses", "openDuties", "(I)I"⟩, 5)]
theorem lw_r1 : ∀ q ∈ lw_privs_1, lw_okq q := List.forall_mem_cons.mpr ⟨lw_p0, List.forall_mem_cons.mpr ⟨lw_p1, List.forall_mem_cons.mpr ⟨lw_p2, List.forall_mem_cons.mpr ⟨lw_p3, List.forall_mem_cons.mpr ⟨lw_p4, List.forall_mem_cons.mpr ⟨lw_p5, List.forall_mem_cons.mpr ⟨lw_p6, List.forall_mem_cons.mpr ⟨lw_p7, List.forall_mem_cons.mpr ⟨lw_p8, List.forall_mem_cons.mpr ⟨lw_p9, List.forall_mem_cons.mpr ⟨lw_p10, List.forall_mem_cons.mpr ⟨lw_p11, List.forall_mem_cons.mpr ⟨lw_p12, List.forall_mem_cons.mpr ⟨lw_p13, List.forall_mem_cons.mpr ⟨lw_p14, List.forall_mem_cons.mpr ⟨lw_p15, fun _ h => absurd h List.not_mem_nil⟩⟩⟩⟩⟩⟩⟩⟩⟩⟩⟩⟩⟩⟩⟩⟩
theorem lw_p16 : lw_okq (⟨"WallDesk$Glasses", "anyDue", "(II)Z"⟩, 5) := ⟨⟨by decide +kernel, by decide +kernel⟩, List.mem_of_getElem? (i := 53) (by decide +kernel), List.mem_of_getElem? (i := 243) (by decide +kernel), List.mem_of_getElem? (i := 244) (by decide +kernel)⟩
theorem lw_p17 : lw_okq (⟨"WallDesk$Glasses", "due", "(I)I"⟩, 5) := ⟨⟨by decide +kernel, by decide +kernel⟩, List.mem_of_getElem? (i := 53) (by decide +kernel), List.mem_of_getElem? (i := 247) (by decide +kernel), List.mem_of_getElem? (i := 248) (by decide +kernel)⟩
theorem lw_p18 : lw_okq (⟨"WallDesk$Glasses", "isFull", "()Z"⟩, 5) := ⟨⟨by decide +kernel, by decide +kernel⟩, List.mem_of_getElem? (i := 53) (by decide +kernel), List.mem_of_getElem? (i := 251) (by decide +kernel), List.mem_of_getElem? (i := 252) (by decide +kernel)⟩
theorem lw_p19 : lw_okq (⟨"WallDesk$Glasses", "addGlass", "(III)I"⟩, 5) := ⟨⟨by decide +kernel, by decide +kernel⟩, List.mem_of_getElem? (i := 53) (by decide +kernel), List.mem_of_getElem? (i := 255) (by decide +kernel), List.mem_of_getElem? (i := 256) (by decide +kernel)⟩
theorem lw_p20 : lw_okq (⟨"WallDesk$Glasses", "has", "(I)Z"⟩, 5) := ⟨⟨by decide +kernel, by decide +kernel⟩, List.mem_of_getElem? (i := 53) (by decide +kernel), List.mem_of_getElem? (i := 263) (by decide +kernel), List.mem_of_getElem? (i := 264) (by decide +kernel)⟩
theorem lw_p21 : lw_okq (⟨"WallDesk", "alterableKind", "(I)LWallDesk$Kind;"⟩, 9) := ⟨⟨by decide +kernel, by decide +kernel⟩, List.mem_of_getElem? (i := 11) (by decide +kernel), List.mem_of_getElem? (i := 318) (by decide +kernel), List.mem_of_getElem? (i := 319) (by decide +kernel)⟩
theorem lw_p22 : lw_okq (⟨"WallDesk", "kindAt", "(I)LWallDesk$Kind;"⟩, 9) := ⟨⟨by decide +kernel, by decide +kernel⟩, List.mem_of_getElem? (i := 11) (by decide +kernel), List.mem_of_getElem? (i := 322) (by decide +kernel), List.mem_of_getElem? (i := 323) (by decide +kernel)⟩
theorem lw_p23 : lw_okq (⟨"WallDesk$Kind", "taskBits", "()I"⟩, 7) := ⟨⟨by decide +kernel, by decide +kernel⟩, List.mem_of_getElem? (i := 276) (by decide +kernel), List.mem_of_getElem? (i := 326) (by decide +kernel), List.mem_of_getElem? (i := 327) (by decide +kernel)⟩
theorem lw_p24 : lw_okq (⟨"WallDesk$Kind", "addTask", "(II)I"⟩, 7) := ⟨⟨by decide +kernel, by decide +kernel⟩, List.mem_of_getElem? (i := 276) (by decide +kernel), List.mem_of_getElem? (i := 330) (by decide +kernel), List.mem_of_getElem? (i := 331) (by decide +kernel)⟩
theorem lw_p25 : lw_okq (⟨"WallDesk$Kind", "arePair", "(II)Z"⟩, 7) := ⟨⟨by decide +kernel, by decide +kernel⟩, List.mem_of_getElem? (i := 276) (by decide +kernel), List.mem_of_getElem? (i := 338) (by decide +kernel), List.mem_of_getElem? (i := 339) (by decide +kernel)⟩
theorem lw_p26 : lw_okq (⟨"WallDesk$Kind", "hasTask", "(I)Z"⟩, 7) := ⟨⟨by decide +kernel, by decide +kernel⟩, List.mem_of_getElem? (i := 276) (by decide +kernel), List.mem_of_getElem? (i := 342) (by decide +kernel), List.mem_of_getElem? (i := 343) (by decide +kernel)⟩
theorem lw_p27 : lw_okq (⟨"WallDesk", "caseAt", "(I)LWallDesk$Case;"⟩, 9) := ⟨⟨by decide +kernel, by decide +kernel⟩, List.mem_of_getElem? (i := 11) (by decide +kernel), List.mem_of_getElem? (i := 380) (by decide +kernel), List.mem_of_getElem? (i := 381) (by decide +kernel)⟩
theorem lw_p28 : lw_okq (⟨"WallDesk$Case", "verdict", "(II[I)I"⟩, 2) := ⟨⟨by decide +kernel, by decide +kernel⟩, List.mem_of_getElem? (i := 361) (by decide +kernel), List.mem_of_getElem? (i := 385) (by decide +kernel), List.mem_of_getElem? (i := 386) (by decide +kernel)⟩
theorem lw_p29 : lw_okq (⟨"WallDesk$Case", "leftBits", "()I"⟩, 2) := ⟨⟨by decide +kernel, by decide +kernel⟩, List.mem_of_getElem? (i := 361) (by decide +kernel), List.mem_of_getElem? (i := 390) (by decide +kernel), List.mem_of_getElem? (i := 391) (by decide +kernel)⟩
theorem lw_p30 : lw_okq (⟨"WallDesk$Case", "bitsDoneBy", "(I)I"⟩, 2) := ⟨⟨by decide +kernel, by decide +kernel⟩, List.mem_of_getElem? (i := 361) (by decide +kernel), List.mem_of_getElem? (i := 394) (by decide +kernel), List.mem_of_getElem? (i := 395) (by decide +kernel)⟩
theorem lw_p31 : lw_okq (⟨"WallDesk$Case", "wouldStick", "(II[I)Z"⟩, 2) := ⟨⟨by decide +kernel, by decide +kernel⟩, List.mem_of_getElem? (i := 361) (by decide +kernel), List.mem_of_getElem? (i := 405) (by decide +kernel), List.mem_of_getElem? (i := 406) (by decide +kernel)⟩
def lw_privs_2 : List (MethodName × Nat) := [(⟨"WallDesk$Glasses", "anyDue", "(II)Z"⟩, 5), (⟨"WallDesk$Glasses", "due", "(I)I"⟩, 5), (⟨"WallDesk$Glasses", "isFull", "()Z"⟩, 5), (⟨"WallDesk$Glasses", "addGlass", "(III)I"⟩, 5), (⟨"WallDesk$Glasses", "has", "(I)Z"⟩, 5), (⟨"WallDesk", "alterableKind", "(I)LWallDesk$Kind;"⟩, 9), (⟨"WallDesk", "kindAt", "(I)LWallDesk$Kind;"⟩, 9), (⟨"WallDesk$Kind", "taskBits", "()I"⟩, 7), (⟨"WallDesk$Kind", "addTask", "(II)I"⟩, 7), (⟨"WallDesk$Kind", "arePair", "(II)Z"⟩, 7), (⟨"WallDesk$Kind", "hasTask", "(I)Z"⟩, 7), (⟨"WallDesk", "caseAt", "(I)LWallDesk$Case;"⟩, 9), (⟨"WallDesk$Case", "verdict", "(II[I)I"⟩, 2), (⟨"WallDesk$Case", "leftBits", "()I"⟩, 2), (⟨"WallDesk$Case", "bitsDoneBy", "(I)I"⟩, 2), (⟨"WallDesk$Case", "wouldStick", "(II[I)Z"⟩, 2)]
theorem lw_r2 : ∀ q ∈ lw_privs_2, lw_okq q := List.forall_mem_cons.mpr ⟨lw_p16, List.forall_mem_cons.mpr ⟨lw_p17, List.forall_mem_cons.mpr ⟨lw_p18, List.forall_mem_cons.mpr ⟨lw_p19, List.forall_mem_cons.mpr ⟨lw_p20, List.forall_mem_cons.mpr ⟨lw_p21, List.forall_mem_cons.mpr ⟨lw_p22, List.forall_mem_cons.mpr ⟨lw_p23, List.forall_mem_cons.mpr ⟨lw_p24, List.forall_mem_cons.mpr ⟨lw_p25, List.forall_mem_cons.mpr ⟨lw_p26, List.forall_mem_cons.mpr ⟨lw_p27, List.forall_mem_cons.mpr ⟨lw_p28, List.forall_mem_cons.mpr ⟨lw_p29, List.forall_mem_cons.mpr ⟨lw_p30, List.forall_mem_cons.mpr ⟨lw_p31, fun _ h => absurd h List.not_mem_nil⟩⟩⟩⟩⟩⟩⟩⟩⟩⟩⟩⟩⟩⟩⟩⟩
theorem lw_p32 : lw_okq (⟨"WallDesk$Case", "couldEnd", "([I)Z"⟩, 2) := ⟨⟨by decide +kernel, by decide +kernel⟩, List.mem_of_getElem? (i := 361) (by decide +kernel), List.mem_of_getElem? (i := 409) (by decide +kernel), List.mem_of_getElem? (i := 410) (by decide +kernel)⟩
theorem lw_p33 : lw_okq (⟨"WallDesk$Kind", "tasksWithin", "(I)I"⟩, 7) := ⟨⟨by decide +kernel, by decide +kernel⟩, List.mem_of_getElem? (i := 276) (by decide +kernel), List.mem_of_getElem? (i := 413) (by decide +kernel), List.mem_of_getElem? (i := 414) (by decide +kernel)⟩
theorem lw_p34 : lw_okq (⟨"WallDesk$Case", "sharedWith", "(JII)J"⟩, 2) := ⟨⟨by decide +kernel, by decide +kernel⟩, List.mem_of_getElem? (i := 361) (by decide +kernel), List.mem_of_getElem? (i := 418) (by decide +kernel), List.mem_of_getElem? (i := 419) (by decide +kernel)⟩
theorem lw_p35 : lw_okq (⟨"WallDesk$Kind", "allows", "(I)Z"⟩, 7) := ⟨⟨by decide +kernel, by decide +kernel⟩, List.mem_of_getElem? (i := 276) (by decide +kernel), List.mem_of_getElem? (i := 422) (by decide +kernel), List.mem_of_getElem? (i := 423) (by decide +kernel)⟩
theorem lw_p36 : lw_okq (⟨"WallDesk$Log", "hasCell", "(II)Z"⟩, 3) := ⟨⟨by decide +kernel, by decide +kernel⟩, List.mem_of_getElem? (i := 85) (by decide +kernel), List.mem_of_getElem? (i := 457) (by decide +kernel), List.mem_of_getElem? (i := 458) (by decide +kernel)⟩
theorem lw_p37 : lw_okq (⟨"WallDesk$Log", "hasEntry", "(I)Z"⟩, 3) := ⟨⟨by decide +kernel, by decide +kernel⟩, List.mem_of_getElem? (i := 85) (by decide +kernel), List.mem_of_getElem? (i := 461) (by decide +kernel), List.mem_of_getElem? (i := 462) (by decide +kernel)⟩
theorem lw_p38 : lw_okq (⟨"WallDesk$Log", "firstWrong", "()I"⟩, 3) := ⟨⟨by decide +kernel, by decide +kernel⟩, List.mem_of_getElem? (i := 85) (by decide +kernel), List.mem_of_getElem? (i := 479) (by decide +kernel), List.mem_of_getElem? (i := 480) (by decide +kernel)⟩
theorem lw_p39 : lw_okq (⟨"WallDeskModel", "access", "(III)I"⟩, 27) := ⟨⟨by decide +kernel, by decide +kernel⟩, List.mem_of_getElem? (i := 487) (by decide +kernel), List.mem_of_getElem? (i := 602) (by decide +kernel), List.mem_of_getElem? (i := 603) (by decide +kernel)⟩
theorem lw_p40 : lw_okq (⟨"WallDeskModel", "isWalled", "(II)Z"⟩, 27) := ⟨⟨by decide +kernel, by decide +kernel⟩, List.mem_of_getElem? (i := 487) (by decide +kernel), List.mem_of_getElem? (i := 606) (by decide +kernel), List.mem_of_getElem? (i := 607) (by decide +kernel)⟩
theorem lw_p41 : lw_okq (⟨"WallDeskModel", "isOpen", "(I)Z"⟩, 27) := ⟨⟨by decide +kernel, by decide +kernel⟩, List.mem_of_getElem? (i := 487) (by decide +kernel), List.mem_of_getElem? (i := 610) (by decide +kernel), List.mem_of_getElem? (i := 611) (by decide +kernel)⟩
theorem lw_p42 : lw_okq (⟨"WallDeskModel", "hasGlass", "(II)Z"⟩, 27) := ⟨⟨by decide +kernel, by decide +kernel⟩, List.mem_of_getElem? (i := 487) (by decide +kernel), List.mem_of_getElem? (i := 614) (by decide +kernel), List.mem_of_getElem? (i := 615) (by decide +kernel)⟩
theorem lw_p43 : lw_okq (⟨"WallDeskModel", "enter", "(IIII)V"⟩, 27) := ⟨⟨by decide +kernel, by decide +kernel⟩, List.mem_of_getElem? (i := 487) (by decide +kernel), List.mem_of_getElem? (i := 618) (by decide +kernel), List.mem_of_getElem? (i := 619) (by decide +kernel)⟩
theorem lw_p44 : lw_okq (⟨"WallDeskModel", "linkAt", "(I)J"⟩, 27) := ⟨⟨by decide +kernel, by decide +kernel⟩, List.mem_of_getElem? (i := 487) (by decide +kernel), List.mem_of_getElem? (i := 622) (by decide +kernel), List.mem_of_getElem? (i := 623) (by decide +kernel)⟩
theorem lw_p45 : lw_okq (⟨"WallDeskModel", "duties", "(I)I"⟩, 27) := ⟨⟨by decide +kernel, by decide +kernel⟩, List.mem_of_getElem? (i := 487) (by decide +kernel), List.mem_of_getElem? (i := 640) (by decide +kernel), List.mem_of_getElem? (i := 641) (by decide +kernel)⟩
theorem lw_p46 : lw_okq (⟨"WallDeskModel", "isLate", "(I)Z"⟩, 27) := ⟨⟨by decide +kernel, by decide +kernel⟩, List.mem_of_getElem? (i := 487) (by decide +kernel), List.mem_of_getElem? (i := 644) (by decide +kernel), List.mem_of_getElem? (i := 645) (by decide +kernel)⟩
theorem lw_p47 : lw_okq (⟨"WallDeskModel", "isFree", "(I)Z"⟩, 27) := ⟨⟨by decide +kernel, by decide +kernel⟩, List.mem_of_getElem? (i := 487) (by decide +kernel), List.mem_of_getElem? (i := 661) (by decide +kernel), List.mem_of_getElem? (i := 662) (by decide +kernel)⟩
def lw_privs_3 : List (MethodName × Nat) := [(⟨"WallDesk$Case", "couldEnd", "([I)Z"⟩, 2), (⟨"WallDesk$Kind", "tasksWithin", "(I)I"⟩, 7), (⟨"WallDesk$Case", "sharedWith", "(JII)J"⟩, 2), (⟨"WallDesk$Kind", "allows", "(I)Z"⟩, 7), (⟨"WallDesk$Log", "hasCell", "(II)Z"⟩, 3), (⟨"WallDesk$Log", "hasEntry", "(I)Z"⟩, 3), (⟨"WallDesk$Log", "firstWrong", "()I"⟩, 3), (⟨"WallDeskModel", "access", "(III)I"⟩, 27), (⟨"WallDeskModel", "isWalled", "(II)Z"⟩, 27), (⟨"WallDeskModel", "isOpen", "(I)Z"⟩, 27), (⟨"WallDeskModel", "hasGlass", "(II)Z"⟩, 27), (⟨"WallDeskModel", "enter", "(IIII)V"⟩, 27), (⟨"WallDeskModel", "linkAt", "(I)J"⟩, 27), (⟨"WallDeskModel", "duties", "(I)I"⟩, 27), (⟨"WallDeskModel", "isLate", "(I)Z"⟩, 27), (⟨"WallDeskModel", "isFree", "(I)Z"⟩, 27)]
theorem lw_r3 : ∀ q ∈ lw_privs_3, lw_okq q := List.forall_mem_cons.mpr ⟨lw_p32, List.forall_mem_cons.mpr ⟨lw_p33, List.forall_mem_cons.mpr ⟨lw_p34, List.forall_mem_cons.mpr ⟨lw_p35, List.forall_mem_cons.mpr ⟨lw_p36, List.forall_mem_cons.mpr ⟨lw_p37, List.forall_mem_cons.mpr ⟨lw_p38, List.forall_mem_cons.mpr ⟨lw_p39, List.forall_mem_cons.mpr ⟨lw_p40, List.forall_mem_cons.mpr ⟨lw_p41, List.forall_mem_cons.mpr ⟨lw_p42, List.forall_mem_cons.mpr ⟨lw_p43, List.forall_mem_cons.mpr ⟨lw_p44, List.forall_mem_cons.mpr ⟨lw_p45, List.forall_mem_cons.mpr ⟨lw_p46, List.forall_mem_cons.mpr ⟨lw_p47, fun _ h => absurd h List.not_mem_nil⟩⟩⟩⟩⟩⟩⟩⟩⟩⟩⟩⟩⟩⟩⟩⟩
theorem lw_p48 : lw_okq (⟨"WallDeskModel", "arePair", "(III)Z"⟩, 27) := ⟨⟨by decide +kernel, by decide +kernel⟩, List.mem_of_getElem? (i := 487) (by decide +kernel), List.mem_of_getElem? (i := 669) (by decide +kernel), List.mem_of_getElem? (i := 670) (by decide +kernel)⟩
theorem lw_p49 : lw_okq (⟨"WallDeskModel", "canBe", "(I)Z"⟩, 27) := ⟨⟨by decide +kernel, by decide +kernel⟩, List.mem_of_getElem? (i := 487) (by decide +kernel), List.mem_of_getElem? (i := 695) (by decide +kernel), List.mem_of_getElem? (i := 696) (by decide +kernel)⟩
theorem lw_p50 : lw_okq (⟨"WallDeskModel", "isFit", "(II)Z"⟩, 27) := ⟨⟨by decide +kernel, by decide +kernel⟩, List.mem_of_getElem? (i := 487) (by decide +kernel), List.mem_of_getElem? (i := 699) (by decide +kernel), List.mem_of_getElem? (i := 700) (by decide +kernel)⟩
theorem lw_p51 : lw_okq (⟨"WallDeskModel", "isTask", "(II)Z"⟩, 27) := ⟨⟨by decide +kernel, by decide +kernel⟩, List.mem_of_getElem? (i := 487) (by decide +kernel), List.mem_of_getElem? (i := 707) (by decide +kernel), List.mem_of_getElem? (i := 708) (by decide +kernel)⟩
def lw_privs_4 : List (MethodName × Nat) := [(⟨"WallDeskModel", "arePair", "(III)Z"⟩, 27), (⟨"WallDeskModel", "canBe", "(I)Z"⟩, 27), (⟨"WallDeskModel", "isFit", "(II)Z"⟩, 27), (⟨"WallDeskModel", "isTask", "(II)Z"⟩, 27)]
theorem lw_r4 : ∀ q ∈ lw_privs_4, lw_okq q := List.forall_mem_cons.mpr ⟨lw_p48, List.forall_mem_cons.mpr ⟨lw_p49, List.forall_mem_cons.mpr ⟨lw_p50, List.forall_mem_cons.mpr ⟨lw_p51, fun _ h => absurd h List.not_mem_nil⟩⟩⟩⟩
def lw_privs : List (MethodName × Nat) := lw_privs_1 ++ (lw_privs_2 ++ (lw_privs_3 ++ (lw_privs_4)))
def lw_tbl : List Cond := k2_sels lw_privs ++ tables_1
theorem lw_privs_ok : ∀ q ∈ lw_privs, lw_okq q := by
  show ∀ q ∈ lw_privs_1 ++ (lw_privs_2 ++ (lw_privs_3 ++ (lw_privs_4))), lw_okq q
  exact List.forall_mem_append.mpr ⟨lw_r1, List.forall_mem_append.mpr ⟨lw_r2, List.forall_mem_append.mpr ⟨lw_r3, lw_r4⟩⟩⟩
/-! ===== BEGIN words of one list among another's, by their places ===== -/
theorem goodIn_r {big : List Cond} (ws : List Cond) (ps : List Nat) (hp : ws = ps.filterMap (fun i => big[i]?)) (h : ws.all goodWord = true) : GoodIn big ws := by
  intro w hw
  have h1 := List.all_eq_true.mp h w hw
  rw [hp] at hw
  obtain ⟨i, -, hi⟩ := List.mem_filterMap.mp hw
  have hm : w ∈ big := by first | exact List.mem_of_getElem? hi | exact List.getElem?_mem hi
  exact ⟨hm, good_of_word h1⟩
theorem goodIn_app {big a b : List Cond} (ha : GoodIn big a) (hb : GoodIn big b) : GoodIn big (a ++ b) := fun w h => (List.mem_append.mp h).elim (ha w) (hb w)
theorem goodIn_ca {big a b : List Cond} {c : Cond} (ha : GoodIn big (c :: a)) (hb : GoodIn big b) : GoodIn big (c :: (a ++ b)) := fun w h => (List.mem_cons.mp h).elim (fun e => ha w (List.mem_cons.mpr (Or.inl e))) (fun h => (List.mem_append.mp h).elim (fun h => ha w (List.mem_cons.mpr (Or.inr h))) (hb w))
theorem goodIn_sub {big ws : List Cond} (hm : ∀ w ∈ ws, w ∈ big) (h : ws.all goodWord = true) : GoodIn big ws := fun w hw => ⟨hm w hw, good_of_word (List.all_eq_true.mp h w hw)⟩
/-! ===== END ===== -/

/-! ===== BEGIN printed: names, fields, word lists, decode rows ===== -/
def RX0 : String := "WallDesk$Case"
def TX0 : u_T := fun k => match k with
  | 0 => ("WallDesk$Case", "kind", "LWallDesk$Kind;", true)
  | _ => ("WallDesk$Case", "doerOf", "[I", true)
def tyX0 : Nat → FieldType := fun k => match k with
  | 0 => .object "WallDesk$Kind"
  | _ => .array .int
abbrev wsX00 : List Cond := u_ws RX0 TX0 2
theorem nmX0 : ∀ a, a < 2 → ∀ b, b < 2 → a ≠ b → (TX0 a).2.1 ≠ (TX0 b).2.1 := by decide +kernel
theorem tyX0_ok : ∀ k, k < 2 → parseFieldDescriptor (TX0 k).2.2.1 = some (tyX0 k) := by decide +kernel
abbrev cX0_init : ByteArray := prog_2_method_1_code
def yX0_init : MethodName := ⟨RX0, "<init>", "(LWallDesk$Kind;)V"⟩
abbrev cX0_bitsDoneBy : ByteArray := prog_2_method_2_code
def yX0_bitsDoneBy : MethodName := ⟨RX0, "bitsDoneBy", "(I)I"⟩
abbrev cX0_leftBits : ByteArray := prog_2_method_3_code
def yX0_leftBits : MethodName := ⟨RX0, "leftBits", "()I"⟩
abbrev cX0_verdict : ByteArray := prog_2_method_4_code
def yX0_verdict : MethodName := ⟨RX0, "verdict", "(II[I)I"⟩
abbrev cX0_wouldStick : ByteArray := prog_2_method_5_code
def yX0_wouldStick : MethodName := ⟨RX0, "wouldStick", "(II[I)Z"⟩
abbrev cX0_couldEnd : ByteArray := prog_2_method_6_code
def yX0_couldEnd : MethodName := ⟨RX0, "couldEnd", "([I)Z"⟩
abbrev cX0_sharedWith : ByteArray := prog_2_method_7_code
def yX0_sharedWith : MethodName := ⟨RX0, "sharedWith", "(JII)J"⟩
abbrev cX0_setsWithoutAnyOf : ByteArray := prog_2_method_8_code
def yX0_setsWithoutAnyOf : MethodName := ⟨RX0, "setsWithoutAnyOf", "(I)J"⟩
def RX1 : String := "WallDesk$Glasses"
def TX1 : u_T := fun k => match k with
  | 0 => ("WallDesk$Glasses", "user", "[I", true)
  | 1 => ("WallDesk$Glasses", "firm", "[I", true)
  | 2 => ("WallDesk$Glasses", "end", "[I", true)
  | 3 => ("WallDesk$Glasses", "dutyOpen", "[Z", true)
  | _ => ("WallDesk$Glasses", "size", "I", false)
def tyX1 : Nat → FieldType := fun k => match k with
  | 0 => .array .int
  | 1 => .array .int
  | 2 => .array .int
  | 3 => .array .boolean
  | _ => .int
abbrev wsX10 : List Cond := u_ws RX1 TX1 5
theorem nmX1 : ∀ a, a < 5 → ∀ b, b < 5 → a ≠ b → (TX1 a).2.1 ≠ (TX1 b).2.1 := by decide +kernel
theorem tyX1_ok : ∀ k, k < 5 → parseFieldDescriptor (TX1 k).2.2.1 = some (tyX1 k) := by decide +kernel
abbrev cX1_init : ByteArray := prog_3_method_1_code
def yX1_init : MethodName := ⟨RX1, "<init>", "()V"⟩
abbrev cX1_has : ByteArray := prog_3_method_2_code
def yX1_has : MethodName := ⟨RX1, "has", "(I)Z"⟩
abbrev cX1_isFull : ByteArray := prog_3_method_3_code
def yX1_isFull : MethodName := ⟨RX1, "isFull", "()Z"⟩
abbrev cX1_addGlass : ByteArray := prog_3_method_4_code
def yX1_addGlass : MethodName := ⟨RX1, "addGlass", "(III)I"⟩
abbrev cX1_runs : ByteArray := prog_3_method_5_code
def yX1_runs : MethodName := ⟨RX1, "runs", "(II)Z"⟩
abbrev cX1_due : ByteArray := prog_3_method_6_code
def yX1_due : MethodName := ⟨RX1, "due", "(I)I"⟩
abbrev cX1_anyRuns : ByteArray := prog_3_method_7_code
def yX1_anyRuns : MethodName := ⟨RX1, "anyRuns", "(III)Z"⟩
abbrev cX1_openDuties : ByteArray := prog_3_method_8_code
def yX1_openDuties : MethodName := ⟨RX1, "openDuties", "(I)I"⟩
abbrev cX1_anyDue : ByteArray := prog_3_method_9_code
def yX1_anyDue : MethodName := ⟨RX1, "anyDue", "(II)Z"⟩
def RX2 : String := "WallDesk$Kind"
def TX2 : u_T := fun k => match k with
  | 0 => ("WallDesk$Kind", "roleOf", "[I", true)
  | 1 => ("WallDesk$Kind", "mustPrecede", "[I", true)
  | 2 => ("WallDesk$Kind", "apartFrom", "[I", true)
  | 3 => ("WallDesk$Kind", "boundTo", "[I", true)
  | 4 => ("WallDesk$Kind", "tasks", "I", false)
  | 5 => ("WallDesk$Kind", "most", "I", false)
  | _ => ("WallDesk$Kind", "hasCases", "Z", false)
def tyX2 : Nat → FieldType := fun k => match k with
  | 0 => .array .int
  | 1 => .array .int
  | 2 => .array .int
  | 3 => .array .int
  | 4 => .int
  | 5 => .int
  | _ => .boolean
abbrev wsX20 : List Cond := u_ws RX2 TX2 7
theorem nmX2 : ∀ a, a < 7 → ∀ b, b < 7 → a ≠ b → (TX2 a).2.1 ≠ (TX2 b).2.1 := by decide +kernel
theorem tyX2_ok : ∀ k, k < 7 → parseFieldDescriptor (TX2 k).2.2.1 = some (tyX2 k) := by decide +kernel
abbrev cX2_init : ByteArray := prog_4_method_1_code
def yX2_init : MethodName := ⟨RX2, "<init>", "()V"⟩
abbrev cX2_hasTask : ByteArray := prog_4_method_2_code
def yX2_hasTask : MethodName := ⟨RX2, "hasTask", "(I)Z"⟩
abbrev cX2_arePair : ByteArray := prog_4_method_3_code
def yX2_arePair : MethodName := ⟨RX2, "arePair", "(II)Z"⟩
abbrev cX2_taskBits : ByteArray := prog_4_method_4_code
def yX2_taskBits : MethodName := ⟨RX2, "taskBits", "()I"⟩
abbrev cX2_addTask : ByteArray := prog_4_method_5_code
def yX2_addTask : MethodName := ⟨RX2, "addTask", "(II)I"⟩
abbrev cX2_tasksWithin : ByteArray := prog_4_method_6_code
def yX2_tasksWithin : MethodName := ⟨RX2, "tasksWithin", "(I)I"⟩
abbrev cX2_allows : ByteArray := prog_4_method_7_code
def yX2_allows : MethodName := ⟨RX2, "allows", "(I)Z"⟩
def RX3 : String := "WallDesk$Log"
def TX3 : u_T := fun k => match k with
  | 0 => ("WallDesk$Log", "cells", "[I", true)
  | 1 => ("WallDesk$Log", "links", "[J", true)
  | _ => ("WallDesk$Log", "size", "I", false)
def tyX3 : Nat → FieldType := fun k => match k with
  | 0 => .array .int
  | 1 => .array .long
  | _ => .int
abbrev wsX30 : List Cond := u_ws RX3 TX3 3
theorem nmX3 : ∀ a, a < 3 → ∀ b, b < 3 → a ≠ b → (TX3 a).2.1 ≠ (TX3 b).2.1 := by decide +kernel
theorem tyX3_ok : ∀ k, k < 3 → parseFieldDescriptor (TX3 k).2.2.1 = some (tyX3 k) := by decide +kernel
abbrev cX3_init : ByteArray := prog_5_method_1_code
def yX3_init : MethodName := ⟨RX3, "<init>", "()V"⟩
abbrev cX3_isFull : ByteArray := prog_5_method_2_code
def yX3_isFull : MethodName := ⟨RX3, "isFull", "()Z"⟩
abbrev cX3_hasEntry : ByteArray := prog_5_method_3_code
def yX3_hasEntry : MethodName := ⟨RX3, "hasEntry", "(I)Z"⟩
abbrev cX3_hasCell : ByteArray := prog_5_method_4_code
def yX3_hasCell : MethodName := ⟨RX3, "hasCell", "(II)Z"⟩
abbrev cX3_add : ByteArray := prog_5_method_5_code
def yX3_add : MethodName := ⟨RX3, "add", "(IIIII)V"⟩
abbrev cX3_linkDue : ByteArray := prog_5_method_6_code
def yX3_linkDue : MethodName := ⟨RX3, "linkDue", "(I)J"⟩
abbrev cX3_firstWrong : ByteArray := prog_5_method_7_code
def yX3_firstWrong : MethodName := ⟨RX3, "firstWrong", "()I"⟩
def RX4 : String := "WallDesk$Walls"
def TX4 : u_T := fun k => match k with
  | 0 => ("WallDesk$Walls", "classOf", "[I", true)
  | 1 => ("WallDesk$Walls", "firmsOf", "[I", true)
  | 2 => ("WallDesk$Walls", "firmOf", "[I", true)
  | 3 => ("WallDesk$Walls", "known", "[I", true)
  | 4 => ("WallDesk$Walls", "seen", "[I", true)
  | 5 => ("WallDesk$Walls", "firms", "I", false)
  | _ => ("WallDesk$Walls", "objects", "I", false)
def tyX4 : Nat → FieldType := fun k => match k with
  | 0 => .array .int
  | 1 => .array .int
  | 2 => .array .int
  | 3 => .array .int
  | 4 => .array .int
  | 5 => .int
  | _ => .int
abbrev wsX40 : List Cond := u_ws RX4 TX4 7
theorem nmX4 : ∀ a, a < 7 → ∀ b, b < 7 → a ≠ b → (TX4 a).2.1 ≠ (TX4 b).2.1 := by decide +kernel
theorem tyX4_ok : ∀ k, k < 7 → parseFieldDescriptor (TX4 k).2.2.1 = some (tyX4 k) := by decide +kernel
abbrev cX4_init : ByteArray := prog_6_method_1_code
def yX4_init : MethodName := ⟨RX4, "<init>", "()V"⟩
abbrev cX4_hasFirm : ByteArray := prog_6_method_2_code
def yX4_hasFirm : MethodName := ⟨RX4, "hasFirm", "(I)Z"⟩
abbrev cX4_hasObject : ByteArray := prog_6_method_3_code
def yX4_hasObject : MethodName := ⟨RX4, "hasObject", "(I)Z"⟩
abbrev cX4_addFirm : ByteArray := prog_6_method_4_code
def yX4_addFirm : MethodName := ⟨RX4, "addFirm", "(I)I"⟩
abbrev cX4_addObject : ByteArray := prog_6_method_5_code
def yX4_addObject : MethodName := ⟨RX4, "addObject", "(I)I"⟩
abbrev cX4_letRead : ByteArray := prog_6_method_6_code
def yX4_letRead : MethodName := ⟨RX4, "letRead", "(II)Z"⟩
abbrev cX4_onReading : ByteArray := prog_6_method_7_code
def yX4_onReading : MethodName := ⟨RX4, "onReading", "(II)I"⟩
abbrev cX4_onWriting : ByteArray := prog_6_method_8_code
def yX4_onWriting : MethodName := ⟨RX4, "onWriting", "(II)I"⟩
abbrev cX4_teachFirm : ByteArray := prog_6_method_9_code
def yX4_teachFirm : MethodName := ⟨RX4, "teachFirm", "(II)V"⟩
abbrev cX4_showFirm : ByteArray := prog_6_method_10_code
def yX4_showFirm : MethodName := ⟨RX4, "showFirm", "(II)V"⟩
def RX5 : String := "WallDesk"
def TX5 : u_T := fun k => match k with
  | 0 => ("WallDesk", "rolesOf", "[I", true)
  | 1 => ("WallDesk", "walls", "LWallDesk$Walls;", true)
  | 2 => ("WallDesk", "glasses", "LWallDesk$Glasses;", true)
  | 3 => ("WallDesk", "kinds", "[LWallDesk$Kind;", true)
  | 4 => ("WallDesk", "cases", "[LWallDesk$Case;", true)
  | 5 => ("WallDesk", "log", "LWallDesk$Log;", true)
  | 6 => ("WallDesk", "kindCount", "I", false)
  | 7 => ("WallDesk", "caseCount", "I", false)
  | _ => ("WallDesk", "now", "I", false)
def tyX5 : Nat → FieldType := fun k => match k with
  | 0 => .array .int
  | 1 => .object "WallDesk$Walls"
  | 2 => .object "WallDesk$Glasses"
  | 3 => .array (.object "WallDesk$Kind")
  | 4 => .array (.object "WallDesk$Case")
  | 5 => .object "WallDesk$Log"
  | 6 => .int
  | 7 => .int
  | _ => .int
abbrev wsX50 : List Cond := u_ws RX5 TX5 9
theorem nmX5 : ∀ a, a < 9 → ∀ b, b < 9 → a ≠ b → (TX5 a).2.1 ≠ (TX5 b).2.1 := by decide +kernel
theorem tyX5_ok : ∀ k, k < 9 → parseFieldDescriptor (TX5 k).2.2.1 = some (tyX5 k) := by decide +kernel
abbrev cX5_init : ByteArray := prog_1_method_1_code
def yX5_init : MethodName := ⟨RX5, "<init>", "()V"⟩
abbrev cX5_tick : ByteArray := prog_1_method_2_code
def yX5_tick : MethodName := ⟨RX5, "tick", "(I)I"⟩
abbrev cX5_roles : ByteArray := prog_1_method_3_code
def yX5_roles : MethodName := ⟨RX5, "roles", "(II)I"⟩
abbrev cX5_firm : ByteArray := prog_1_method_4_code
def yX5_firm : MethodName := ⟨RX5, "firm", "(I)I"⟩
abbrev cX5_object : ByteArray := prog_1_method_5_code
def yX5_object : MethodName := ⟨RX5, "object", "(I)I"⟩
abbrev cX5_read : ByteArray := prog_1_method_6_code
def yX5_read : MethodName := ⟨RX5, "read", "(II)I"⟩
abbrev cX5_write : ByteArray := prog_1_method_7_code
def yX5_write : MethodName := ⟨RX5, "write", "(II)I"⟩
abbrev cX5_glass : ByteArray := prog_1_method_8_code
def yX5_glass : MethodName := ⟨RX5, "glass", "(III)I"⟩
abbrev cX5_takeOff : ByteArray := prog_1_method_9_code
def yX5_takeOff : MethodName := ⟨RX5, "takeOff", "(II)I"⟩
abbrev cX5_kind : ByteArray := prog_1_method_10_code
def yX5_kind : MethodName := ⟨RX5, "kind", "()I"⟩
abbrev cX5_task : ByteArray := prog_1_method_11_code
def yX5_task : MethodName := ⟨RX5, "task", "(III)I"⟩
abbrev cX5_apart : ByteArray := prog_1_method_12_code
def yX5_apart : MethodName := ⟨RX5, "apart", "(III)I"⟩
abbrev cX5_bound : ByteArray := prog_1_method_13_code
def yX5_bound : MethodName := ⟨RX5, "bound", "(III)I"⟩
abbrev cX5_most : ByteArray := prog_1_method_14_code
def yX5_most : MethodName := ⟨RX5, "most", "(II)I"⟩
abbrev cX5_open : ByteArray := prog_1_method_15_code
def yX5_open : MethodName := ⟨RX5, "open", "(I)I"⟩
abbrev cX5_perform : ByteArray := prog_1_method_16_code
def yX5_perform : MethodName := ⟨RX5, "perform", "(III)I"⟩
abbrev cX5_canEnd : ByteArray := prog_1_method_17_code
def yX5_canEnd : MethodName := ⟨RX5, "canEnd", "(I)I"⟩
abbrev cX5_doer : ByteArray := prog_1_method_18_code
def yX5_doer : MethodName := ⟨RX5, "doer", "(II)I"⟩
abbrev cX5_told : ByteArray := prog_1_method_19_code
def yX5_told : MethodName := ⟨RX5, "told", "(II)I"⟩
abbrev cX5_glassTold : ByteArray := prog_1_method_20_code
def yX5_glassTold : MethodName := ⟨RX5, "glassTold", "(II)I"⟩
abbrev cX5_entry : ByteArray := prog_1_method_21_code
def yX5_entry : MethodName := ⟨RX5, "entry", "(II)I"⟩
abbrev cX5_link : ByteArray := prog_1_method_22_code
def yX5_link : MethodName := ⟨RX5, "link", "(I)J"⟩
abbrev cX5_alter : ByteArray := prog_1_method_23_code
def yX5_alter : MethodName := ⟨RX5, "alter", "(III)I"⟩
abbrev cX5_check : ByteArray := prog_1_method_24_code
def yX5_check : MethodName := ⟨RX5, "check", "()I"⟩
abbrev cX5_count : ByteArray := prog_1_method_25_code
def yX5_count : MethodName := ⟨RX5, "count", "(I)I"⟩
abbrev cX5_reach : ByteArray := prog_1_method_26_code
def yX5_reach : MethodName := ⟨RX5, "reach", "(III)I"⟩
abbrev cX5_kindAt : ByteArray := prog_1_method_27_code
def yX5_kindAt : MethodName := ⟨RX5, "kindAt", "(I)LWallDesk$Kind;"⟩
abbrev cX5_alterableKind : ByteArray := prog_1_method_28_code
def yX5_alterableKind : MethodName := ⟨RX5, "alterableKind", "(I)LWallDesk$Kind;"⟩
abbrev cX5_caseAt : ByteArray := prog_1_method_29_code
def yX5_caseAt : MethodName := ⟨RX5, "caseAt", "(I)LWallDesk$Case;"⟩
abbrev cX5_isUser : ByteArray := prog_1_method_30_code
def yX5_isUser : MethodName := ⟨RX5, "isUser", "(I)Z"⟩
abbrev cX5_isBelow : ByteArray := prog_1_method_31_code
def yX5_isBelow : MethodName := ⟨RX5, "isBelow", "(II)Z"⟩
abbrev cX5_hasBit : ByteArray := prog_1_method_32_code
def yX5_hasBit : MethodName := ⟨RX5, "hasBit", "(II)Z"⟩
abbrev cX5_asNumber : ByteArray := prog_1_method_33_code
def yX5_asNumber : MethodName := ⟨RX5, "asNumber", "(Z)I"⟩
abbrev cX5_joinPair : ByteArray := prog_1_method_34_code
def yX5_joinPair : MethodName := ⟨RX5, "joinPair", "([III)I"⟩
def RX6 : String := "WallDeskModel"
def TX6 : u_T := fun k => match k with
  | 0 => ("WallDeskModel", "now", "I", false)
  | 1 => ("WallDeskModel", "roles", "[I", true)
  | 2 => ("WallDeskModel", "known", "[I", true)
  | 3 => ("WallDeskModel", "seen", "[I", true)
  | 4 => ("WallDeskModel", "firmClass", "[I", true)
  | 5 => ("WallDeskModel", "firms", "I", false)
  | 6 => ("WallDeskModel", "objectFirm", "[I", true)
  | 7 => ("WallDeskModel", "objects", "I", false)
  | 8 => ("WallDeskModel", "glassUser", "[I", true)
  | 9 => ("WallDeskModel", "glassFirm", "[I", true)
  | 10 => ("WallDeskModel", "glassEnd", "[I", true)
  | 11 => ("WallDeskModel", "dutyOpen", "[Z", true)
  | 12 => ("WallDeskModel", "glasses", "I", false)
  | 13 => ("WallDeskModel", "taskMany", "[I", true)
  | 14 => ("WallDeskModel", "taskRole", "[I", true)
  | 15 => ("WallDeskModel", "taskBefore", "[I", true)
  | 16 => ("WallDeskModel", "isApart", "[Z", true)
  | 17 => ("WallDeskModel", "isBound", "[Z", true)
  | 18 => ("WallDeskModel", "mosts", "[I", true)
  | 19 => ("WallDeskModel", "kinds", "I", false)
  | 20 => ("WallDeskModel", "caseKind", "[I", true)
  | 21 => ("WallDeskModel", "doers", "[I", true)
  | 22 => ("WallDeskModel", "cases", "I", false)
  | 23 => ("WallDeskModel", "entries", "[I", true)
  | 24 => ("WallDeskModel", "links", "[J", true)
  | 25 => ("WallDeskModel", "many", "I", false)
  | _ => ("WallDeskModel", "tried", "[I", true)
def tyX6 : Nat → FieldType := fun k => match k with
  | 0 => .int
  | 1 => .array .int
  | 2 => .array .int
  | 3 => .array .int
  | 4 => .array .int
  | 5 => .int
  | 6 => .array .int
  | 7 => .int
  | 8 => .array .int
  | 9 => .array .int
  | 10 => .array .int
  | 11 => .array .boolean
  | 12 => .int
  | 13 => .array .int
  | 14 => .array .int
  | 15 => .array .int
  | 16 => .array .boolean
  | 17 => .array .boolean
  | 18 => .array .int
  | 19 => .int
  | 20 => .array .int
  | 21 => .array .int
  | 22 => .int
  | 23 => .array .int
  | 24 => .array .long
  | 25 => .int
  | _ => .array .int
abbrev wsX60 : List Cond := u_ws RX6 TX6 27
theorem nmX6 : ∀ a, a < 27 → ∀ b, b < 27 → a ≠ b → (TX6 a).2.1 ≠ (TX6 b).2.1 := by decide +kernel
theorem tyX6_ok : ∀ k, k < 27 → parseFieldDescriptor (TX6 k).2.2.1 = some (tyX6 k) := by decide +kernel
abbrev cX6_init : ByteArray := prog_8_method_1_code
def yX6_init : MethodName := ⟨RX6, "<init>", "()V"⟩
abbrev cX6_isIn : ByteArray := prog_8_method_2_code
def yX6_isIn : MethodName := ⟨RX6, "isIn", "(III)Z"⟩
abbrev cX6_isUser : ByteArray := prog_8_method_3_code
def yX6_isUser : MethodName := ⟨RX6, "isUser", "(I)Z"⟩
abbrev cX6_tick : ByteArray := prog_8_method_4_code
def yX6_tick : MethodName := ⟨RX6, "tick", "(I)I"⟩
abbrev cX6_roles : ByteArray := prog_8_method_5_code
def yX6_roles : MethodName := ⟨RX6, "roles", "(II)I"⟩
abbrev cX6_firm : ByteArray := prog_8_method_6_code
def yX6_firm : MethodName := ⟨RX6, "firm", "(I)I"⟩
abbrev cX6_object : ByteArray := prog_8_method_7_code
def yX6_object : MethodName := ⟨RX6, "object", "(I)I"⟩
abbrev cX6_linkOf : ByteArray := prog_8_method_8_code
def yX6_linkOf : MethodName := ⟨RX6, "linkOf", "(JIIIII)J"⟩
abbrev cX6_linkAt : ByteArray := prog_8_method_9_code
def yX6_linkAt : MethodName := ⟨RX6, "linkAt", "(I)J"⟩
abbrev cX6_enter : ByteArray := prog_8_method_10_code
def yX6_enter : MethodName := ⟨RX6, "enter", "(IIII)V"⟩
abbrev cX6_isOpen : ByteArray := prog_8_method_11_code
def yX6_isOpen : MethodName := ⟨RX6, "isOpen", "(I)Z"⟩
abbrev cX6_isWalled : ByteArray := prog_8_method_12_code
def yX6_isWalled : MethodName := ⟨RX6, "isWalled", "(II)Z"⟩
abbrev cX6_hasGlass : ByteArray := prog_8_method_13_code
def yX6_hasGlass : MethodName := ⟨RX6, "hasGlass", "(II)Z"⟩
abbrev cX6_read : ByteArray := prog_8_method_14_code
def yX6_read : MethodName := ⟨RX6, "read", "(II)I"⟩
abbrev cX6_write : ByteArray := prog_8_method_15_code
def yX6_write : MethodName := ⟨RX6, "write", "(II)I"⟩
abbrev cX6_access : ByteArray := prog_8_method_16_code
def yX6_access : MethodName := ⟨RX6, "access", "(III)I"⟩
abbrev cX6_duties : ByteArray := prog_8_method_17_code
def yX6_duties : MethodName := ⟨RX6, "duties", "(I)I"⟩
abbrev cX6_isLate : ByteArray := prog_8_method_18_code
def yX6_isLate : MethodName := ⟨RX6, "isLate", "(I)Z"⟩
abbrev cX6_glass : ByteArray := prog_8_method_19_code
def yX6_glass : MethodName := ⟨RX6, "glass", "(III)I"⟩
abbrev cX6_takeOff : ByteArray := prog_8_method_20_code
def yX6_takeOff : MethodName := ⟨RX6, "takeOff", "(II)I"⟩
abbrev cX6_kind : ByteArray := prog_8_method_21_code
def yX6_kind : MethodName := ⟨RX6, "kind", "()I"⟩
abbrev cX6_isFree : ByteArray := prog_8_method_22_code
def yX6_isFree : MethodName := ⟨RX6, "isFree", "(I)Z"⟩
abbrev cX6_task : ByteArray := prog_8_method_23_code
def yX6_task : MethodName := ⟨RX6, "task", "(III)I"⟩
abbrev cX6_arePair : ByteArray := prog_8_method_24_code
def yX6_arePair : MethodName := ⟨RX6, "arePair", "(III)Z"⟩
abbrev cX6_pair : ByteArray := prog_8_method_25_code
def yX6_pair : MethodName := ⟨RX6, "pair", "(III)I"⟩
abbrev cX6_apart : ByteArray := prog_8_method_26_code
def yX6_apart : MethodName := ⟨RX6, "apart", "(III)I"⟩
abbrev cX6_bound : ByteArray := prog_8_method_27_code
def yX6_bound : MethodName := ⟨RX6, "bound", "(III)I"⟩
abbrev cX6_most : ByteArray := prog_8_method_28_code
def yX6_most : MethodName := ⟨RX6, "most", "(II)I"⟩
abbrev cX6_open : ByteArray := prog_8_method_29_code
def yX6_open : MethodName := ⟨RX6, "open", "(I)I"⟩
abbrev cX6_isTask : ByteArray := prog_8_method_30_code
def yX6_isTask : MethodName := ⟨RX6, "isTask", "(II)Z"⟩
abbrev cX6_isFit : ByteArray := prog_8_method_31_code
def yX6_isFit : MethodName := ⟨RX6, "isFit", "(II)Z"⟩
abbrev cX6_canBe : ByteArray := prog_8_method_32_code
def yX6_canBe : MethodName := ⟨RX6, "canBe", "(I)Z"⟩
abbrev cX6_canEnd : ByteArray := prog_8_method_33_code
def yX6_canEnd : MethodName := ⟨RX6, "canEnd", "(I)I"⟩
abbrev cX6_doer : ByteArray := prog_8_method_34_code
def yX6_doer : MethodName := ⟨RX6, "doer", "(II)I"⟩
abbrev cX6_perform : ByteArray := prog_8_method_35_code
def yX6_perform : MethodName := ⟨RX6, "perform", "(III)I"⟩
abbrev cX6_told : ByteArray := prog_8_method_36_code
def yX6_told : MethodName := ⟨RX6, "told", "(II)I"⟩
abbrev cX6_glassTold : ByteArray := prog_8_method_37_code
def yX6_glassTold : MethodName := ⟨RX6, "glassTold", "(II)I"⟩
abbrev cX6_entry : ByteArray := prog_8_method_38_code
def yX6_entry : MethodName := ⟨RX6, "entry", "(II)I"⟩
abbrev cX6_link : ByteArray := prog_8_method_39_code
def yX6_link : MethodName := ⟨RX6, "link", "(I)J"⟩
abbrev cX6_alter : ByteArray := prog_8_method_40_code
def yX6_alter : MethodName := ⟨RX6, "alter", "(III)I"⟩
abbrev cX6_check : ByteArray := prog_8_method_41_code
def yX6_check : MethodName := ⟨RX6, "check", "()I"⟩
abbrev cX6_count : ByteArray := prog_8_method_42_code
def yX6_count : MethodName := ⟨RX6, "count", "(I)I"⟩
def RJ6 : String := "java/lang/Integer"
def TJ6 : u_T := fun k => match k with
  | _ => ("", "", "", false)
def tyJ6 : Nat → FieldType := fun k => match k with
  | _ => .int
abbrev wsJ60 : List Cond := u_ws RJ6 TJ6 0
theorem nmJ6 : ∀ a, a < 0 → ∀ b, b < 0 → a ≠ b → (TJ6 a).2.1 ≠ (TJ6 b).2.1 := by decide +kernel
theorem tyJ6_ok : ∀ k, k < 0 → parseFieldDescriptor (TJ6 k).2.2.1 = some (tyJ6 k) := by decide +kernel
abbrev cJ6_bitCount_0f7a4 : ByteArray := prog_9_method_49_code
def yJ6_bitCount_0f7a4 : MethodName := ⟨RJ6, "bitCount", "(I)I"⟩
def RJ9 : String := "java/lang/Math"
def TJ9 : u_T := fun k => match k with
  | _ => ("", "", "", false)
def tyJ9 : Nat → FieldType := fun k => match k with
  | _ => .int
abbrev wsJ90 : List Cond := u_ws RJ9 TJ9 0
theorem nmJ9 : ∀ a, a < 0 → ∀ b, b < 0 → a ≠ b → (TJ9 a).2.1 ≠ (TJ9 b).2.1 := by decide +kernel
theorem tyJ9_ok : ∀ k, k < 0 → parseFieldDescriptor (TJ9 k).2.2.1 = some (tyJ9 k) := by decide +kernel
abbrev cJ9_max_7cf53 : ByteArray := prog_10_method_65_code
def yJ9_max_7cf53 : MethodName := ⟨RJ9, "max", "(II)I"⟩
abbrev cJ9_min_7cf53 : ByteArray := prog_10_method_69_code
def yJ9_min_7cf53 : MethodName := ⟨RJ9, "min", "(II)I"⟩
def RL : String := "WallDeskLaw"
abbrev cL_law : ByteArray := code
def yL_law : MethodName := ⟨RL, "law", "([I)Z"⟩
abbrev vwCl : List vw_C := [(RX0, TX0, 2), (RX1, TX1, 5), (RX2, TX2, 7), (RX3, TX3, 3), (RX4, TX4, 7), (RX5, TX5, 9), (RX6, TX6, 27)]
end
section
theorem dX1_init_0 : decode cX1_init 0 = .ok (.aload_n 0, 1) := by decide +kernel
theorem dX1_init_1 : decode cX1_init 1 = .ok (.invokespecial 3, 3) := by decide +kernel
theorem dX1_init_4 : decode cX1_init 4 = .ok (.aload_n 0, 1) := by decide +kernel
theorem dX1_init_5 : decode cX1_init 5 = .ok (.bipush 40, 2) := by decide +kernel
theorem dX1_init_7 : decode cX1_init 7 = .ok (.newarray .int, 2) := by decide +kernel
theorem dX1_init_9 : decode cX1_init 9 = .ok (.putfield 9, 3) := by decide +kernel
theorem dX1_init_12 : decode cX1_init 12 = .ok (.aload_n 0, 1) := by decide +kernel
theorem dX1_init_13 : decode cX1_init 13 = .ok (.bipush 40, 2) := by decide +kernel
theorem dX1_init_15 : decode cX1_init 15 = .ok (.newarray .int, 2) := by decide +kernel
theorem dX1_init_17 : decode cX1_init 17 = .ok (.putfield 15, 3) := by decide +kernel
theorem dX1_init_20 : decode cX1_init 20 = .ok (.aload_n 0, 1) := by decide +kernel
theorem dX1_init_21 : decode cX1_init 21 = .ok (.bipush 40, 2) := by decide +kernel
theorem dX1_init_23 : decode cX1_init 23 = .ok (.newarray .int, 2) := by decide +kernel
theorem dX1_init_25 : decode cX1_init 25 = .ok (.putfield 18, 3) := by decide +kernel
theorem dX1_init_28 : decode cX1_init 28 = .ok (.aload_n 0, 1) := by decide +kernel
theorem dX1_init_29 : decode cX1_init 29 = .ok (.bipush 40, 2) := by decide +kernel
theorem dX1_init_31 : decode cX1_init 31 = .ok (.newarray .boolean, 2) := by decide +kernel
theorem dX1_init_33 : decode cX1_init 33 = .ok (.putfield 21, 3) := by decide +kernel
theorem dX1_init_36 : decode cX1_init 36 = .ok (.return_, 1) := by decide +kernel
theorem dX1_has_0 : decode cX1_has 0 = .ok (.iload_n 1, 1) := by decide +kernel
theorem dX1_has_1 : decode cX1_has 1 = .ok (.aload_n 0, 1) := by decide +kernel
theorem dX1_has_2 : decode cX1_has 2 = .ok (.getfield 25, 3) := by decide +kernel
theorem dX1_has_5 : decode cX1_has 5 = .ok (.invokestatic 29, 3) := by decide +kernel
theorem dX1_has_8 : decode cX1_has 8 = .ok (.ireturn, 1) := by decide +kernel
theorem dX1_isFull_0 : decode cX1_isFull 0 = .ok (.aload_n 0, 1) := by decide +kernel
theorem dX1_isFull_1 : decode cX1_isFull 1 = .ok (.getfield 25, 3) := by decide +kernel
theorem dX1_isFull_4 : decode cX1_isFull 4 = .ok (.bipush 40, 2) := by decide +kernel
theorem dX1_isFull_6 : decode cX1_isFull 6 = .ok (.if_icmp .lt 7, 3) := by decide +kernel
theorem dX1_isFull_9 : decode cX1_isFull 9 = .ok (.iconst 1, 1) := by decide +kernel
theorem dX1_isFull_10 : decode cX1_isFull 10 = .ok (.goto 4, 3) := by decide +kernel
theorem dX1_isFull_13 : decode cX1_isFull 13 = .ok (.iconst 0, 1) := by decide +kernel
theorem dX1_isFull_14 : decode cX1_isFull 14 = .ok (.ireturn, 1) := by decide +kernel
theorem dX1_addGlass_0 : decode cX1_addGlass 0 = .ok (.aload_n 0, 1) := by decide +kernel
theorem dX1_addGlass_1 : decode cX1_addGlass 1 = .ok (.getfield 9, 3) := by decide +kernel
theorem dX1_addGlass_4 : decode cX1_addGlass 4 = .ok (.aload_n 0, 1) := by decide +kernel
theorem dX1_addGlass_5 : decode cX1_addGlass 5 = .ok (.getfield 25, 3) := by decide +kernel
theorem dX1_addGlass_8 : decode cX1_addGlass 8 = .ok (.iload_n 1, 1) := by decide +kernel
theorem dX1_addGlass_9 : decode cX1_addGlass 9 = .ok (.iastore, 1) := by decide +kernel
theorem dX1_addGlass_10 : decode cX1_addGlass 10 = .ok (.aload_n 0, 1) := by decide +kernel
theorem dX1_addGlass_11 : decode cX1_addGlass 11 = .ok (.getfield 15, 3) := by decide +kernel
theorem dX1_addGlass_14 : decode cX1_addGlass 14 = .ok (.aload_n 0, 1) := by decide +kernel
theorem dX1_addGlass_15 : decode cX1_addGlass 15 = .ok (.getfield 25, 3) := by decide +kernel
theorem dX1_addGlass_18 : decode cX1_addGlass 18 = .ok (.iload_n 2, 1) := by decide +kernel
theorem dX1_addGlass_19 : decode cX1_addGlass 19 = .ok (.iastore, 1) := by decide +kernel
theorem dX1_addGlass_20 : decode cX1_addGlass 20 = .ok (.aload_n 0, 1) := by decide +kernel
theorem dX1_addGlass_21 : decode cX1_addGlass 21 = .ok (.getfield 18, 3) := by decide +kernel
theorem dX1_addGlass_24 : decode cX1_addGlass 24 = .ok (.aload_n 0, 1) := by decide +kernel
theorem dX1_addGlass_25 : decode cX1_addGlass 25 = .ok (.getfield 25, 3) := by decide +kernel
theorem dX1_addGlass_28 : decode cX1_addGlass 28 = .ok (.iload_n 3, 1) := by decide +kernel
theorem dX1_addGlass_29 : decode cX1_addGlass 29 = .ok (.iastore, 1) := by decide +kernel
theorem dX1_addGlass_30 : decode cX1_addGlass 30 = .ok (.aload_n 0, 1) := by decide +kernel
theorem dX1_addGlass_31 : decode cX1_addGlass 31 = .ok (.getfield 21, 3) := by decide +kernel
theorem dX1_addGlass_34 : decode cX1_addGlass 34 = .ok (.aload_n 0, 1) := by decide +kernel
theorem dX1_addGlass_35 : decode cX1_addGlass 35 = .ok (.getfield 25, 3) := by decide +kernel
theorem dX1_addGlass_38 : decode cX1_addGlass 38 = .ok (.iconst 1, 1) := by decide +kernel
theorem dX1_addGlass_39 : decode cX1_addGlass 39 = .ok (.bastore, 1) := by decide +kernel
theorem dX1_addGlass_40 : decode cX1_addGlass 40 = .ok (.aload_n 0, 1) := by decide +kernel
theorem dX1_addGlass_41 : decode cX1_addGlass 41 = .ok (.dup, 1) := by decide +kernel
theorem dX1_addGlass_42 : decode cX1_addGlass 42 = .ok (.getfield 25, 3) := by decide +kernel
theorem dX1_addGlass_45 : decode cX1_addGlass 45 = .ok (.iconst 1, 1) := by decide +kernel
theorem dX1_addGlass_46 : decode cX1_addGlass 46 = .ok (.iadd, 1) := by decide +kernel
theorem dX1_addGlass_47 : decode cX1_addGlass 47 = .ok (.putfield 25, 3) := by decide +kernel
theorem dX1_addGlass_50 : decode cX1_addGlass 50 = .ok (.aload_n 0, 1) := by decide +kernel
theorem dX1_addGlass_51 : decode cX1_addGlass 51 = .ok (.getfield 25, 3) := by decide +kernel
theorem dX1_addGlass_54 : decode cX1_addGlass 54 = .ok (.iconst 1, 1) := by decide +kernel
theorem dX1_addGlass_55 : decode cX1_addGlass 55 = .ok (.isub, 1) := by decide +kernel
theorem dX1_addGlass_56 : decode cX1_addGlass 56 = .ok (.ireturn, 1) := by decide +kernel
theorem dX1_runs_0 : decode cX1_runs 0 = .ok (.iload_n 2, 1) := by decide +kernel
theorem dX1_runs_1 : decode cX1_runs 1 = .ok (.aload_n 0, 1) := by decide +kernel
theorem dX1_runs_2 : decode cX1_runs 2 = .ok (.getfield 18, 3) := by decide +kernel
theorem dX1_runs_5 : decode cX1_runs 5 = .ok (.iload_n 1, 1) := by decide +kernel
theorem dX1_runs_6 : decode cX1_runs 6 = .ok (.iaload, 1) := by decide +kernel
theorem dX1_runs_7 : decode cX1_runs 7 = .ok (.if_icmp .ge 7, 3) := by decide +kernel
theorem dX1_runs_10 : decode cX1_runs 10 = .ok (.iconst 1, 1) := by decide +kernel
theorem dX1_runs_11 : decode cX1_runs 11 = .ok (.goto 4, 3) := by decide +kernel
theorem dX1_runs_14 : decode cX1_runs 14 = .ok (.iconst 0, 1) := by decide +kernel
theorem dX1_runs_15 : decode cX1_runs 15 = .ok (.ireturn, 1) := by decide +kernel
theorem dX1_due_0 : decode cX1_due 0 = .ok (.aload_n 0, 1) := by decide +kernel
theorem dX1_due_1 : decode cX1_due 1 = .ok (.getfield 18, 3) := by decide +kernel
theorem dX1_due_4 : decode cX1_due 4 = .ok (.iload_n 1, 1) := by decide +kernel
theorem dX1_due_5 : decode cX1_due 5 = .ok (.iaload, 1) := by decide +kernel
theorem dX1_due_6 : decode cX1_due 6 = .ok (.bipush 100, 2) := by decide +kernel
theorem dX1_due_8 : decode cX1_due 8 = .ok (.iadd, 1) := by decide +kernel
theorem dX1_due_9 : decode cX1_due 9 = .ok (.ireturn, 1) := by decide +kernel
theorem dX1_anyRuns_0 : decode cX1_anyRuns 0 = .ok (.iconst 0, 1) := by decide +kernel
theorem dX1_anyRuns_1 : decode cX1_anyRuns 1 = .ok (.istore 4, 2) := by decide +kernel
theorem dX1_anyRuns_3 : decode cX1_anyRuns 3 = .ok (.iload 4, 2) := by decide +kernel
theorem dX1_anyRuns_5 : decode cX1_anyRuns 5 = .ok (.aload_n 0, 1) := by decide +kernel
theorem dX1_anyRuns_6 : decode cX1_anyRuns 6 = .ok (.getfield 25, 3) := by decide +kernel
theorem dX1_anyRuns_9 : decode cX1_anyRuns 9 = .ok (.if_icmp .ge 43, 3) := by decide +kernel
theorem dX1_anyRuns_12 : decode cX1_anyRuns 12 = .ok (.aload_n 0, 1) := by decide +kernel
theorem dX1_anyRuns_13 : decode cX1_anyRuns 13 = .ok (.getfield 9, 3) := by decide +kernel
theorem dX1_anyRuns_16 : decode cX1_anyRuns 16 = .ok (.iload 4, 2) := by decide +kernel
theorem dX1_anyRuns_18 : decode cX1_anyRuns 18 = .ok (.iaload, 1) := by decide +kernel
theorem dX1_anyRuns_19 : decode cX1_anyRuns 19 = .ok (.iload_n 1, 1) := by decide +kernel
theorem dX1_anyRuns_20 : decode cX1_anyRuns 20 = .ok (.if_icmp .ne 26, 3) := by decide +kernel
theorem dX1_anyRuns_23 : decode cX1_anyRuns 23 = .ok (.aload_n 0, 1) := by decide +kernel
theorem dX1_anyRuns_24 : decode cX1_anyRuns 24 = .ok (.getfield 15, 3) := by decide +kernel
theorem dX1_anyRuns_27 : decode cX1_anyRuns 27 = .ok (.iload 4, 2) := by decide +kernel
theorem dX1_anyRuns_29 : decode cX1_anyRuns 29 = .ok (.iaload, 1) := by decide +kernel
theorem dX1_anyRuns_30 : decode cX1_anyRuns 30 = .ok (.iload_n 2, 1) := by decide +kernel
theorem dX1_anyRuns_31 : decode cX1_anyRuns 31 = .ok (.if_icmp .ne 15, 3) := by decide +kernel
theorem dX1_anyRuns_34 : decode cX1_anyRuns 34 = .ok (.aload_n 0, 1) := by decide +kernel
theorem dX1_anyRuns_35 : decode cX1_anyRuns 35 = .ok (.iload 4, 2) := by decide +kernel
theorem dX1_anyRuns_37 : decode cX1_anyRuns 37 = .ok (.iload_n 3, 1) := by decide +kernel
theorem dX1_anyRuns_38 : decode cX1_anyRuns 38 = .ok (.invokevirtual 33, 3) := by decide +kernel
theorem dX1_anyRuns_41 : decode cX1_anyRuns 41 = .ok (.ifCond .eq 5, 3) := by decide +kernel
theorem dX1_anyRuns_44 : decode cX1_anyRuns 44 = .ok (.iconst 1, 1) := by decide +kernel
theorem dX1_anyRuns_45 : decode cX1_anyRuns 45 = .ok (.ireturn, 1) := by decide +kernel
theorem dX1_anyRuns_46 : decode cX1_anyRuns 46 = .ok (.iinc 4 1, 3) := by decide +kernel
theorem dX1_anyRuns_49 : decode cX1_anyRuns 49 = .ok (.goto (-46), 3) := by decide +kernel
theorem dX1_anyRuns_52 : decode cX1_anyRuns 52 = .ok (.iconst 0, 1) := by decide +kernel
theorem dX1_anyRuns_53 : decode cX1_anyRuns 53 = .ok (.ireturn, 1) := by decide +kernel
theorem dX1_openDuties_0 : decode cX1_openDuties 0 = .ok (.iconst 0, 1) := by decide +kernel
theorem dX1_openDuties_1 : decode cX1_openDuties 1 = .ok (.istore_n 2, 1) := by decide +kernel
theorem dX1_openDuties_2 : decode cX1_openDuties 2 = .ok (.iconst 0, 1) := by decide +kernel
theorem dX1_openDuties_3 : decode cX1_openDuties 3 = .ok (.istore_n 3, 1) := by decide +kernel
theorem dX1_openDuties_4 : decode cX1_openDuties 4 = .ok (.iload_n 3, 1) := by decide +kernel
theorem dX1_openDuties_5 : decode cX1_openDuties 5 = .ok (.aload_n 0, 1) := by decide +kernel
theorem dX1_openDuties_6 : decode cX1_openDuties 6 = .ok (.getfield 25, 3) := by decide +kernel
theorem dX1_openDuties_9 : decode cX1_openDuties 9 = .ok (.if_icmp .ge 31, 3) := by decide +kernel
theorem dX1_openDuties_12 : decode cX1_openDuties 12 = .ok (.aload_n 0, 1) := by decide +kernel
theorem dX1_openDuties_13 : decode cX1_openDuties 13 = .ok (.getfield 9, 3) := by decide +kernel
theorem dX1_openDuties_16 : decode cX1_openDuties 16 = .ok (.iload_n 3, 1) := by decide +kernel
theorem dX1_openDuties_17 : decode cX1_openDuties 17 = .ok (.iaload, 1) := by decide +kernel
theorem dX1_openDuties_18 : decode cX1_openDuties 18 = .ok (.iload_n 1, 1) := by decide +kernel
theorem dX1_openDuties_19 : decode cX1_openDuties 19 = .ok (.if_icmp .ne 15, 3) := by decide +kernel
theorem dX1_openDuties_22 : decode cX1_openDuties 22 = .ok (.aload_n 0, 1) := by decide +kernel
theorem dX1_openDuties_23 : decode cX1_openDuties 23 = .ok (.getfield 21, 3) := by decide +kernel
theorem dX1_openDuties_26 : decode cX1_openDuties 26 = .ok (.iload_n 3, 1) := by decide +kernel
theorem dX1_openDuties_27 : decode cX1_openDuties 27 = .ok (.baload, 1) := by decide +kernel
theorem dX1_openDuties_28 : decode cX1_openDuties 28 = .ok (.ifCond .eq 6, 3) := by decide +kernel
theorem dX1_openDuties_31 : decode cX1_openDuties 31 = .ok (.iinc 2 1, 3) := by decide +kernel
theorem dX1_openDuties_34 : decode cX1_openDuties 34 = .ok (.iinc 3 1, 3) := by decide +kernel
theorem dX1_openDuties_37 : decode cX1_openDuties 37 = .ok (.goto (-33), 3) := by decide +kernel
theorem dX1_openDuties_40 : decode cX1_openDuties 40 = .ok (.iload_n 2, 1) := by decide +kernel
theorem dX1_openDuties_41 : decode cX1_openDuties 41 = .ok (.ireturn, 1) := by decide +kernel
theorem dX1_anyDue_0 : decode cX1_anyDue 0 = .ok (.iconst 0, 1) := by decide +kernel
theorem dX1_anyDue_1 : decode cX1_anyDue 1 = .ok (.istore_n 3, 1) := by decide +kernel
theorem dX1_anyDue_2 : decode cX1_anyDue 2 = .ok (.iload_n 3, 1) := by decide +kernel
theorem dX1_anyDue_3 : decode cX1_anyDue 3 = .ok (.aload_n 0, 1) := by decide +kernel
theorem dX1_anyDue_4 : decode cX1_anyDue 4 = .ok (.getfield 25, 3) := by decide +kernel
theorem dX1_anyDue_7 : decode cX1_anyDue 7 = .ok (.if_icmp .ge 39, 3) := by decide +kernel
theorem dX1_anyDue_10 : decode cX1_anyDue 10 = .ok (.aload_n 0, 1) := by decide +kernel
theorem dX1_anyDue_11 : decode cX1_anyDue 11 = .ok (.getfield 9, 3) := by decide +kernel
theorem dX1_anyDue_14 : decode cX1_anyDue 14 = .ok (.iload_n 3, 1) := by decide +kernel
theorem dX1_anyDue_15 : decode cX1_anyDue 15 = .ok (.iaload, 1) := by decide +kernel
theorem dX1_anyDue_16 : decode cX1_anyDue 16 = .ok (.iload_n 1, 1) := by decide +kernel
theorem dX1_anyDue_17 : decode cX1_anyDue 17 = .ok (.if_icmp .ne 23, 3) := by decide +kernel
theorem dX1_anyDue_20 : decode cX1_anyDue 20 = .ok (.aload_n 0, 1) := by decide +kernel
theorem dX1_anyDue_21 : decode cX1_anyDue 21 = .ok (.getfield 21, 3) := by decide +kernel
theorem dX1_anyDue_24 : decode cX1_anyDue 24 = .ok (.iload_n 3, 1) := by decide +kernel
theorem dX1_anyDue_25 : decode cX1_anyDue 25 = .ok (.baload, 1) := by decide +kernel
theorem dX1_anyDue_26 : decode cX1_anyDue 26 = .ok (.ifCond .eq 14, 3) := by decide +kernel
theorem dX1_anyDue_29 : decode cX1_anyDue 29 = .ok (.iload_n 2, 1) := by decide +kernel
theorem dX1_anyDue_30 : decode cX1_anyDue 30 = .ok (.aload_n 0, 1) := by decide +kernel
theorem dX1_anyDue_31 : decode cX1_anyDue 31 = .ok (.iload_n 3, 1) := by decide +kernel
theorem dX1_anyDue_32 : decode cX1_anyDue 32 = .ok (.invokevirtual 36, 3) := by decide +kernel
theorem dX1_anyDue_35 : decode cX1_anyDue 35 = .ok (.if_icmp .lt 5, 3) := by decide +kernel
theorem dX1_anyDue_38 : decode cX1_anyDue 38 = .ok (.iconst 1, 1) := by decide +kernel
theorem dX1_anyDue_39 : decode cX1_anyDue 39 = .ok (.ireturn, 1) := by decide +kernel
theorem dX1_anyDue_40 : decode cX1_anyDue 40 = .ok (.iinc 3 1, 3) := by decide +kernel
theorem dX1_anyDue_43 : decode cX1_anyDue 43 = .ok (.goto (-41), 3) := by decide +kernel
theorem dX1_anyDue_46 : decode cX1_anyDue 46 = .ok (.iconst 0, 1) := by decide +kernel
theorem dX1_anyDue_47 : decode cX1_anyDue 47 = .ok (.ireturn, 1) := by decide +kernel
theorem dX2_init_0 : decode cX2_init 0 = .ok (.aload_n 0, 1) := by decide +kernel
theorem dX2_init_1 : decode cX2_init 1 = .ok (.invokespecial 3, 3) := by decide +kernel
theorem dX2_init_4 : decode cX2_init 4 = .ok (.aload_n 0, 1) := by decide +kernel
theorem dX2_init_5 : decode cX2_init 5 = .ok (.bipush 6, 2) := by decide +kernel
theorem dX2_init_7 : decode cX2_init 7 = .ok (.newarray .int, 2) := by decide +kernel
theorem dX2_init_9 : decode cX2_init 9 = .ok (.putfield 9, 3) := by decide +kernel
theorem dX2_init_12 : decode cX2_init 12 = .ok (.aload_n 0, 1) := by decide +kernel
theorem dX2_init_13 : decode cX2_init 13 = .ok (.bipush 6, 2) := by decide +kernel
theorem dX2_init_15 : decode cX2_init 15 = .ok (.newarray .int, 2) := by decide +kernel
theorem dX2_init_17 : decode cX2_init 17 = .ok (.putfield 15, 3) := by decide +kernel
theorem dX2_init_20 : decode cX2_init 20 = .ok (.aload_n 0, 1) := by decide +kernel
theorem dX2_init_21 : decode cX2_init 21 = .ok (.bipush 6, 2) := by decide +kernel
theorem dX2_init_23 : decode cX2_init 23 = .ok (.newarray .int, 2) := by decide +kernel
theorem dX2_init_25 : decode cX2_init 25 = .ok (.putfield 18, 3) := by decide +kernel
theorem dX2_init_28 : decode cX2_init 28 = .ok (.aload_n 0, 1) := by decide +kernel
theorem dX2_init_29 : decode cX2_init 29 = .ok (.bipush 6, 2) := by decide +kernel
theorem dX2_init_31 : decode cX2_init 31 = .ok (.newarray .int, 2) := by decide +kernel
theorem dX2_init_33 : decode cX2_init 33 = .ok (.putfield 21, 3) := by decide +kernel
theorem dX2_init_36 : decode cX2_init 36 = .ok (.aload_n 0, 1) := by decide +kernel
theorem dX2_init_37 : decode cX2_init 37 = .ok (.bipush 6, 2) := by decide +kernel
theorem dX2_init_39 : decode cX2_init 39 = .ok (.putfield 24, 3) := by decide +kernel
theorem dX2_init_42 : decode cX2_init 42 = .ok (.return_, 1) := by decide +kernel
theorem dX2_hasTask_0 : decode cX2_hasTask 0 = .ok (.iload_n 1, 1) := by decide +kernel
theorem dX2_hasTask_1 : decode cX2_hasTask 1 = .ok (.aload_n 0, 1) := by decide +kernel
theorem dX2_hasTask_2 : decode cX2_hasTask 2 = .ok (.getfield 28, 3) := by decide +kernel
theorem dX2_hasTask_5 : decode cX2_hasTask 5 = .ok (.invokestatic 31, 3) := by decide +kernel
theorem dX2_hasTask_8 : decode cX2_hasTask 8 = .ok (.ireturn, 1) := by decide +kernel
theorem dX2_arePair_0 : decode cX2_arePair 0 = .ok (.aload_n 0, 1) := by decide +kernel
theorem dX2_arePair_1 : decode cX2_arePair 1 = .ok (.iload_n 1, 1) := by decide +kernel
theorem dX2_arePair_2 : decode cX2_arePair 2 = .ok (.invokevirtual 35, 3) := by decide +kernel
theorem dX2_arePair_5 : decode cX2_arePair 5 = .ok (.ifCond .eq 20, 3) := by decide +kernel
theorem dX2_arePair_8 : decode cX2_arePair 8 = .ok (.aload_n 0, 1) := by decide +kernel
theorem dX2_arePair_9 : decode cX2_arePair 9 = .ok (.iload_n 2, 1) := by decide +kernel
theorem dX2_arePair_10 : decode cX2_arePair 10 = .ok (.invokevirtual 35, 3) := by decide +kernel
theorem dX2_arePair_13 : decode cX2_arePair 13 = .ok (.ifCond .eq 12, 3) := by decide +kernel
theorem dX2_arePair_16 : decode cX2_arePair 16 = .ok (.iload_n 1, 1) := by decide +kernel
theorem dX2_arePair_17 : decode cX2_arePair 17 = .ok (.iload_n 2, 1) := by decide +kernel
theorem dX2_arePair_18 : decode cX2_arePair 18 = .ok (.if_icmp .eq 7, 3) := by decide +kernel
theorem dX2_arePair_21 : decode cX2_arePair 21 = .ok (.iconst 1, 1) := by decide +kernel
theorem dX2_arePair_22 : decode cX2_arePair 22 = .ok (.goto 4, 3) := by decide +kernel
theorem dX2_arePair_25 : decode cX2_arePair 25 = .ok (.iconst 0, 1) := by decide +kernel
theorem dX2_arePair_26 : decode cX2_arePair 26 = .ok (.ireturn, 1) := by decide +kernel
theorem dX2_taskBits_0 : decode cX2_taskBits 0 = .ok (.iconst 1, 1) := by decide +kernel
theorem dX2_taskBits_1 : decode cX2_taskBits 1 = .ok (.aload_n 0, 1) := by decide +kernel
theorem dX2_taskBits_2 : decode cX2_taskBits 2 = .ok (.getfield 28, 3) := by decide +kernel
theorem dX2_taskBits_5 : decode cX2_taskBits 5 = .ok (.ishl, 1) := by decide +kernel
theorem dX2_taskBits_6 : decode cX2_taskBits 6 = .ok (.iconst 1, 1) := by decide +kernel
theorem dX2_taskBits_7 : decode cX2_taskBits 7 = .ok (.isub, 1) := by decide +kernel
theorem dX2_taskBits_8 : decode cX2_taskBits 8 = .ok (.ireturn, 1) := by decide +kernel
theorem dX2_addTask_0 : decode cX2_addTask 0 = .ok (.aload_n 0, 1) := by decide +kernel
theorem dX2_addTask_1 : decode cX2_addTask 1 = .ok (.getfield 28, 3) := by decide +kernel
theorem dX2_addTask_4 : decode cX2_addTask 4 = .ok (.bipush 6, 2) := by decide +kernel
theorem dX2_addTask_6 : decode cX2_addTask 6 = .ok (.if_icmp .lt 6, 3) := by decide +kernel
theorem dX2_addTask_9 : decode cX2_addTask 9 = .ok (.bipush (-3), 2) := by decide +kernel
theorem dX2_addTask_11 : decode cX2_addTask 11 = .ok (.ireturn, 1) := by decide +kernel
theorem dX2_addTask_12 : decode cX2_addTask 12 = .ok (.aload_n 0, 1) := by decide +kernel
theorem dX2_addTask_13 : decode cX2_addTask 13 = .ok (.getfield 9, 3) := by decide +kernel
theorem dX2_addTask_16 : decode cX2_addTask 16 = .ok (.aload_n 0, 1) := by decide +kernel
theorem dX2_addTask_17 : decode cX2_addTask 17 = .ok (.getfield 28, 3) := by decide +kernel
theorem dX2_addTask_20 : decode cX2_addTask 20 = .ok (.iload_n 1, 1) := by decide +kernel
theorem dX2_addTask_21 : decode cX2_addTask 21 = .ok (.iastore, 1) := by decide +kernel
theorem dX2_addTask_22 : decode cX2_addTask 22 = .ok (.aload_n 0, 1) := by decide +kernel
theorem dX2_addTask_23 : decode cX2_addTask 23 = .ok (.getfield 15, 3) := by decide +kernel
theorem dX2_addTask_26 : decode cX2_addTask 26 = .ok (.aload_n 0, 1) := by decide +kernel
theorem dX2_addTask_27 : decode cX2_addTask 27 = .ok (.getfield 28, 3) := by decide +kernel
theorem dX2_addTask_30 : decode cX2_addTask 30 = .ok (.iload_n 2, 1) := by decide +kernel
theorem dX2_addTask_31 : decode cX2_addTask 31 = .ok (.iastore, 1) := by decide +kernel
theorem dX2_addTask_32 : decode cX2_addTask 32 = .ok (.aload_n 0, 1) := by decide +kernel
theorem dX2_addTask_33 : decode cX2_addTask 33 = .ok (.dup, 1) := by decide +kernel
theorem dX2_addTask_34 : decode cX2_addTask 34 = .ok (.getfield 28, 3) := by decide +kernel
theorem dX2_addTask_37 : decode cX2_addTask 37 = .ok (.iconst 1, 1) := by decide +kernel
theorem dX2_addTask_38 : decode cX2_addTask 38 = .ok (.iadd, 1) := by decide +kernel
theorem dX2_addTask_39 : decode cX2_addTask 39 = .ok (.putfield 28, 3) := by decide +kernel
theorem dX2_addTask_42 : decode cX2_addTask 42 = .ok (.aload_n 0, 1) := by decide +kernel
theorem dX2_addTask_43 : decode cX2_addTask 43 = .ok (.getfield 28, 3) := by decide +kernel
theorem dX2_addTask_46 : decode cX2_addTask 46 = .ok (.iconst 1, 1) := by decide +kernel
theorem dX2_addTask_47 : decode cX2_addTask 47 = .ok (.isub, 1) := by decide +kernel
theorem dX2_addTask_48 : decode cX2_addTask 48 = .ok (.ireturn, 1) := by decide +kernel
theorem dX2_tasksWithin_0 : decode cX2_tasksWithin 0 = .ok (.iconst 0, 1) := by decide +kernel
theorem dX2_tasksWithin_1 : decode cX2_tasksWithin 1 = .ok (.istore_n 2, 1) := by decide +kernel
theorem dX2_tasksWithin_2 : decode cX2_tasksWithin 2 = .ok (.iconst 0, 1) := by decide +kernel
theorem dX2_tasksWithin_3 : decode cX2_tasksWithin 3 = .ok (.istore_n 3, 1) := by decide +kernel
theorem dX2_tasksWithin_4 : decode cX2_tasksWithin 4 = .ok (.iload_n 3, 1) := by decide +kernel
theorem dX2_tasksWithin_5 : decode cX2_tasksWithin 5 = .ok (.aload_n 0, 1) := by decide +kernel
theorem dX2_tasksWithin_6 : decode cX2_tasksWithin 6 = .ok (.getfield 28, 3) := by decide +kernel
theorem dX2_tasksWithin_9 : decode cX2_tasksWithin 9 = .ok (.if_icmp .ge 28, 3) := by decide +kernel
theorem dX2_tasksWithin_12 : decode cX2_tasksWithin 12 = .ok (.iload_n 1, 1) := by decide +kernel
theorem dX2_tasksWithin_13 : decode cX2_tasksWithin 13 = .ok (.aload_n 0, 1) := by decide +kernel
theorem dX2_tasksWithin_14 : decode cX2_tasksWithin 14 = .ok (.getfield 9, 3) := by decide +kernel
theorem dX2_tasksWithin_17 : decode cX2_tasksWithin 17 = .ok (.iload_n 3, 1) := by decide +kernel
theorem dX2_tasksWithin_18 : decode cX2_tasksWithin 18 = .ok (.iaload, 1) := by decide +kernel
theorem dX2_tasksWithin_19 : decode cX2_tasksWithin 19 = .ok (.invokestatic 39, 3) := by decide +kernel
theorem dX2_tasksWithin_22 : decode cX2_tasksWithin 22 = .ok (.ifCond .eq 9, 3) := by decide +kernel
theorem dX2_tasksWithin_25 : decode cX2_tasksWithin 25 = .ok (.iload_n 2, 1) := by decide +kernel
theorem dX2_tasksWithin_26 : decode cX2_tasksWithin 26 = .ok (.iconst 1, 1) := by decide +kernel
theorem dX2_tasksWithin_27 : decode cX2_tasksWithin 27 = .ok (.iload_n 3, 1) := by decide +kernel
theorem dX2_tasksWithin_28 : decode cX2_tasksWithin 28 = .ok (.ishl, 1) := by decide +kernel
theorem dX2_tasksWithin_29 : decode cX2_tasksWithin 29 = .ok (.ior, 1) := by decide +kernel
theorem dX2_tasksWithin_30 : decode cX2_tasksWithin 30 = .ok (.istore_n 2, 1) := by decide +kernel
theorem dX2_tasksWithin_31 : decode cX2_tasksWithin 31 = .ok (.iinc 3 1, 3) := by decide +kernel
theorem dX2_tasksWithin_34 : decode cX2_tasksWithin 34 = .ok (.goto (-30), 3) := by decide +kernel
theorem dX2_tasksWithin_37 : decode cX2_tasksWithin 37 = .ok (.iload_n 2, 1) := by decide +kernel
theorem dX2_tasksWithin_38 : decode cX2_tasksWithin 38 = .ok (.ireturn, 1) := by decide +kernel
theorem dX2_allows_0 : decode cX2_allows 0 = .ok (.iload_n 1, 1) := by decide +kernel
theorem dX2_allows_1 : decode cX2_allows 1 = .ok (.invokestatic 42, 3) := by decide +kernel
theorem dX2_allows_4 : decode cX2_allows 4 = .ok (.aload_n 0, 1) := by decide +kernel
theorem dX2_allows_5 : decode cX2_allows 5 = .ok (.getfield 24, 3) := by decide +kernel
theorem dX2_allows_8 : decode cX2_allows 8 = .ok (.if_icmp .le 5, 3) := by decide +kernel
theorem dX2_allows_11 : decode cX2_allows 11 = .ok (.iconst 0, 1) := by decide +kernel
theorem dX2_allows_12 : decode cX2_allows 12 = .ok (.ireturn, 1) := by decide +kernel
theorem dX2_allows_13 : decode cX2_allows 13 = .ok (.iconst 0, 1) := by decide +kernel
theorem dX2_allows_14 : decode cX2_allows 14 = .ok (.istore_n 2, 1) := by decide +kernel
theorem dX2_allows_15 : decode cX2_allows 15 = .ok (.iload_n 2, 1) := by decide +kernel
theorem dX2_allows_16 : decode cX2_allows 16 = .ok (.aload_n 0, 1) := by decide +kernel
theorem dX2_allows_17 : decode cX2_allows 17 = .ok (.getfield 28, 3) := by decide +kernel
theorem dX2_allows_20 : decode cX2_allows 20 = .ok (.if_icmp .ge 43, 3) := by decide +kernel
theorem dX2_allows_23 : decode cX2_allows 23 = .ok (.iload_n 1, 1) := by decide +kernel
theorem dX2_allows_24 : decode cX2_allows 24 = .ok (.iload_n 2, 1) := by decide +kernel
theorem dX2_allows_25 : decode cX2_allows 25 = .ok (.invokestatic 39, 3) := by decide +kernel
theorem dX2_allows_28 : decode cX2_allows 28 = .ok (.ifCond .eq 29, 3) := by decide +kernel
theorem dX2_allows_31 : decode cX2_allows 31 = .ok (.aload_n 0, 1) := by decide +kernel
theorem dX2_allows_32 : decode cX2_allows 32 = .ok (.getfield 18, 3) := by decide +kernel
theorem dX2_allows_35 : decode cX2_allows 35 = .ok (.iload_n 2, 1) := by decide +kernel
theorem dX2_allows_36 : decode cX2_allows 36 = .ok (.iaload, 1) := by decide +kernel
theorem dX2_allows_37 : decode cX2_allows 37 = .ok (.iload_n 1, 1) := by decide +kernel
theorem dX2_allows_38 : decode cX2_allows 38 = .ok (.iand, 1) := by decide +kernel
theorem dX2_allows_39 : decode cX2_allows 39 = .ok (.ifCond .ne 16, 3) := by decide +kernel
theorem dX2_allows_42 : decode cX2_allows 42 = .ok (.aload_n 0, 1) := by decide +kernel
theorem dX2_allows_43 : decode cX2_allows 43 = .ok (.getfield 21, 3) := by decide +kernel
theorem dX2_allows_46 : decode cX2_allows 46 = .ok (.iload_n 2, 1) := by decide +kernel
theorem dX2_allows_47 : decode cX2_allows 47 = .ok (.iaload, 1) := by decide +kernel
theorem dX2_allows_48 : decode cX2_allows 48 = .ok (.iload_n 1, 1) := by decide +kernel
theorem dX2_allows_49 : decode cX2_allows 49 = .ok (.iconst (-1), 1) := by decide +kernel
theorem dX2_allows_50 : decode cX2_allows 50 = .ok (.ixor, 1) := by decide +kernel
theorem dX2_allows_51 : decode cX2_allows 51 = .ok (.iand, 1) := by decide +kernel
theorem dX2_allows_52 : decode cX2_allows 52 = .ok (.ifCond .eq 5, 3) := by decide +kernel
theorem dX2_allows_55 : decode cX2_allows 55 = .ok (.iconst 0, 1) := by decide +kernel
theorem dX2_allows_56 : decode cX2_allows 56 = .ok (.ireturn, 1) := by decide +kernel
theorem dX2_allows_57 : decode cX2_allows 57 = .ok (.iinc 2 1, 3) := by decide +kernel
theorem dX2_allows_60 : decode cX2_allows 60 = .ok (.goto (-45), 3) := by decide +kernel
theorem dX2_allows_63 : decode cX2_allows 63 = .ok (.iconst 1, 1) := by decide +kernel
theorem dX2_allows_64 : decode cX2_allows 64 = .ok (.ireturn, 1) := by decide +kernel
theorem dX3_init_0 : decode cX3_init 0 = .ok (.aload_n 0, 1) := by decide +kernel
theorem dX3_init_1 : decode cX3_init 1 = .ok (.invokespecial 3, 3) := by decide +kernel
theorem dX3_init_4 : decode cX3_init 4 = .ok (.aload_n 0, 1) := by decide +kernel
theorem dX3_init_5 : decode cX3_init 5 = .ok (.sipush 1200, 3) := by decide +kernel
theorem dX3_init_8 : decode cX3_init 8 = .ok (.newarray .int, 2) := by decide +kernel
theorem dX3_init_10 : decode cX3_init 10 = .ok (.putfield 11, 3) := by decide +kernel
theorem dX3_init_13 : decode cX3_init 13 = .ok (.aload_n 0, 1) := by decide +kernel
theorem dX3_init_14 : decode cX3_init 14 = .ok (.sipush 240, 3) := by decide +kernel
theorem dX3_init_17 : decode cX3_init 17 = .ok (.newarray .long, 2) := by decide +kernel
theorem dX3_init_19 : decode cX3_init 19 = .ok (.putfield 15, 3) := by decide +kernel
theorem dX3_init_22 : decode cX3_init 22 = .ok (.return_, 1) := by decide +kernel
theorem dX3_isFull_0 : decode cX3_isFull 0 = .ok (.aload_n 0, 1) := by decide +kernel
theorem dX3_isFull_1 : decode cX3_isFull 1 = .ok (.getfield 19, 3) := by decide +kernel
theorem dX3_isFull_4 : decode cX3_isFull 4 = .ok (.sipush 240, 3) := by decide +kernel
theorem dX3_isFull_7 : decode cX3_isFull 7 = .ok (.if_icmp .lt 7, 3) := by decide +kernel
theorem dX3_isFull_10 : decode cX3_isFull 10 = .ok (.iconst 1, 1) := by decide +kernel
theorem dX3_isFull_11 : decode cX3_isFull 11 = .ok (.goto 4, 3) := by decide +kernel
theorem dX3_isFull_14 : decode cX3_isFull 14 = .ok (.iconst 0, 1) := by decide +kernel
theorem dX3_isFull_15 : decode cX3_isFull 15 = .ok (.ireturn, 1) := by decide +kernel
theorem dX3_hasEntry_0 : decode cX3_hasEntry 0 = .ok (.iload_n 1, 1) := by decide +kernel
theorem dX3_hasEntry_1 : decode cX3_hasEntry 1 = .ok (.aload_n 0, 1) := by decide +kernel
theorem dX3_hasEntry_2 : decode cX3_hasEntry 2 = .ok (.getfield 19, 3) := by decide +kernel
theorem dX3_hasEntry_5 : decode cX3_hasEntry 5 = .ok (.invokestatic 23, 3) := by decide +kernel
theorem dX3_hasEntry_8 : decode cX3_hasEntry 8 = .ok (.ireturn, 1) := by decide +kernel
theorem dX3_hasCell_0 : decode cX3_hasCell 0 = .ok (.aload_n 0, 1) := by decide +kernel
theorem dX3_hasCell_1 : decode cX3_hasCell 1 = .ok (.iload_n 1, 1) := by decide +kernel
theorem dX3_hasCell_2 : decode cX3_hasCell 2 = .ok (.invokevirtual 27, 3) := by decide +kernel
theorem dX3_hasCell_5 : decode cX3_hasCell 5 = .ok (.ifCond .eq 15, 3) := by decide +kernel
theorem dX3_hasCell_8 : decode cX3_hasCell 8 = .ok (.iload_n 2, 1) := by decide +kernel
theorem dX3_hasCell_9 : decode cX3_hasCell 9 = .ok (.iconst 5, 1) := by decide +kernel
theorem dX3_hasCell_10 : decode cX3_hasCell 10 = .ok (.invokestatic 23, 3) := by decide +kernel
theorem dX3_hasCell_13 : decode cX3_hasCell 13 = .ok (.ifCond .eq 7, 3) := by decide +kernel
theorem dX3_hasCell_16 : decode cX3_hasCell 16 = .ok (.iconst 1, 1) := by decide +kernel
theorem dX3_hasCell_17 : decode cX3_hasCell 17 = .ok (.goto 4, 3) := by decide +kernel
theorem dX3_hasCell_20 : decode cX3_hasCell 20 = .ok (.iconst 0, 1) := by decide +kernel
theorem dX3_hasCell_21 : decode cX3_hasCell 21 = .ok (.ireturn, 1) := by decide +kernel
theorem dX3_add_0 : decode cX3_add 0 = .ok (.aload_n 0, 1) := by decide +kernel
theorem dX3_add_1 : decode cX3_add 1 = .ok (.getfield 19, 3) := by decide +kernel
theorem dX3_add_4 : decode cX3_add 4 = .ok (.iconst 5, 1) := by decide +kernel
theorem dX3_add_5 : decode cX3_add 5 = .ok (.imul, 1) := by decide +kernel
theorem dX3_add_6 : decode cX3_add 6 = .ok (.istore 6, 2) := by decide +kernel
theorem dX3_add_8 : decode cX3_add 8 = .ok (.aload_n 0, 1) := by decide +kernel
theorem dX3_add_9 : decode cX3_add 9 = .ok (.getfield 11, 3) := by decide +kernel
theorem dX3_add_12 : decode cX3_add 12 = .ok (.iload 6, 2) := by decide +kernel
theorem dX3_add_14 : decode cX3_add 14 = .ok (.iload_n 1, 1) := by decide +kernel
theorem dX3_add_15 : decode cX3_add 15 = .ok (.iastore, 1) := by decide +kernel
theorem dX3_add_16 : decode cX3_add 16 = .ok (.aload_n 0, 1) := by decide +kernel
theorem dX3_add_17 : decode cX3_add 17 = .ok (.getfield 11, 3) := by decide +kernel
theorem dX3_add_20 : decode cX3_add 20 = .ok (.iload 6, 2) := by decide +kernel
theorem dX3_add_22 : decode cX3_add 22 = .ok (.iconst 1, 1) := by decide +kernel
theorem dX3_add_23 : decode cX3_add 23 = .ok (.iadd, 1) := by decide +kernel
theorem dX3_add_24 : decode cX3_add 24 = .ok (.iload_n 2, 1) := by decide +kernel
theorem dX3_add_25 : decode cX3_add 25 = .ok (.iastore, 1) := by decide +kernel
theorem dX3_add_26 : decode cX3_add 26 = .ok (.aload_n 0, 1) := by decide +kernel
theorem dX3_add_27 : decode cX3_add 27 = .ok (.getfield 11, 3) := by decide +kernel
theorem dX3_add_30 : decode cX3_add 30 = .ok (.iload 6, 2) := by decide +kernel
theorem dX3_add_32 : decode cX3_add 32 = .ok (.iconst 2, 1) := by decide +kernel
theorem dX3_add_33 : decode cX3_add 33 = .ok (.iadd, 1) := by decide +kernel
theorem dX3_add_34 : decode cX3_add 34 = .ok (.iload_n 3, 1) := by decide +kernel
theorem dX3_add_35 : decode cX3_add 35 = .ok (.iastore, 1) := by decide +kernel
theorem dX3_add_36 : decode cX3_add 36 = .ok (.aload_n 0, 1) := by decide +kernel
theorem dX3_add_37 : decode cX3_add 37 = .ok (.getfield 11, 3) := by decide +kernel
theorem dX3_add_40 : decode cX3_add 40 = .ok (.iload 6, 2) := by decide +kernel
theorem dX3_add_42 : decode cX3_add 42 = .ok (.iconst 3, 1) := by decide +kernel
theorem dX3_add_43 : decode cX3_add 43 = .ok (.iadd, 1) := by decide +kernel
theorem dX3_add_44 : decode cX3_add 44 = .ok (.iload 4, 2) := by decide +kernel
theorem dX3_add_46 : decode cX3_add 46 = .ok (.iastore, 1) := by decide +kernel
theorem dX3_add_47 : decode cX3_add 47 = .ok (.aload_n 0, 1) := by decide +kernel
theorem dX3_add_48 : decode cX3_add 48 = .ok (.getfield 11, 3) := by decide +kernel
theorem dX3_add_51 : decode cX3_add 51 = .ok (.iload 6, 2) := by decide +kernel
theorem dX3_add_53 : decode cX3_add 53 = .ok (.iconst 4, 1) := by decide +kernel
theorem dX3_add_54 : decode cX3_add 54 = .ok (.iadd, 1) := by decide +kernel
theorem dX3_add_55 : decode cX3_add 55 = .ok (.iload 5, 2) := by decide +kernel
theorem dX3_add_57 : decode cX3_add 57 = .ok (.iastore, 1) := by decide +kernel
theorem dX3_add_58 : decode cX3_add 58 = .ok (.aload_n 0, 1) := by decide +kernel
theorem dX3_add_59 : decode cX3_add 59 = .ok (.getfield 15, 3) := by decide +kernel
theorem dX3_add_62 : decode cX3_add 62 = .ok (.aload_n 0, 1) := by decide +kernel
theorem dX3_add_63 : decode cX3_add 63 = .ok (.getfield 19, 3) := by decide +kernel
theorem dX3_add_66 : decode cX3_add 66 = .ok (.aload_n 0, 1) := by decide +kernel
theorem dX3_add_67 : decode cX3_add 67 = .ok (.aload_n 0, 1) := by decide +kernel
theorem dX3_add_68 : decode cX3_add 68 = .ok (.getfield 19, 3) := by decide +kernel
theorem dX3_add_71 : decode cX3_add 71 = .ok (.invokevirtual 31, 3) := by decide +kernel
theorem dX3_add_74 : decode cX3_add 74 = .ok (.lastore, 1) := by decide +kernel
theorem dX3_add_75 : decode cX3_add 75 = .ok (.aload_n 0, 1) := by decide +kernel
theorem dX3_add_76 : decode cX3_add 76 = .ok (.dup, 1) := by decide +kernel
theorem dX3_add_77 : decode cX3_add 77 = .ok (.getfield 19, 3) := by decide +kernel
theorem dX3_add_80 : decode cX3_add 80 = .ok (.iconst 1, 1) := by decide +kernel
theorem dX3_add_81 : decode cX3_add 81 = .ok (.iadd, 1) := by decide +kernel
theorem dX3_add_82 : decode cX3_add 82 = .ok (.putfield 19, 3) := by decide +kernel
theorem dX3_add_85 : decode cX3_add 85 = .ok (.return_, 1) := by decide +kernel
theorem dX3_linkDue_0 : decode cX3_linkDue 0 = .ok (.iload_n 1, 1) := by decide +kernel
theorem dX3_linkDue_1 : decode cX3_linkDue 1 = .ok (.iconst 5, 1) := by decide +kernel
theorem dX3_linkDue_2 : decode cX3_linkDue 2 = .ok (.imul, 1) := by decide +kernel
theorem dX3_linkDue_3 : decode cX3_linkDue 3 = .ok (.istore_n 2, 1) := by decide +kernel
theorem dX3_linkDue_4 : decode cX3_linkDue 4 = .ok (.iload_n 1, 1) := by decide +kernel
theorem dX3_linkDue_5 : decode cX3_linkDue 5 = .ok (.ifCond .ne 7, 3) := by decide +kernel
theorem dX3_linkDue_8 : decode cX3_linkDue 8 = .ok (.lconst 1, 1) := by decide +kernel
theorem dX3_linkDue_9 : decode cX3_linkDue 9 = .ok (.goto 11, 3) := by decide +kernel
theorem dX3_linkDue_12 : decode cX3_linkDue 12 = .ok (.aload_n 0, 1) := by decide +kernel
theorem dX3_linkDue_13 : decode cX3_linkDue 13 = .ok (.getfield 15, 3) := by decide +kernel
theorem dX3_linkDue_16 : decode cX3_linkDue 16 = .ok (.iload_n 1, 1) := by decide +kernel
theorem dX3_linkDue_17 : decode cX3_linkDue 17 = .ok (.iconst 1, 1) := by decide +kernel
theorem dX3_linkDue_18 : decode cX3_linkDue 18 = .ok (.isub, 1) := by decide +kernel
theorem dX3_linkDue_19 : decode cX3_linkDue 19 = .ok (.laload, 1) := by decide +kernel
theorem dX3_linkDue_20 : decode cX3_linkDue 20 = .ok (.ldc2_w 35, 3) := by decide +kernel
theorem dX3_linkDue_23 : decode cX3_linkDue 23 = .ok (.lmul, 1) := by decide +kernel
theorem dX3_linkDue_24 : decode cX3_linkDue 24 = .ok (.aload_n 0, 1) := by decide +kernel
theorem dX3_linkDue_25 : decode cX3_linkDue 25 = .ok (.getfield 11, 3) := by decide +kernel
theorem dX3_linkDue_28 : decode cX3_linkDue 28 = .ok (.iload_n 2, 1) := by decide +kernel
theorem dX3_linkDue_29 : decode cX3_linkDue 29 = .ok (.iaload, 1) := by decide +kernel
theorem dX3_linkDue_30 : decode cX3_linkDue 30 = .ok (.i2l, 1) := by decide +kernel
theorem dX3_linkDue_31 : decode cX3_linkDue 31 = .ok (.ladd, 1) := by decide +kernel
theorem dX3_linkDue_32 : decode cX3_linkDue 32 = .ok (.lstore_n 3, 1) := by decide +kernel
theorem dX3_linkDue_33 : decode cX3_linkDue 33 = .ok (.iconst 1, 1) := by decide +kernel
theorem dX3_linkDue_34 : decode cX3_linkDue 34 = .ok (.istore 5, 2) := by decide +kernel
theorem dX3_linkDue_36 : decode cX3_linkDue 36 = .ok (.iload 5, 2) := by decide +kernel
theorem dX3_linkDue_38 : decode cX3_linkDue 38 = .ok (.iconst 3, 1) := by decide +kernel
theorem dX3_linkDue_39 : decode cX3_linkDue 39 = .ok (.if_icmp .gt 33, 3) := by decide +kernel
theorem dX3_linkDue_42 : decode cX3_linkDue 42 = .ok (.lload_n 3, 1) := by decide +kernel
theorem dX3_linkDue_43 : decode cX3_linkDue 43 = .ok (.lload_n 3, 1) := by decide +kernel
theorem dX3_linkDue_44 : decode cX3_linkDue 44 = .ok (.bipush 29, 2) := by decide +kernel
theorem dX3_linkDue_46 : decode cX3_linkDue 46 = .ok (.lushr, 1) := by decide +kernel
theorem dX3_linkDue_47 : decode cX3_linkDue 47 = .ok (.lxor, 1) := by decide +kernel
theorem dX3_linkDue_48 : decode cX3_linkDue 48 = .ok (.lstore_n 3, 1) := by decide +kernel
theorem dX3_linkDue_49 : decode cX3_linkDue 49 = .ok (.lload_n 3, 1) := by decide +kernel
theorem dX3_linkDue_50 : decode cX3_linkDue 50 = .ok (.ldc2_w 37, 3) := by decide +kernel
theorem dX3_linkDue_53 : decode cX3_linkDue 53 = .ok (.lmul, 1) := by decide +kernel
theorem dX3_linkDue_54 : decode cX3_linkDue 54 = .ok (.aload_n 0, 1) := by decide +kernel
theorem dX3_linkDue_55 : decode cX3_linkDue 55 = .ok (.getfield 11, 3) := by decide +kernel
theorem dX3_linkDue_58 : decode cX3_linkDue 58 = .ok (.iload_n 2, 1) := by decide +kernel
theorem dX3_linkDue_59 : decode cX3_linkDue 59 = .ok (.iload 5, 2) := by decide +kernel
theorem dX3_linkDue_61 : decode cX3_linkDue 61 = .ok (.iadd, 1) := by decide +kernel
theorem dX3_linkDue_62 : decode cX3_linkDue 62 = .ok (.iaload, 1) := by decide +kernel
theorem dX3_linkDue_63 : decode cX3_linkDue 63 = .ok (.i2l, 1) := by decide +kernel
theorem dX3_linkDue_64 : decode cX3_linkDue 64 = .ok (.ladd, 1) := by decide +kernel
theorem dX3_linkDue_65 : decode cX3_linkDue 65 = .ok (.lstore_n 3, 1) := by decide +kernel
theorem dX3_linkDue_66 : decode cX3_linkDue 66 = .ok (.iinc 5 1, 3) := by decide +kernel
theorem dX3_linkDue_69 : decode cX3_linkDue 69 = .ok (.goto (-33), 3) := by decide +kernel
theorem dX3_linkDue_72 : decode cX3_linkDue 72 = .ok (.lload_n 3, 1) := by decide +kernel
theorem dX3_linkDue_73 : decode cX3_linkDue 73 = .ok (.lload_n 3, 1) := by decide +kernel
theorem dX3_linkDue_74 : decode cX3_linkDue 74 = .ok (.bipush 32, 2) := by decide +kernel
theorem dX3_linkDue_76 : decode cX3_linkDue 76 = .ok (.lushr, 1) := by decide +kernel
theorem dX3_linkDue_77 : decode cX3_linkDue 77 = .ok (.lxor, 1) := by decide +kernel
theorem dX3_linkDue_78 : decode cX3_linkDue 78 = .ok (.lstore_n 3, 1) := by decide +kernel
theorem dX3_linkDue_79 : decode cX3_linkDue 79 = .ok (.lload_n 3, 1) := by decide +kernel
theorem dX3_linkDue_80 : decode cX3_linkDue 80 = .ok (.ldc2_w 39, 3) := by decide +kernel
theorem dX3_linkDue_83 : decode cX3_linkDue 83 = .ok (.lmul, 1) := by decide +kernel
theorem dX3_linkDue_84 : decode cX3_linkDue 84 = .ok (.aload_n 0, 1) := by decide +kernel
theorem dX3_linkDue_85 : decode cX3_linkDue 85 = .ok (.getfield 11, 3) := by decide +kernel
theorem dX3_linkDue_88 : decode cX3_linkDue 88 = .ok (.iload_n 2, 1) := by decide +kernel
theorem dX3_linkDue_89 : decode cX3_linkDue 89 = .ok (.iconst 4, 1) := by decide +kernel
theorem dX3_linkDue_90 : decode cX3_linkDue 90 = .ok (.iadd, 1) := by decide +kernel
theorem dX3_linkDue_91 : decode cX3_linkDue 91 = .ok (.iaload, 1) := by decide +kernel
theorem dX3_linkDue_92 : decode cX3_linkDue 92 = .ok (.i2l, 1) := by decide +kernel
theorem dX3_linkDue_93 : decode cX3_linkDue 93 = .ok (.ladd, 1) := by decide +kernel
theorem dX3_linkDue_94 : decode cX3_linkDue 94 = .ok (.lstore_n 3, 1) := by decide +kernel
theorem dX3_linkDue_95 : decode cX3_linkDue 95 = .ok (.lload_n 3, 1) := by decide +kernel
theorem dX3_linkDue_96 : decode cX3_linkDue 96 = .ok (.lload_n 3, 1) := by decide +kernel
theorem dX3_linkDue_97 : decode cX3_linkDue 97 = .ok (.bipush 31, 2) := by decide +kernel
theorem dX3_linkDue_99 : decode cX3_linkDue 99 = .ok (.lushr, 1) := by decide +kernel
theorem dX3_linkDue_100 : decode cX3_linkDue 100 = .ok (.lxor, 1) := by decide +kernel
theorem dX3_linkDue_101 : decode cX3_linkDue 101 = .ok (.lreturn, 1) := by decide +kernel
theorem dX3_firstWrong_0 : decode cX3_firstWrong 0 = .ok (.iconst 0, 1) := by decide +kernel
theorem dX3_firstWrong_1 : decode cX3_firstWrong 1 = .ok (.istore_n 1, 1) := by decide +kernel
theorem dX3_firstWrong_2 : decode cX3_firstWrong 2 = .ok (.iload_n 1, 1) := by decide +kernel
theorem dX3_firstWrong_3 : decode cX3_firstWrong 3 = .ok (.aload_n 0, 1) := by decide +kernel
theorem dX3_firstWrong_4 : decode cX3_firstWrong 4 = .ok (.getfield 19, 3) := by decide +kernel
theorem dX3_firstWrong_7 : decode cX3_firstWrong 7 = .ok (.if_icmp .ge 26, 3) := by decide +kernel
theorem dX3_firstWrong_10 : decode cX3_firstWrong 10 = .ok (.aload_n 0, 1) := by decide +kernel
theorem dX3_firstWrong_11 : decode cX3_firstWrong 11 = .ok (.getfield 15, 3) := by decide +kernel
theorem dX3_firstWrong_14 : decode cX3_firstWrong 14 = .ok (.iload_n 1, 1) := by decide +kernel
theorem dX3_firstWrong_15 : decode cX3_firstWrong 15 = .ok (.laload, 1) := by decide +kernel
theorem dX3_firstWrong_16 : decode cX3_firstWrong 16 = .ok (.aload_n 0, 1) := by decide +kernel
theorem dX3_firstWrong_17 : decode cX3_firstWrong 17 = .ok (.iload_n 1, 1) := by decide +kernel
theorem dX3_firstWrong_18 : decode cX3_firstWrong 18 = .ok (.invokevirtual 31, 3) := by decide +kernel
theorem dX3_firstWrong_21 : decode cX3_firstWrong 21 = .ok (.lcmp, 1) := by decide +kernel
theorem dX3_firstWrong_22 : decode cX3_firstWrong 22 = .ok (.ifCond .eq 5, 3) := by decide +kernel
theorem dX3_firstWrong_25 : decode cX3_firstWrong 25 = .ok (.iload_n 1, 1) := by decide +kernel
theorem dX3_firstWrong_26 : decode cX3_firstWrong 26 = .ok (.ireturn, 1) := by decide +kernel
theorem dX3_firstWrong_27 : decode cX3_firstWrong 27 = .ok (.iinc 1 1, 3) := by decide +kernel
theorem dX3_firstWrong_30 : decode cX3_firstWrong 30 = .ok (.goto (-28), 3) := by decide +kernel
theorem dX3_firstWrong_33 : decode cX3_firstWrong 33 = .ok (.iconst (-1), 1) := by decide +kernel
theorem dX3_firstWrong_34 : decode cX3_firstWrong 34 = .ok (.ireturn, 1) := by decide +kernel
theorem dX4_init_0 : decode cX4_init 0 = .ok (.aload_n 0, 1) := by decide +kernel
theorem dX4_init_1 : decode cX4_init 1 = .ok (.invokespecial 3, 3) := by decide +kernel
theorem dX4_init_4 : decode cX4_init 4 = .ok (.aload_n 0, 1) := by decide +kernel
theorem dX4_init_5 : decode cX4_init 5 = .ok (.bipush 24, 2) := by decide +kernel
theorem dX4_init_7 : decode cX4_init 7 = .ok (.newarray .int, 2) := by decide +kernel
theorem dX4_init_9 : decode cX4_init 9 = .ok (.putfield 9, 3) := by decide +kernel
theorem dX4_init_12 : decode cX4_init 12 = .ok (.aload_n 0, 1) := by decide +kernel
theorem dX4_init_13 : decode cX4_init 13 = .ok (.bipush 8, 2) := by decide +kernel
theorem dX4_init_15 : decode cX4_init 15 = .ok (.newarray .int, 2) := by decide +kernel
theorem dX4_init_17 : decode cX4_init 17 = .ok (.putfield 15, 3) := by decide +kernel
theorem dX4_init_20 : decode cX4_init 20 = .ok (.aload_n 0, 1) := by decide +kernel
theorem dX4_init_21 : decode cX4_init 21 = .ok (.bipush 48, 2) := by decide +kernel
theorem dX4_init_23 : decode cX4_init 23 = .ok (.newarray .int, 2) := by decide +kernel
theorem dX4_init_25 : decode cX4_init 25 = .ok (.putfield 18, 3) := by decide +kernel
theorem dX4_init_28 : decode cX4_init 28 = .ok (.aload_n 0, 1) := by decide +kernel
theorem dX4_init_29 : decode cX4_init 29 = .ok (.bipush 12, 2) := by decide +kernel
theorem dX4_init_31 : decode cX4_init 31 = .ok (.newarray .int, 2) := by decide +kernel
theorem dX4_init_33 : decode cX4_init 33 = .ok (.putfield 21, 3) := by decide +kernel
theorem dX4_init_36 : decode cX4_init 36 = .ok (.aload_n 0, 1) := by decide +kernel
theorem dX4_init_37 : decode cX4_init 37 = .ok (.bipush 12, 2) := by decide +kernel
theorem dX4_init_39 : decode cX4_init 39 = .ok (.newarray .int, 2) := by decide +kernel
theorem dX4_init_41 : decode cX4_init 41 = .ok (.putfield 24, 3) := by decide +kernel
theorem dX4_init_44 : decode cX4_init 44 = .ok (.return_, 1) := by decide +kernel
theorem dX4_hasFirm_0 : decode cX4_hasFirm 0 = .ok (.iload_n 1, 1) := by decide +kernel
theorem dX4_hasFirm_1 : decode cX4_hasFirm 1 = .ok (.aload_n 0, 1) := by decide +kernel
theorem dX4_hasFirm_2 : decode cX4_hasFirm 2 = .ok (.getfield 27, 3) := by decide +kernel
theorem dX4_hasFirm_5 : decode cX4_hasFirm 5 = .ok (.invokestatic 31, 3) := by decide +kernel
theorem dX4_hasFirm_8 : decode cX4_hasFirm 8 = .ok (.ireturn, 1) := by decide +kernel
theorem dX4_hasObject_0 : decode cX4_hasObject 0 = .ok (.iload_n 1, 1) := by decide +kernel
theorem dX4_hasObject_1 : decode cX4_hasObject 1 = .ok (.aload_n 0, 1) := by decide +kernel
theorem dX4_hasObject_2 : decode cX4_hasObject 2 = .ok (.getfield 35, 3) := by decide +kernel
theorem dX4_hasObject_5 : decode cX4_hasObject 5 = .ok (.invokestatic 31, 3) := by decide +kernel
theorem dX4_hasObject_8 : decode cX4_hasObject 8 = .ok (.ireturn, 1) := by decide +kernel
theorem dX4_addFirm_0 : decode cX4_addFirm 0 = .ok (.aload_n 0, 1) := by decide +kernel
theorem dX4_addFirm_1 : decode cX4_addFirm 1 = .ok (.getfield 27, 3) := by decide +kernel
theorem dX4_addFirm_4 : decode cX4_addFirm 4 = .ok (.bipush 24, 2) := by decide +kernel
theorem dX4_addFirm_6 : decode cX4_addFirm 6 = .ok (.if_icmp .lt 6, 3) := by decide +kernel
theorem dX4_addFirm_9 : decode cX4_addFirm 9 = .ok (.bipush (-3), 2) := by decide +kernel
theorem dX4_addFirm_11 : decode cX4_addFirm 11 = .ok (.ireturn, 1) := by decide +kernel
theorem dX4_addFirm_12 : decode cX4_addFirm 12 = .ok (.aload_n 0, 1) := by decide +kernel
theorem dX4_addFirm_13 : decode cX4_addFirm 13 = .ok (.getfield 9, 3) := by decide +kernel
theorem dX4_addFirm_16 : decode cX4_addFirm 16 = .ok (.aload_n 0, 1) := by decide +kernel
theorem dX4_addFirm_17 : decode cX4_addFirm 17 = .ok (.getfield 27, 3) := by decide +kernel
theorem dX4_addFirm_20 : decode cX4_addFirm 20 = .ok (.iload_n 1, 1) := by decide +kernel
theorem dX4_addFirm_21 : decode cX4_addFirm 21 = .ok (.iastore, 1) := by decide +kernel
theorem dX4_addFirm_22 : decode cX4_addFirm 22 = .ok (.iload_n 1, 1) := by decide +kernel
theorem dX4_addFirm_23 : decode cX4_addFirm 23 = .ok (.iconst (-1), 1) := by decide +kernel
theorem dX4_addFirm_24 : decode cX4_addFirm 24 = .ok (.if_icmp .eq 18, 3) := by decide +kernel
theorem dX4_addFirm_27 : decode cX4_addFirm 27 = .ok (.aload_n 0, 1) := by decide +kernel
theorem dX4_addFirm_28 : decode cX4_addFirm 28 = .ok (.getfield 15, 3) := by decide +kernel
theorem dX4_addFirm_31 : decode cX4_addFirm 31 = .ok (.iload_n 1, 1) := by decide +kernel
theorem dX4_addFirm_32 : decode cX4_addFirm 32 = .ok (.dup2, 1) := by decide +kernel
theorem dX4_addFirm_33 : decode cX4_addFirm 33 = .ok (.iaload, 1) := by decide +kernel
theorem dX4_addFirm_34 : decode cX4_addFirm 34 = .ok (.iconst 1, 1) := by decide +kernel
theorem dX4_addFirm_35 : decode cX4_addFirm 35 = .ok (.aload_n 0, 1) := by decide +kernel
theorem dX4_addFirm_36 : decode cX4_addFirm 36 = .ok (.getfield 27, 3) := by decide +kernel
theorem dX4_addFirm_39 : decode cX4_addFirm 39 = .ok (.ishl, 1) := by decide +kernel
theorem dX4_addFirm_40 : decode cX4_addFirm 40 = .ok (.ior, 1) := by decide +kernel
theorem dX4_addFirm_41 : decode cX4_addFirm 41 = .ok (.iastore, 1) := by decide +kernel
theorem dX4_addFirm_42 : decode cX4_addFirm 42 = .ok (.aload_n 0, 1) := by decide +kernel
theorem dX4_addFirm_43 : decode cX4_addFirm 43 = .ok (.dup, 1) := by decide +kernel
theorem dX4_addFirm_44 : decode cX4_addFirm 44 = .ok (.getfield 27, 3) := by decide +kernel
theorem dX4_addFirm_47 : decode cX4_addFirm 47 = .ok (.iconst 1, 1) := by decide +kernel
theorem dX4_addFirm_48 : decode cX4_addFirm 48 = .ok (.iadd, 1) := by decide +kernel
theorem dX4_addFirm_49 : decode cX4_addFirm 49 = .ok (.putfield 27, 3) := by decide +kernel
theorem dX4_addFirm_52 : decode cX4_addFirm 52 = .ok (.aload_n 0, 1) := by decide +kernel
theorem dX4_addFirm_53 : decode cX4_addFirm 53 = .ok (.getfield 27, 3) := by decide +kernel
theorem dX4_addFirm_56 : decode cX4_addFirm 56 = .ok (.iconst 1, 1) := by decide +kernel
theorem dX4_addFirm_57 : decode cX4_addFirm 57 = .ok (.isub, 1) := by decide +kernel
theorem dX4_addFirm_58 : decode cX4_addFirm 58 = .ok (.ireturn, 1) := by decide +kernel
theorem dX4_addObject_0 : decode cX4_addObject 0 = .ok (.aload_n 0, 1) := by decide +kernel
theorem dX4_addObject_1 : decode cX4_addObject 1 = .ok (.getfield 35, 3) := by decide +kernel
theorem dX4_addObject_4 : decode cX4_addObject 4 = .ok (.bipush 48, 2) := by decide +kernel
theorem dX4_addObject_6 : decode cX4_addObject 6 = .ok (.if_icmp .lt 6, 3) := by decide +kernel
theorem dX4_addObject_9 : decode cX4_addObject 9 = .ok (.bipush (-3), 2) := by decide +kernel
theorem dX4_addObject_11 : decode cX4_addObject 11 = .ok (.ireturn, 1) := by decide +kernel
theorem dX4_addObject_12 : decode cX4_addObject 12 = .ok (.aload_n 0, 1) := by decide +kernel
theorem dX4_addObject_13 : decode cX4_addObject 13 = .ok (.getfield 18, 3) := by decide +kernel
theorem dX4_addObject_16 : decode cX4_addObject 16 = .ok (.aload_n 0, 1) := by decide +kernel
theorem dX4_addObject_17 : decode cX4_addObject 17 = .ok (.getfield 35, 3) := by decide +kernel
theorem dX4_addObject_20 : decode cX4_addObject 20 = .ok (.iload_n 1, 1) := by decide +kernel
theorem dX4_addObject_21 : decode cX4_addObject 21 = .ok (.iastore, 1) := by decide +kernel
theorem dX4_addObject_22 : decode cX4_addObject 22 = .ok (.aload_n 0, 1) := by decide +kernel
theorem dX4_addObject_23 : decode cX4_addObject 23 = .ok (.dup, 1) := by decide +kernel
theorem dX4_addObject_24 : decode cX4_addObject 24 = .ok (.getfield 35, 3) := by decide +kernel
theorem dX4_addObject_27 : decode cX4_addObject 27 = .ok (.iconst 1, 1) := by decide +kernel
theorem dX4_addObject_28 : decode cX4_addObject 28 = .ok (.iadd, 1) := by decide +kernel
theorem dX4_addObject_29 : decode cX4_addObject 29 = .ok (.putfield 35, 3) := by decide +kernel
theorem dX4_addObject_32 : decode cX4_addObject 32 = .ok (.aload_n 0, 1) := by decide +kernel
theorem dX4_addObject_33 : decode cX4_addObject 33 = .ok (.getfield 35, 3) := by decide +kernel
theorem dX4_addObject_36 : decode cX4_addObject 36 = .ok (.iconst 1, 1) := by decide +kernel
theorem dX4_addObject_37 : decode cX4_addObject 37 = .ok (.isub, 1) := by decide +kernel
theorem dX4_addObject_38 : decode cX4_addObject 38 = .ok (.ireturn, 1) := by decide +kernel
theorem dX4_letRead_0 : decode cX4_letRead 0 = .ok (.aload_n 0, 1) := by decide +kernel
theorem dX4_letRead_1 : decode cX4_letRead 1 = .ok (.getfield 9, 3) := by decide +kernel
theorem dX4_letRead_4 : decode cX4_letRead 4 = .ok (.iload_n 2, 1) := by decide +kernel
theorem dX4_letRead_5 : decode cX4_letRead 5 = .ok (.iaload, 1) := by decide +kernel
theorem dX4_letRead_6 : decode cX4_letRead 6 = .ok (.istore_n 3, 1) := by decide +kernel
theorem dX4_letRead_7 : decode cX4_letRead 7 = .ok (.iload_n 3, 1) := by decide +kernel
theorem dX4_letRead_8 : decode cX4_letRead 8 = .ok (.iconst (-1), 1) := by decide +kernel
theorem dX4_letRead_9 : decode cX4_letRead 9 = .ok (.if_icmp .eq 32, 3) := by decide +kernel
theorem dX4_letRead_12 : decode cX4_letRead 12 = .ok (.aload_n 0, 1) := by decide +kernel
theorem dX4_letRead_13 : decode cX4_letRead 13 = .ok (.getfield 21, 3) := by decide +kernel
theorem dX4_letRead_16 : decode cX4_letRead 16 = .ok (.iload_n 1, 1) := by decide +kernel
theorem dX4_letRead_17 : decode cX4_letRead 17 = .ok (.iaload, 1) := by decide +kernel
theorem dX4_letRead_18 : decode cX4_letRead 18 = .ok (.iload_n 2, 1) := by decide +kernel
theorem dX4_letRead_19 : decode cX4_letRead 19 = .ok (.invokestatic 38, 3) := by decide +kernel
theorem dX4_letRead_22 : decode cX4_letRead 22 = .ok (.ifCond .ne 19, 3) := by decide +kernel
theorem dX4_letRead_25 : decode cX4_letRead 25 = .ok (.aload_n 0, 1) := by decide +kernel
theorem dX4_letRead_26 : decode cX4_letRead 26 = .ok (.getfield 21, 3) := by decide +kernel
theorem dX4_letRead_29 : decode cX4_letRead 29 = .ok (.iload_n 1, 1) := by decide +kernel
theorem dX4_letRead_30 : decode cX4_letRead 30 = .ok (.iaload, 1) := by decide +kernel
theorem dX4_letRead_31 : decode cX4_letRead 31 = .ok (.aload_n 0, 1) := by decide +kernel
theorem dX4_letRead_32 : decode cX4_letRead 32 = .ok (.getfield 15, 3) := by decide +kernel
theorem dX4_letRead_35 : decode cX4_letRead 35 = .ok (.iload_n 3, 1) := by decide +kernel
theorem dX4_letRead_36 : decode cX4_letRead 36 = .ok (.iaload, 1) := by decide +kernel
theorem dX4_letRead_37 : decode cX4_letRead 37 = .ok (.iand, 1) := by decide +kernel
theorem dX4_letRead_38 : decode cX4_letRead 38 = .ok (.ifCond .ne 7, 3) := by decide +kernel
theorem dX4_letRead_41 : decode cX4_letRead 41 = .ok (.iconst 1, 1) := by decide +kernel
theorem dX4_letRead_42 : decode cX4_letRead 42 = .ok (.goto 4, 3) := by decide +kernel
theorem dX4_letRead_45 : decode cX4_letRead 45 = .ok (.iconst 0, 1) := by decide +kernel
theorem dX4_letRead_46 : decode cX4_letRead 46 = .ok (.ireturn, 1) := by decide +kernel
theorem dX4_onReading_0 : decode cX4_onReading 0 = .ok (.aload_n 0, 1) := by decide +kernel
theorem dX4_onReading_1 : decode cX4_onReading 1 = .ok (.iload_n 1, 1) := by decide +kernel
theorem dX4_onReading_2 : decode cX4_onReading 2 = .ok (.iload_n 2, 1) := by decide +kernel
theorem dX4_onReading_3 : decode cX4_onReading 3 = .ok (.invokevirtual 41, 3) := by decide +kernel
theorem dX4_onReading_6 : decode cX4_onReading 6 = .ok (.ifCond .eq 7, 3) := by decide +kernel
theorem dX4_onReading_9 : decode cX4_onReading 9 = .ok (.iconst 0, 1) := by decide +kernel
theorem dX4_onReading_10 : decode cX4_onReading 10 = .ok (.goto 5, 3) := by decide +kernel
theorem dX4_onReading_13 : decode cX4_onReading 13 = .ok (.bipush (-11), 2) := by decide +kernel
theorem dX4_onReading_15 : decode cX4_onReading 15 = .ok (.ireturn, 1) := by decide +kernel
theorem dX4_onWriting_0 : decode cX4_onWriting 0 = .ok (.aload_n 0, 1) := by decide +kernel
theorem dX4_onWriting_1 : decode cX4_onWriting 1 = .ok (.iload_n 1, 1) := by decide +kernel
theorem dX4_onWriting_2 : decode cX4_onWriting 2 = .ok (.iload_n 2, 1) := by decide +kernel
theorem dX4_onWriting_3 : decode cX4_onWriting 3 = .ok (.invokevirtual 41, 3) := by decide +kernel
theorem dX4_onWriting_6 : decode cX4_onWriting 6 = .ok (.ifCond .ne 6, 3) := by decide +kernel
theorem dX4_onWriting_9 : decode cX4_onWriting 9 = .ok (.bipush (-11), 2) := by decide +kernel
theorem dX4_onWriting_11 : decode cX4_onWriting 11 = .ok (.ireturn, 1) := by decide +kernel
theorem dX4_onWriting_12 : decode cX4_onWriting 12 = .ok (.aload_n 0, 1) := by decide +kernel
theorem dX4_onWriting_13 : decode cX4_onWriting 13 = .ok (.getfield 21, 3) := by decide +kernel
theorem dX4_onWriting_16 : decode cX4_onWriting 16 = .ok (.iload_n 1, 1) := by decide +kernel
theorem dX4_onWriting_17 : decode cX4_onWriting 17 = .ok (.iaload, 1) := by decide +kernel
theorem dX4_onWriting_18 : decode cX4_onWriting 18 = .ok (.aload_n 0, 1) := by decide +kernel
theorem dX4_onWriting_19 : decode cX4_onWriting 19 = .ok (.getfield 24, 3) := by decide +kernel
theorem dX4_onWriting_22 : decode cX4_onWriting 22 = .ok (.iload_n 1, 1) := by decide +kernel
theorem dX4_onWriting_23 : decode cX4_onWriting 23 = .ok (.iaload, 1) := by decide +kernel
theorem dX4_onWriting_24 : decode cX4_onWriting 24 = .ok (.ior, 1) := by decide +kernel
theorem dX4_onWriting_25 : decode cX4_onWriting 25 = .ok (.iconst 1, 1) := by decide +kernel
theorem dX4_onWriting_26 : decode cX4_onWriting 26 = .ok (.iload_n 2, 1) := by decide +kernel
theorem dX4_onWriting_27 : decode cX4_onWriting 27 = .ok (.ishl, 1) := by decide +kernel
theorem dX4_onWriting_28 : decode cX4_onWriting 28 = .ok (.iconst (-1), 1) := by decide +kernel
theorem dX4_onWriting_29 : decode cX4_onWriting 29 = .ok (.ixor, 1) := by decide +kernel
theorem dX4_onWriting_30 : decode cX4_onWriting 30 = .ok (.iand, 1) := by decide +kernel
theorem dX4_onWriting_31 : decode cX4_onWriting 31 = .ok (.istore_n 3, 1) := by decide +kernel
theorem dX4_onWriting_32 : decode cX4_onWriting 32 = .ok (.iload_n 3, 1) := by decide +kernel
theorem dX4_onWriting_33 : decode cX4_onWriting 33 = .ok (.ifCond .ne 7, 3) := by decide +kernel
theorem dX4_onWriting_36 : decode cX4_onWriting 36 = .ok (.iconst 0, 1) := by decide +kernel
theorem dX4_onWriting_37 : decode cX4_onWriting 37 = .ok (.goto 5, 3) := by decide +kernel
theorem dX4_onWriting_40 : decode cX4_onWriting 40 = .ok (.bipush (-12), 2) := by decide +kernel
theorem dX4_onWriting_42 : decode cX4_onWriting 42 = .ok (.ireturn, 1) := by decide +kernel
theorem dX4_teachFirm_0 : decode cX4_teachFirm 0 = .ok (.aload_n 0, 1) := by decide +kernel
theorem dX4_teachFirm_1 : decode cX4_teachFirm 1 = .ok (.getfield 9, 3) := by decide +kernel
theorem dX4_teachFirm_4 : decode cX4_teachFirm 4 = .ok (.iload_n 2, 1) := by decide +kernel
theorem dX4_teachFirm_5 : decode cX4_teachFirm 5 = .ok (.iaload, 1) := by decide +kernel
theorem dX4_teachFirm_6 : decode cX4_teachFirm 6 = .ok (.iconst (-1), 1) := by decide +kernel
theorem dX4_teachFirm_7 : decode cX4_teachFirm 7 = .ok (.if_icmp .eq 15, 3) := by decide +kernel
theorem dX4_teachFirm_10 : decode cX4_teachFirm 10 = .ok (.aload_n 0, 1) := by decide +kernel
theorem dX4_teachFirm_11 : decode cX4_teachFirm 11 = .ok (.getfield 21, 3) := by decide +kernel
theorem dX4_teachFirm_14 : decode cX4_teachFirm 14 = .ok (.iload_n 1, 1) := by decide +kernel
theorem dX4_teachFirm_15 : decode cX4_teachFirm 15 = .ok (.dup2, 1) := by decide +kernel
theorem dX4_teachFirm_16 : decode cX4_teachFirm 16 = .ok (.iaload, 1) := by decide +kernel
theorem dX4_teachFirm_17 : decode cX4_teachFirm 17 = .ok (.iconst 1, 1) := by decide +kernel
theorem dX4_teachFirm_18 : decode cX4_teachFirm 18 = .ok (.iload_n 2, 1) := by decide +kernel
theorem dX4_teachFirm_19 : decode cX4_teachFirm 19 = .ok (.ishl, 1) := by decide +kernel
theorem dX4_teachFirm_20 : decode cX4_teachFirm 20 = .ok (.ior, 1) := by decide +kernel
theorem dX4_teachFirm_21 : decode cX4_teachFirm 21 = .ok (.iastore, 1) := by decide +kernel
theorem dX4_teachFirm_22 : decode cX4_teachFirm 22 = .ok (.return_, 1) := by decide +kernel
theorem dX4_showFirm_0 : decode cX4_showFirm 0 = .ok (.aload_n 0, 1) := by decide +kernel
theorem dX4_showFirm_1 : decode cX4_showFirm 1 = .ok (.getfield 24, 3) := by decide +kernel
theorem dX4_showFirm_4 : decode cX4_showFirm 4 = .ok (.iload_n 1, 1) := by decide +kernel
theorem dX4_showFirm_5 : decode cX4_showFirm 5 = .ok (.dup2, 1) := by decide +kernel
theorem dX4_showFirm_6 : decode cX4_showFirm 6 = .ok (.iaload, 1) := by decide +kernel
theorem dX4_showFirm_7 : decode cX4_showFirm 7 = .ok (.iconst 1, 1) := by decide +kernel
theorem dX4_showFirm_8 : decode cX4_showFirm 8 = .ok (.iload_n 2, 1) := by decide +kernel
theorem dX4_showFirm_9 : decode cX4_showFirm 9 = .ok (.ishl, 1) := by decide +kernel
theorem dX4_showFirm_10 : decode cX4_showFirm 10 = .ok (.ior, 1) := by decide +kernel
theorem dX4_showFirm_11 : decode cX4_showFirm 11 = .ok (.iastore, 1) := by decide +kernel
theorem dX4_showFirm_12 : decode cX4_showFirm 12 = .ok (.return_, 1) := by decide +kernel
theorem dJ6_bitCount_0f7a4_0 : decode cJ6_bitCount_0f7a4 0 = .ok (.iload_n 0, 1) := by decide +kernel
theorem dJ6_bitCount_0f7a4_1 : decode cJ6_bitCount_0f7a4 1 = .ok (.iload_n 0, 1) := by decide +kernel
theorem dJ6_bitCount_0f7a4_2 : decode cJ6_bitCount_0f7a4 2 = .ok (.iconst 1, 1) := by decide +kernel
theorem dJ6_bitCount_0f7a4_3 : decode cJ6_bitCount_0f7a4 3 = .ok (.iushr, 1) := by decide +kernel
theorem dJ6_bitCount_0f7a4_4 : decode cJ6_bitCount_0f7a4 4 = .ok (.ldc_w 265, 3) := by decide +kernel
theorem dJ6_bitCount_0f7a4_7 : decode cJ6_bitCount_0f7a4 7 = .ok (.iand, 1) := by decide +kernel
theorem dJ6_bitCount_0f7a4_8 : decode cJ6_bitCount_0f7a4 8 = .ok (.isub, 1) := by decide +kernel
theorem dJ6_bitCount_0f7a4_9 : decode cJ6_bitCount_0f7a4 9 = .ok (.istore_n 0, 1) := by decide +kernel
theorem dJ6_bitCount_0f7a4_10 : decode cJ6_bitCount_0f7a4 10 = .ok (.iload_n 0, 1) := by decide +kernel
theorem dJ6_bitCount_0f7a4_11 : decode cJ6_bitCount_0f7a4 11 = .ok (.ldc_w 266, 3) := by decide +kernel
theorem dJ6_bitCount_0f7a4_14 : decode cJ6_bitCount_0f7a4 14 = .ok (.iand, 1) := by decide +kernel
theorem dJ6_bitCount_0f7a4_15 : decode cJ6_bitCount_0f7a4 15 = .ok (.iload_n 0, 1) := by decide +kernel
theorem dJ6_bitCount_0f7a4_16 : decode cJ6_bitCount_0f7a4 16 = .ok (.iconst 2, 1) := by decide +kernel
theorem dJ6_bitCount_0f7a4_17 : decode cJ6_bitCount_0f7a4 17 = .ok (.iushr, 1) := by decide +kernel
theorem dJ6_bitCount_0f7a4_18 : decode cJ6_bitCount_0f7a4 18 = .ok (.ldc_w 266, 3) := by decide +kernel
theorem dJ6_bitCount_0f7a4_21 : decode cJ6_bitCount_0f7a4 21 = .ok (.iand, 1) := by decide +kernel
theorem dJ6_bitCount_0f7a4_22 : decode cJ6_bitCount_0f7a4 22 = .ok (.iadd, 1) := by decide +kernel
theorem dJ6_bitCount_0f7a4_23 : decode cJ6_bitCount_0f7a4 23 = .ok (.istore_n 0, 1) := by decide +kernel
theorem dJ6_bitCount_0f7a4_24 : decode cJ6_bitCount_0f7a4 24 = .ok (.iload_n 0, 1) := by decide +kernel
theorem dJ6_bitCount_0f7a4_25 : decode cJ6_bitCount_0f7a4 25 = .ok (.iload_n 0, 1) := by decide +kernel
theorem dJ6_bitCount_0f7a4_26 : decode cJ6_bitCount_0f7a4 26 = .ok (.iconst 4, 1) := by decide +kernel
theorem dJ6_bitCount_0f7a4_27 : decode cJ6_bitCount_0f7a4 27 = .ok (.iushr, 1) := by decide +kernel
theorem dJ6_bitCount_0f7a4_28 : decode cJ6_bitCount_0f7a4 28 = .ok (.iadd, 1) := by decide +kernel
theorem dJ6_bitCount_0f7a4_29 : decode cJ6_bitCount_0f7a4 29 = .ok (.ldc_w 267, 3) := by decide +kernel
theorem dJ6_bitCount_0f7a4_32 : decode cJ6_bitCount_0f7a4 32 = .ok (.iand, 1) := by decide +kernel
theorem dJ6_bitCount_0f7a4_33 : decode cJ6_bitCount_0f7a4 33 = .ok (.istore_n 0, 1) := by decide +kernel
theorem dJ6_bitCount_0f7a4_34 : decode cJ6_bitCount_0f7a4 34 = .ok (.iload_n 0, 1) := by decide +kernel
theorem dJ6_bitCount_0f7a4_35 : decode cJ6_bitCount_0f7a4 35 = .ok (.iload_n 0, 1) := by decide +kernel
theorem dJ6_bitCount_0f7a4_36 : decode cJ6_bitCount_0f7a4 36 = .ok (.bipush 8, 2) := by decide +kernel
theorem dJ6_bitCount_0f7a4_38 : decode cJ6_bitCount_0f7a4 38 = .ok (.iushr, 1) := by decide +kernel
theorem dJ6_bitCount_0f7a4_39 : decode cJ6_bitCount_0f7a4 39 = .ok (.iadd, 1) := by decide +kernel
theorem dJ6_bitCount_0f7a4_40 : decode cJ6_bitCount_0f7a4 40 = .ok (.istore_n 0, 1) := by decide +kernel
theorem dJ6_bitCount_0f7a4_41 : decode cJ6_bitCount_0f7a4 41 = .ok (.iload_n 0, 1) := by decide +kernel
theorem dJ6_bitCount_0f7a4_42 : decode cJ6_bitCount_0f7a4 42 = .ok (.iload_n 0, 1) := by decide +kernel
theorem dJ6_bitCount_0f7a4_43 : decode cJ6_bitCount_0f7a4 43 = .ok (.bipush 16, 2) := by decide +kernel
theorem dJ6_bitCount_0f7a4_45 : decode cJ6_bitCount_0f7a4 45 = .ok (.iushr, 1) := by decide +kernel
theorem dJ6_bitCount_0f7a4_46 : decode cJ6_bitCount_0f7a4 46 = .ok (.iadd, 1) := by decide +kernel
theorem dJ6_bitCount_0f7a4_47 : decode cJ6_bitCount_0f7a4 47 = .ok (.istore_n 0, 1) := by decide +kernel
theorem dJ6_bitCount_0f7a4_48 : decode cJ6_bitCount_0f7a4 48 = .ok (.iload_n 0, 1) := by decide +kernel
theorem dJ6_bitCount_0f7a4_49 : decode cJ6_bitCount_0f7a4 49 = .ok (.bipush 63, 2) := by decide +kernel
theorem dJ6_bitCount_0f7a4_51 : decode cJ6_bitCount_0f7a4 51 = .ok (.iand, 1) := by decide +kernel
theorem dJ6_bitCount_0f7a4_52 : decode cJ6_bitCount_0f7a4 52 = .ok (.ireturn, 1) := by decide +kernel
theorem dJ9_max_7cf53_0 : decode cJ9_max_7cf53 0 = .ok (.iload_n 0, 1) := by decide +kernel
theorem dJ9_max_7cf53_1 : decode cJ9_max_7cf53 1 = .ok (.iload_n 1, 1) := by decide +kernel
theorem dJ9_max_7cf53_2 : decode cJ9_max_7cf53 2 = .ok (.if_icmp .lt 7, 3) := by decide +kernel
theorem dJ9_max_7cf53_5 : decode cJ9_max_7cf53 5 = .ok (.iload_n 0, 1) := by decide +kernel
theorem dJ9_max_7cf53_6 : decode cJ9_max_7cf53 6 = .ok (.goto 4, 3) := by decide +kernel
theorem dJ9_max_7cf53_9 : decode cJ9_max_7cf53 9 = .ok (.iload_n 1, 1) := by decide +kernel
theorem dJ9_max_7cf53_10 : decode cJ9_max_7cf53 10 = .ok (.ireturn, 1) := by decide +kernel
theorem dJ9_min_7cf53_0 : decode cJ9_min_7cf53 0 = .ok (.iload_n 0, 1) := by decide +kernel
theorem dJ9_min_7cf53_1 : decode cJ9_min_7cf53 1 = .ok (.iload_n 1, 1) := by decide +kernel
theorem dJ9_min_7cf53_2 : decode cJ9_min_7cf53 2 = .ok (.if_icmp .gt 7, 3) := by decide +kernel
theorem dJ9_min_7cf53_5 : decode cJ9_min_7cf53 5 = .ok (.iload_n 0, 1) := by decide +kernel
theorem dJ9_min_7cf53_6 : decode cJ9_min_7cf53 6 = .ok (.goto 4, 3) := by decide +kernel
theorem dJ9_min_7cf53_9 : decode cJ9_min_7cf53 9 = .ok (.iload_n 1, 1) := by decide +kernel
theorem dJ9_min_7cf53_10 : decode cJ9_min_7cf53 10 = .ok (.ireturn, 1) := by decide +kernel
end
section
theorem dX0_init_0 : decode cX0_init 0 = .ok (.aload_n 0, 1) := by decide +kernel
theorem dX0_init_1 : decode cX0_init 1 = .ok (.invokespecial 3, 3) := by decide +kernel
theorem dX0_init_4 : decode cX0_init 4 = .ok (.aload_n 0, 1) := by decide +kernel
theorem dX0_init_5 : decode cX0_init 5 = .ok (.bipush 6, 2) := by decide +kernel
theorem dX0_init_7 : decode cX0_init 7 = .ok (.newarray .int, 2) := by decide +kernel
theorem dX0_init_9 : decode cX0_init 9 = .ok (.dup, 1) := by decide +kernel
theorem dX0_init_10 : decode cX0_init 10 = .ok (.iconst 0, 1) := by decide +kernel
theorem dX0_init_11 : decode cX0_init 11 = .ok (.iconst (-1), 1) := by decide +kernel
theorem dX0_init_12 : decode cX0_init 12 = .ok (.iastore, 1) := by decide +kernel
theorem dX0_init_13 : decode cX0_init 13 = .ok (.dup, 1) := by decide +kernel
theorem dX0_init_14 : decode cX0_init 14 = .ok (.iconst 1, 1) := by decide +kernel
theorem dX0_init_15 : decode cX0_init 15 = .ok (.iconst (-1), 1) := by decide +kernel
theorem dX0_init_16 : decode cX0_init 16 = .ok (.iastore, 1) := by decide +kernel
theorem dX0_init_17 : decode cX0_init 17 = .ok (.dup, 1) := by decide +kernel
theorem dX0_init_18 : decode cX0_init 18 = .ok (.iconst 2, 1) := by decide +kernel
theorem dX0_init_19 : decode cX0_init 19 = .ok (.iconst (-1), 1) := by decide +kernel
theorem dX0_init_20 : decode cX0_init 20 = .ok (.iastore, 1) := by decide +kernel
theorem dX0_init_21 : decode cX0_init 21 = .ok (.dup, 1) := by decide +kernel
theorem dX0_init_22 : decode cX0_init 22 = .ok (.iconst 3, 1) := by decide +kernel
theorem dX0_init_23 : decode cX0_init 23 = .ok (.iconst (-1), 1) := by decide +kernel
theorem dX0_init_24 : decode cX0_init 24 = .ok (.iastore, 1) := by decide +kernel
theorem dX0_init_25 : decode cX0_init 25 = .ok (.dup, 1) := by decide +kernel
theorem dX0_init_26 : decode cX0_init 26 = .ok (.iconst 4, 1) := by decide +kernel
theorem dX0_init_27 : decode cX0_init 27 = .ok (.iconst (-1), 1) := by decide +kernel
theorem dX0_init_28 : decode cX0_init 28 = .ok (.iastore, 1) := by decide +kernel
theorem dX0_init_29 : decode cX0_init 29 = .ok (.dup, 1) := by decide +kernel
theorem dX0_init_30 : decode cX0_init 30 = .ok (.iconst 5, 1) := by decide +kernel
theorem dX0_init_31 : decode cX0_init 31 = .ok (.iconst (-1), 1) := by decide +kernel
theorem dX0_init_32 : decode cX0_init 32 = .ok (.iastore, 1) := by decide +kernel
theorem dX0_init_33 : decode cX0_init 33 = .ok (.putfield 9, 3) := by decide +kernel
theorem dX0_init_36 : decode cX0_init 36 = .ok (.aload_n 0, 1) := by decide +kernel
theorem dX0_init_37 : decode cX0_init 37 = .ok (.aload_n 1, 1) := by decide +kernel
theorem dX0_init_38 : decode cX0_init 38 = .ok (.putfield 15, 3) := by decide +kernel
theorem dX0_init_41 : decode cX0_init 41 = .ok (.return_, 1) := by decide +kernel
theorem dX0_bitsDoneBy_0 : decode cX0_bitsDoneBy 0 = .ok (.iconst 0, 1) := by decide +kernel
theorem dX0_bitsDoneBy_1 : decode cX0_bitsDoneBy 1 = .ok (.istore_n 2, 1) := by decide +kernel
theorem dX0_bitsDoneBy_2 : decode cX0_bitsDoneBy 2 = .ok (.iconst 0, 1) := by decide +kernel
theorem dX0_bitsDoneBy_3 : decode cX0_bitsDoneBy 3 = .ok (.istore_n 3, 1) := by decide +kernel
theorem dX0_bitsDoneBy_4 : decode cX0_bitsDoneBy 4 = .ok (.iload_n 3, 1) := by decide +kernel
theorem dX0_bitsDoneBy_5 : decode cX0_bitsDoneBy 5 = .ok (.aload_n 0, 1) := by decide +kernel
theorem dX0_bitsDoneBy_6 : decode cX0_bitsDoneBy 6 = .ok (.getfield 15, 3) := by decide +kernel
theorem dX0_bitsDoneBy_9 : decode cX0_bitsDoneBy 9 = .ok (.getfield 19, 3) := by decide +kernel
theorem dX0_bitsDoneBy_12 : decode cX0_bitsDoneBy 12 = .ok (.if_icmp .ge 25, 3) := by decide +kernel
theorem dX0_bitsDoneBy_15 : decode cX0_bitsDoneBy 15 = .ok (.aload_n 0, 1) := by decide +kernel
theorem dX0_bitsDoneBy_16 : decode cX0_bitsDoneBy 16 = .ok (.getfield 9, 3) := by decide +kernel
theorem dX0_bitsDoneBy_19 : decode cX0_bitsDoneBy 19 = .ok (.iload_n 3, 1) := by decide +kernel
theorem dX0_bitsDoneBy_20 : decode cX0_bitsDoneBy 20 = .ok (.iaload, 1) := by decide +kernel
theorem dX0_bitsDoneBy_21 : decode cX0_bitsDoneBy 21 = .ok (.iload_n 1, 1) := by decide +kernel
theorem dX0_bitsDoneBy_22 : decode cX0_bitsDoneBy 22 = .ok (.if_icmp .ne 9, 3) := by decide +kernel
theorem dX0_bitsDoneBy_25 : decode cX0_bitsDoneBy 25 = .ok (.iload_n 2, 1) := by decide +kernel
theorem dX0_bitsDoneBy_26 : decode cX0_bitsDoneBy 26 = .ok (.iconst 1, 1) := by decide +kernel
theorem dX0_bitsDoneBy_27 : decode cX0_bitsDoneBy 27 = .ok (.iload_n 3, 1) := by decide +kernel
theorem dX0_bitsDoneBy_28 : decode cX0_bitsDoneBy 28 = .ok (.ishl, 1) := by decide +kernel
theorem dX0_bitsDoneBy_29 : decode cX0_bitsDoneBy 29 = .ok (.ior, 1) := by decide +kernel
theorem dX0_bitsDoneBy_30 : decode cX0_bitsDoneBy 30 = .ok (.istore_n 2, 1) := by decide +kernel
theorem dX0_bitsDoneBy_31 : decode cX0_bitsDoneBy 31 = .ok (.iinc 3 1, 3) := by decide +kernel
theorem dX0_bitsDoneBy_34 : decode cX0_bitsDoneBy 34 = .ok (.goto (-30), 3) := by decide +kernel
theorem dX0_bitsDoneBy_37 : decode cX0_bitsDoneBy 37 = .ok (.iload_n 2, 1) := by decide +kernel
theorem dX0_bitsDoneBy_38 : decode cX0_bitsDoneBy 38 = .ok (.ireturn, 1) := by decide +kernel
theorem dX0_leftBits_0 : decode cX0_leftBits 0 = .ok (.aload_n 0, 1) := by decide +kernel
theorem dX0_leftBits_1 : decode cX0_leftBits 1 = .ok (.iconst (-1), 1) := by decide +kernel
theorem dX0_leftBits_2 : decode cX0_leftBits 2 = .ok (.invokevirtual 25, 3) := by decide +kernel
theorem dX0_leftBits_5 : decode cX0_leftBits 5 = .ok (.ireturn, 1) := by decide +kernel
theorem dX0_verdict_0 : decode cX0_verdict 0 = .ok (.aload_n 0, 1) := by decide +kernel
theorem dX0_verdict_1 : decode cX0_verdict 1 = .ok (.getfield 15, 3) := by decide +kernel
theorem dX0_verdict_4 : decode cX0_verdict 4 = .ok (.invokevirtual 29, 3) := by decide +kernel
theorem dX0_verdict_7 : decode cX0_verdict 7 = .ok (.aload_n 0, 1) := by decide +kernel
theorem dX0_verdict_8 : decode cX0_verdict 8 = .ok (.invokevirtual 33, 3) := by decide +kernel
theorem dX0_verdict_11 : decode cX0_verdict 11 = .ok (.iconst (-1), 1) := by decide +kernel
theorem dX0_verdict_12 : decode cX0_verdict 12 = .ok (.ixor, 1) := by decide +kernel
theorem dX0_verdict_13 : decode cX0_verdict 13 = .ok (.iand, 1) := by decide +kernel
theorem dX0_verdict_14 : decode cX0_verdict 14 = .ok (.istore 4, 2) := by decide +kernel
theorem dX0_verdict_16 : decode cX0_verdict 16 = .ok (.aload_n 0, 1) := by decide +kernel
theorem dX0_verdict_17 : decode cX0_verdict 17 = .ok (.iload_n 2, 1) := by decide +kernel
theorem dX0_verdict_18 : decode cX0_verdict 18 = .ok (.invokevirtual 25, 3) := by decide +kernel
theorem dX0_verdict_21 : decode cX0_verdict 21 = .ok (.istore 5, 2) := by decide +kernel
theorem dX0_verdict_23 : decode cX0_verdict 23 = .ok (.iload 4, 2) := by decide +kernel
theorem dX0_verdict_25 : decode cX0_verdict 25 = .ok (.iload_n 1, 1) := by decide +kernel
theorem dX0_verdict_26 : decode cX0_verdict 26 = .ok (.invokestatic 36, 3) := by decide +kernel
theorem dX0_verdict_29 : decode cX0_verdict 29 = .ok (.ifCond .eq 6, 3) := by decide +kernel
theorem dX0_verdict_32 : decode cX0_verdict 32 = .ok (.bipush (-16), 2) := by decide +kernel
theorem dX0_verdict_34 : decode cX0_verdict 34 = .ok (.ireturn, 1) := by decide +kernel
theorem dX0_verdict_35 : decode cX0_verdict 35 = .ok (.aload_n 0, 1) := by decide +kernel
theorem dX0_verdict_36 : decode cX0_verdict 36 = .ok (.getfield 15, 3) := by decide +kernel
theorem dX0_verdict_39 : decode cX0_verdict 39 = .ok (.getfield 40, 3) := by decide +kernel
theorem dX0_verdict_42 : decode cX0_verdict 42 = .ok (.iload_n 1, 1) := by decide +kernel
theorem dX0_verdict_43 : decode cX0_verdict 43 = .ok (.iaload, 1) := by decide +kernel
theorem dX0_verdict_44 : decode cX0_verdict 44 = .ok (.iload 4, 2) := by decide +kernel
theorem dX0_verdict_46 : decode cX0_verdict 46 = .ok (.iconst (-1), 1) := by decide +kernel
theorem dX0_verdict_47 : decode cX0_verdict 47 = .ok (.ixor, 1) := by decide +kernel
theorem dX0_verdict_48 : decode cX0_verdict 48 = .ok (.iand, 1) := by decide +kernel
theorem dX0_verdict_49 : decode cX0_verdict 49 = .ok (.ifCond .eq 6, 3) := by decide +kernel
theorem dX0_verdict_52 : decode cX0_verdict 52 = .ok (.bipush (-17), 2) := by decide +kernel
theorem dX0_verdict_54 : decode cX0_verdict 54 = .ok (.ireturn, 1) := by decide +kernel
theorem dX0_verdict_55 : decode cX0_verdict 55 = .ok (.aload_n 3, 1) := by decide +kernel
theorem dX0_verdict_56 : decode cX0_verdict 56 = .ok (.iload_n 2, 1) := by decide +kernel
theorem dX0_verdict_57 : decode cX0_verdict 57 = .ok (.iaload, 1) := by decide +kernel
theorem dX0_verdict_58 : decode cX0_verdict 58 = .ok (.aload_n 0, 1) := by decide +kernel
theorem dX0_verdict_59 : decode cX0_verdict 59 = .ok (.getfield 15, 3) := by decide +kernel
theorem dX0_verdict_62 : decode cX0_verdict 62 = .ok (.getfield 43, 3) := by decide +kernel
theorem dX0_verdict_65 : decode cX0_verdict 65 = .ok (.iload_n 1, 1) := by decide +kernel
theorem dX0_verdict_66 : decode cX0_verdict 66 = .ok (.iaload, 1) := by decide +kernel
theorem dX0_verdict_67 : decode cX0_verdict 67 = .ok (.invokestatic 36, 3) := by decide +kernel
theorem dX0_verdict_70 : decode cX0_verdict 70 = .ok (.ifCond .ne 6, 3) := by decide +kernel
theorem dX0_verdict_73 : decode cX0_verdict 73 = .ok (.bipush (-18), 2) := by decide +kernel
theorem dX0_verdict_75 : decode cX0_verdict 75 = .ok (.ireturn, 1) := by decide +kernel
theorem dX0_verdict_76 : decode cX0_verdict 76 = .ok (.aload_n 0, 1) := by decide +kernel
theorem dX0_verdict_77 : decode cX0_verdict 77 = .ok (.getfield 15, 3) := by decide +kernel
theorem dX0_verdict_80 : decode cX0_verdict 80 = .ok (.getfield 46, 3) := by decide +kernel
theorem dX0_verdict_83 : decode cX0_verdict 83 = .ok (.iload_n 1, 1) := by decide +kernel
theorem dX0_verdict_84 : decode cX0_verdict 84 = .ok (.iaload, 1) := by decide +kernel
theorem dX0_verdict_85 : decode cX0_verdict 85 = .ok (.iload 5, 2) := by decide +kernel
theorem dX0_verdict_87 : decode cX0_verdict 87 = .ok (.iand, 1) := by decide +kernel
theorem dX0_verdict_88 : decode cX0_verdict 88 = .ok (.ifCond .eq 6, 3) := by decide +kernel
theorem dX0_verdict_91 : decode cX0_verdict 91 = .ok (.bipush (-19), 2) := by decide +kernel
theorem dX0_verdict_93 : decode cX0_verdict 93 = .ok (.ireturn, 1) := by decide +kernel
theorem dX0_verdict_94 : decode cX0_verdict 94 = .ok (.aload_n 0, 1) := by decide +kernel
theorem dX0_verdict_95 : decode cX0_verdict 95 = .ok (.getfield 15, 3) := by decide +kernel
theorem dX0_verdict_98 : decode cX0_verdict 98 = .ok (.getfield 49, 3) := by decide +kernel
theorem dX0_verdict_101 : decode cX0_verdict 101 = .ok (.iload_n 1, 1) := by decide +kernel
theorem dX0_verdict_102 : decode cX0_verdict 102 = .ok (.iaload, 1) := by decide +kernel
theorem dX0_verdict_103 : decode cX0_verdict 103 = .ok (.iload 4, 2) := by decide +kernel
theorem dX0_verdict_105 : decode cX0_verdict 105 = .ok (.iand, 1) := by decide +kernel
theorem dX0_verdict_106 : decode cX0_verdict 106 = .ok (.iload 5, 2) := by decide +kernel
theorem dX0_verdict_108 : decode cX0_verdict 108 = .ok (.iconst (-1), 1) := by decide +kernel
theorem dX0_verdict_109 : decode cX0_verdict 109 = .ok (.ixor, 1) := by decide +kernel
theorem dX0_verdict_110 : decode cX0_verdict 110 = .ok (.iand, 1) := by decide +kernel
theorem dX0_verdict_111 : decode cX0_verdict 111 = .ok (.ifCond .eq 6, 3) := by decide +kernel
theorem dX0_verdict_114 : decode cX0_verdict 114 = .ok (.bipush (-20), 2) := by decide +kernel
theorem dX0_verdict_116 : decode cX0_verdict 116 = .ok (.ireturn, 1) := by decide +kernel
theorem dX0_verdict_117 : decode cX0_verdict 117 = .ok (.iload 5, 2) := by decide +kernel
theorem dX0_verdict_119 : decode cX0_verdict 119 = .ok (.invokestatic 52, 3) := by decide +kernel
theorem dX0_verdict_122 : decode cX0_verdict 122 = .ok (.aload_n 0, 1) := by decide +kernel
theorem dX0_verdict_123 : decode cX0_verdict 123 = .ok (.getfield 15, 3) := by decide +kernel
theorem dX0_verdict_126 : decode cX0_verdict 126 = .ok (.getfield 57, 3) := by decide +kernel
theorem dX0_verdict_129 : decode cX0_verdict 129 = .ok (.if_icmp .lt 6, 3) := by decide +kernel
theorem dX0_verdict_132 : decode cX0_verdict 132 = .ok (.bipush (-21), 2) := by decide +kernel
theorem dX0_verdict_134 : decode cX0_verdict 134 = .ok (.ireturn, 1) := by decide +kernel
theorem dX0_verdict_135 : decode cX0_verdict 135 = .ok (.aload_n 0, 1) := by decide +kernel
theorem dX0_verdict_136 : decode cX0_verdict 136 = .ok (.iload_n 1, 1) := by decide +kernel
theorem dX0_verdict_137 : decode cX0_verdict 137 = .ok (.iload_n 2, 1) := by decide +kernel
theorem dX0_verdict_138 : decode cX0_verdict 138 = .ok (.aload_n 3, 1) := by decide +kernel
theorem dX0_verdict_139 : decode cX0_verdict 139 = .ok (.invokevirtual 60, 3) := by decide +kernel
theorem dX0_verdict_142 : decode cX0_verdict 142 = .ok (.ifCond .eq 8, 3) := by decide +kernel
theorem dX0_verdict_145 : decode cX0_verdict 145 = .ok (.bipush (-22), 2) := by decide +kernel
theorem dX0_verdict_147 : decode cX0_verdict 147 = .ok (.goto 4, 3) := by decide +kernel
theorem dX0_verdict_150 : decode cX0_verdict 150 = .ok (.iconst 0, 1) := by decide +kernel
theorem dX0_verdict_151 : decode cX0_verdict 151 = .ok (.ireturn, 1) := by decide +kernel
theorem dX0_wouldStick_0 : decode cX0_wouldStick 0 = .ok (.aload_n 0, 1) := by decide +kernel
theorem dX0_wouldStick_1 : decode cX0_wouldStick 1 = .ok (.aload_n 3, 1) := by decide +kernel
theorem dX0_wouldStick_2 : decode cX0_wouldStick 2 = .ok (.invokevirtual 64, 3) := by decide +kernel
theorem dX0_wouldStick_5 : decode cX0_wouldStick 5 = .ok (.ifCond .ne 5, 3) := by decide +kernel
theorem dX0_wouldStick_8 : decode cX0_wouldStick 8 = .ok (.iconst 0, 1) := by decide +kernel
theorem dX0_wouldStick_9 : decode cX0_wouldStick 9 = .ok (.ireturn, 1) := by decide +kernel
theorem dX0_wouldStick_10 : decode cX0_wouldStick 10 = .ok (.aload_n 0, 1) := by decide +kernel
theorem dX0_wouldStick_11 : decode cX0_wouldStick 11 = .ok (.getfield 9, 3) := by decide +kernel
theorem dX0_wouldStick_14 : decode cX0_wouldStick 14 = .ok (.iload_n 1, 1) := by decide +kernel
theorem dX0_wouldStick_15 : decode cX0_wouldStick 15 = .ok (.iload_n 2, 1) := by decide +kernel
theorem dX0_wouldStick_16 : decode cX0_wouldStick 16 = .ok (.iastore, 1) := by decide +kernel
theorem dX0_wouldStick_17 : decode cX0_wouldStick 17 = .ok (.aload_n 0, 1) := by decide +kernel
theorem dX0_wouldStick_18 : decode cX0_wouldStick 18 = .ok (.aload_n 3, 1) := by decide +kernel
theorem dX0_wouldStick_19 : decode cX0_wouldStick 19 = .ok (.invokevirtual 64, 3) := by decide +kernel
theorem dX0_wouldStick_22 : decode cX0_wouldStick 22 = .ok (.ifCond .ne 7, 3) := by decide +kernel
theorem dX0_wouldStick_25 : decode cX0_wouldStick 25 = .ok (.iconst 1, 1) := by decide +kernel
theorem dX0_wouldStick_26 : decode cX0_wouldStick 26 = .ok (.goto 4, 3) := by decide +kernel
theorem dX0_wouldStick_29 : decode cX0_wouldStick 29 = .ok (.iconst 0, 1) := by decide +kernel
theorem dX0_wouldStick_30 : decode cX0_wouldStick 30 = .ok (.istore 4, 2) := by decide +kernel
theorem dX0_wouldStick_32 : decode cX0_wouldStick 32 = .ok (.aload_n 0, 1) := by decide +kernel
theorem dX0_wouldStick_33 : decode cX0_wouldStick 33 = .ok (.getfield 9, 3) := by decide +kernel
theorem dX0_wouldStick_36 : decode cX0_wouldStick 36 = .ok (.iload_n 1, 1) := by decide +kernel
theorem dX0_wouldStick_37 : decode cX0_wouldStick 37 = .ok (.iconst (-1), 1) := by decide +kernel
theorem dX0_wouldStick_38 : decode cX0_wouldStick 38 = .ok (.iastore, 1) := by decide +kernel
theorem dX0_wouldStick_39 : decode cX0_wouldStick 39 = .ok (.iload 4, 2) := by decide +kernel
theorem dX0_wouldStick_41 : decode cX0_wouldStick 41 = .ok (.ireturn, 1) := by decide +kernel
theorem dX0_couldEnd_0 : decode cX0_couldEnd 0 = .ok (.aload_n 0, 1) := by decide +kernel
theorem dX0_couldEnd_1 : decode cX0_couldEnd 1 = .ok (.invokevirtual 33, 3) := by decide +kernel
theorem dX0_couldEnd_4 : decode cX0_couldEnd 4 = .ok (.istore_n 2, 1) := by decide +kernel
theorem dX0_couldEnd_5 : decode cX0_couldEnd 5 = .ok (.lconst 1, 1) := by decide +kernel
theorem dX0_couldEnd_6 : decode cX0_couldEnd 6 = .ok (.lstore_n 3, 1) := by decide +kernel
theorem dX0_couldEnd_7 : decode cX0_couldEnd 7 = .ok (.iconst 0, 1) := by decide +kernel
theorem dX0_couldEnd_8 : decode cX0_couldEnd 8 = .ok (.istore 5, 2) := by decide +kernel
theorem dX0_couldEnd_10 : decode cX0_couldEnd 10 = .ok (.iload 5, 2) := by decide +kernel
theorem dX0_couldEnd_12 : decode cX0_couldEnd 12 = .ok (.bipush 12, 2) := by decide +kernel
theorem dX0_couldEnd_14 : decode cX0_couldEnd 14 = .ok (.if_icmp .ge 38, 3) := by decide +kernel
theorem dX0_couldEnd_17 : decode cX0_couldEnd 17 = .ok (.iload_n 2, 1) := by decide +kernel
theorem dX0_couldEnd_18 : decode cX0_couldEnd 18 = .ok (.aload_n 0, 1) := by decide +kernel
theorem dX0_couldEnd_19 : decode cX0_couldEnd 19 = .ok (.getfield 15, 3) := by decide +kernel
theorem dX0_couldEnd_22 : decode cX0_couldEnd 22 = .ok (.aload_n 1, 1) := by decide +kernel
theorem dX0_couldEnd_23 : decode cX0_couldEnd 23 = .ok (.iload 5, 2) := by decide +kernel
theorem dX0_couldEnd_25 : decode cX0_couldEnd 25 = .ok (.iaload, 1) := by decide +kernel
theorem dX0_couldEnd_26 : decode cX0_couldEnd 26 = .ok (.invokevirtual 68, 3) := by decide +kernel
theorem dX0_couldEnd_29 : decode cX0_couldEnd 29 = .ok (.iand, 1) := by decide +kernel
theorem dX0_couldEnd_30 : decode cX0_couldEnd 30 = .ok (.istore 6, 2) := by decide +kernel
theorem dX0_couldEnd_32 : decode cX0_couldEnd 32 = .ok (.aload_n 0, 1) := by decide +kernel
theorem dX0_couldEnd_33 : decode cX0_couldEnd 33 = .ok (.lload_n 3, 1) := by decide +kernel
theorem dX0_couldEnd_34 : decode cX0_couldEnd 34 = .ok (.iload 6, 2) := by decide +kernel
theorem dX0_couldEnd_36 : decode cX0_couldEnd 36 = .ok (.aload_n 0, 1) := by decide +kernel
theorem dX0_couldEnd_37 : decode cX0_couldEnd 37 = .ok (.iload 5, 2) := by decide +kernel
theorem dX0_couldEnd_39 : decode cX0_couldEnd 39 = .ok (.invokevirtual 25, 3) := by decide +kernel
theorem dX0_couldEnd_42 : decode cX0_couldEnd 42 = .ok (.invokevirtual 71, 3) := by decide +kernel
theorem dX0_couldEnd_45 : decode cX0_couldEnd 45 = .ok (.lstore_n 3, 1) := by decide +kernel
theorem dX0_couldEnd_46 : decode cX0_couldEnd 46 = .ok (.iinc 5 1, 3) := by decide +kernel
theorem dX0_couldEnd_49 : decode cX0_couldEnd 49 = .ok (.goto (-39), 3) := by decide +kernel
theorem dX0_couldEnd_52 : decode cX0_couldEnd 52 = .ok (.lload_n 3, 1) := by decide +kernel
theorem dX0_couldEnd_53 : decode cX0_couldEnd 53 = .ok (.iload_n 2, 1) := by decide +kernel
theorem dX0_couldEnd_54 : decode cX0_couldEnd 54 = .ok (.lushr, 1) := by decide +kernel
theorem dX0_couldEnd_55 : decode cX0_couldEnd 55 = .ok (.lconst 1, 1) := by decide +kernel
theorem dX0_couldEnd_56 : decode cX0_couldEnd 56 = .ok (.land, 1) := by decide +kernel
theorem dX0_couldEnd_57 : decode cX0_couldEnd 57 = .ok (.lconst 0, 1) := by decide +kernel
theorem dX0_couldEnd_58 : decode cX0_couldEnd 58 = .ok (.lcmp, 1) := by decide +kernel
theorem dX0_couldEnd_59 : decode cX0_couldEnd 59 = .ok (.ifCond .eq 7, 3) := by decide +kernel
theorem dX0_couldEnd_62 : decode cX0_couldEnd 62 = .ok (.iconst 1, 1) := by decide +kernel
theorem dX0_couldEnd_63 : decode cX0_couldEnd 63 = .ok (.goto 4, 3) := by decide +kernel
theorem dX0_couldEnd_66 : decode cX0_couldEnd 66 = .ok (.iconst 0, 1) := by decide +kernel
theorem dX0_couldEnd_67 : decode cX0_couldEnd 67 = .ok (.ireturn, 1) := by decide +kernel
theorem dX0_sharedWith_0 : decode cX0_sharedWith 0 = .ok (.lconst 0, 1) := by decide +kernel
theorem dX0_sharedWith_1 : decode cX0_sharedWith 1 = .ok (.lstore 5, 2) := by decide +kernel
theorem dX0_sharedWith_3 : decode cX0_sharedWith 3 = .ok (.iconst 0, 1) := by decide +kernel
theorem dX0_sharedWith_4 : decode cX0_sharedWith 4 = .ok (.istore 7, 2) := by decide +kernel
theorem dX0_sharedWith_6 : decode cX0_sharedWith 6 = .ok (.iload 7, 2) := by decide +kernel
theorem dX0_sharedWith_8 : decode cX0_sharedWith 8 = .ok (.iload_n 3, 1) := by decide +kernel
theorem dX0_sharedWith_9 : decode cX0_sharedWith 9 = .ok (.if_icmp .gt 48, 3) := by decide +kernel
theorem dX0_sharedWith_12 : decode cX0_sharedWith 12 = .ok (.iload 7, 2) := by decide +kernel
theorem dX0_sharedWith_14 : decode cX0_sharedWith 14 = .ok (.iload_n 3, 1) := by decide +kernel
theorem dX0_sharedWith_15 : decode cX0_sharedWith 15 = .ok (.iconst (-1), 1) := by decide +kernel
theorem dX0_sharedWith_16 : decode cX0_sharedWith 16 = .ok (.ixor, 1) := by decide +kernel
theorem dX0_sharedWith_17 : decode cX0_sharedWith 17 = .ok (.iand, 1) := by decide +kernel
theorem dX0_sharedWith_18 : decode cX0_sharedWith 18 = .ok (.ifCond .ne 33, 3) := by decide +kernel
theorem dX0_sharedWith_21 : decode cX0_sharedWith 21 = .ok (.aload_n 0, 1) := by decide +kernel
theorem dX0_sharedWith_22 : decode cX0_sharedWith 22 = .ok (.getfield 15, 3) := by decide +kernel
theorem dX0_sharedWith_25 : decode cX0_sharedWith 25 = .ok (.iload 4, 2) := by decide +kernel
theorem dX0_sharedWith_27 : decode cX0_sharedWith 27 = .ok (.iload 7, 2) := by decide +kernel
theorem dX0_sharedWith_29 : decode cX0_sharedWith 29 = .ok (.ior, 1) := by decide +kernel
theorem dX0_sharedWith_30 : decode cX0_sharedWith 30 = .ok (.invokevirtual 75, 3) := by decide +kernel
theorem dX0_sharedWith_33 : decode cX0_sharedWith 33 = .ok (.ifCond .eq 18, 3) := by decide +kernel
theorem dX0_sharedWith_36 : decode cX0_sharedWith 36 = .ok (.lload 5, 2) := by decide +kernel
theorem dX0_sharedWith_38 : decode cX0_sharedWith 38 = .ok (.lload_n 1, 1) := by decide +kernel
theorem dX0_sharedWith_39 : decode cX0_sharedWith 39 = .ok (.iload 7, 2) := by decide +kernel
theorem dX0_sharedWith_41 : decode cX0_sharedWith 41 = .ok (.invokestatic 79, 3) := by decide +kernel
theorem dX0_sharedWith_44 : decode cX0_sharedWith 44 = .ok (.land, 1) := by decide +kernel
theorem dX0_sharedWith_45 : decode cX0_sharedWith 45 = .ok (.iload 7, 2) := by decide +kernel
theorem dX0_sharedWith_47 : decode cX0_sharedWith 47 = .ok (.lshl, 1) := by decide +kernel
theorem dX0_sharedWith_48 : decode cX0_sharedWith 48 = .ok (.lor, 1) := by decide +kernel
theorem dX0_sharedWith_49 : decode cX0_sharedWith 49 = .ok (.lstore 5, 2) := by decide +kernel
theorem dX0_sharedWith_51 : decode cX0_sharedWith 51 = .ok (.iinc 7 1, 3) := by decide +kernel
theorem dX0_sharedWith_54 : decode cX0_sharedWith 54 = .ok (.goto (-48), 3) := by decide +kernel
theorem dX0_sharedWith_57 : decode cX0_sharedWith 57 = .ok (.lload 5, 2) := by decide +kernel
theorem dX0_sharedWith_59 : decode cX0_sharedWith 59 = .ok (.lreturn, 1) := by decide +kernel
theorem dX0_setsWithoutAnyOf_0 : decode cX0_setsWithoutAnyOf 0 = .ok (.ldc2_w 83, 3) := by decide +kernel
theorem dX0_setsWithoutAnyOf_3 : decode cX0_setsWithoutAnyOf 3 = .ok (.lstore_n 1, 1) := by decide +kernel
theorem dX0_setsWithoutAnyOf_4 : decode cX0_setsWithoutAnyOf 4 = .ok (.iconst 0, 1) := by decide +kernel
theorem dX0_setsWithoutAnyOf_5 : decode cX0_setsWithoutAnyOf 5 = .ok (.istore_n 3, 1) := by decide +kernel
theorem dX0_setsWithoutAnyOf_6 : decode cX0_setsWithoutAnyOf 6 = .ok (.iload_n 3, 1) := by decide +kernel
theorem dX0_setsWithoutAnyOf_7 : decode cX0_setsWithoutAnyOf 7 = .ok (.bipush 6, 2) := by decide +kernel
theorem dX0_setsWithoutAnyOf_9 : decode cX0_setsWithoutAnyOf 9 = .ok (.if_icmp .ge 25, 3) := by decide +kernel
theorem dX0_setsWithoutAnyOf_12 : decode cX0_setsWithoutAnyOf 12 = .ok (.iload_n 0, 1) := by decide +kernel
theorem dX0_setsWithoutAnyOf_13 : decode cX0_setsWithoutAnyOf 13 = .ok (.iload_n 3, 1) := by decide +kernel
theorem dX0_setsWithoutAnyOf_14 : decode cX0_setsWithoutAnyOf 14 = .ok (.invokestatic 36, 3) := by decide +kernel
theorem dX0_setsWithoutAnyOf_17 : decode cX0_setsWithoutAnyOf 17 = .ok (.ifCond .eq 11, 3) := by decide +kernel
theorem dX0_setsWithoutAnyOf_20 : decode cX0_setsWithoutAnyOf 20 = .ok (.lload_n 1, 1) := by decide +kernel
theorem dX0_setsWithoutAnyOf_21 : decode cX0_setsWithoutAnyOf 21 = .ok (.getstatic 85, 3) := by decide +kernel
theorem dX0_setsWithoutAnyOf_24 : decode cX0_setsWithoutAnyOf 24 = .ok (.iload_n 3, 1) := by decide +kernel
theorem dX0_setsWithoutAnyOf_25 : decode cX0_setsWithoutAnyOf 25 = .ok (.laload, 1) := by decide +kernel
theorem dX0_setsWithoutAnyOf_26 : decode cX0_setsWithoutAnyOf 26 = .ok (.land, 1) := by decide +kernel
theorem dX0_setsWithoutAnyOf_27 : decode cX0_setsWithoutAnyOf 27 = .ok (.lstore_n 1, 1) := by decide +kernel
theorem dX0_setsWithoutAnyOf_28 : decode cX0_setsWithoutAnyOf 28 = .ok (.iinc 3 1, 3) := by decide +kernel
theorem dX0_setsWithoutAnyOf_31 : decode cX0_setsWithoutAnyOf 31 = .ok (.goto (-25), 3) := by decide +kernel
theorem dX0_setsWithoutAnyOf_34 : decode cX0_setsWithoutAnyOf 34 = .ok (.lload_n 1, 1) := by decide +kernel
theorem dX0_setsWithoutAnyOf_35 : decode cX0_setsWithoutAnyOf 35 = .ok (.lreturn, 1) := by decide +kernel
theorem dX5_init_0 : decode cX5_init 0 = .ok (.aload_n 0, 1) := by decide +kernel
theorem dX5_init_1 : decode cX5_init 1 = .ok (.invokespecial 1, 3) := by decide +kernel
theorem dX5_init_4 : decode cX5_init 4 = .ok (.aload_n 0, 1) := by decide +kernel
theorem dX5_init_5 : decode cX5_init 5 = .ok (.bipush 12, 2) := by decide +kernel
theorem dX5_init_7 : decode cX5_init 7 = .ok (.newarray .int, 2) := by decide +kernel
theorem dX5_init_9 : decode cX5_init 9 = .ok (.putfield 9, 3) := by decide +kernel
theorem dX5_init_12 : decode cX5_init 12 = .ok (.aload_n 0, 1) := by decide +kernel
theorem dX5_init_13 : decode cX5_init 13 = .ok (.new 13, 3) := by decide +kernel
theorem dX5_init_16 : decode cX5_init 16 = .ok (.dup, 1) := by decide +kernel
theorem dX5_init_17 : decode cX5_init 17 = .ok (.invokespecial 15, 3) := by decide +kernel
theorem dX5_init_20 : decode cX5_init 20 = .ok (.putfield 16, 3) := by decide +kernel
theorem dX5_init_23 : decode cX5_init 23 = .ok (.aload_n 0, 1) := by decide +kernel
theorem dX5_init_24 : decode cX5_init 24 = .ok (.new 20, 3) := by decide +kernel
theorem dX5_init_27 : decode cX5_init 27 = .ok (.dup, 1) := by decide +kernel
theorem dX5_init_28 : decode cX5_init 28 = .ok (.invokespecial 22, 3) := by decide +kernel
theorem dX5_init_31 : decode cX5_init 31 = .ok (.putfield 23, 3) := by decide +kernel
theorem dX5_init_34 : decode cX5_init 34 = .ok (.aload_n 0, 1) := by decide +kernel
theorem dX5_init_35 : decode cX5_init 35 = .ok (.iconst 4, 1) := by decide +kernel
theorem dX5_init_36 : decode cX5_init 36 = .ok (.anewarray 27, 3) := by decide +kernel
theorem dX5_init_39 : decode cX5_init 39 = .ok (.putfield 29, 3) := by decide +kernel
theorem dX5_init_42 : decode cX5_init 42 = .ok (.aload_n 0, 1) := by decide +kernel
theorem dX5_init_43 : decode cX5_init 43 = .ok (.bipush 16, 2) := by decide +kernel
theorem dX5_init_45 : decode cX5_init 45 = .ok (.anewarray 33, 3) := by decide +kernel
theorem dX5_init_48 : decode cX5_init 48 = .ok (.putfield 35, 3) := by decide +kernel
theorem dX5_init_51 : decode cX5_init 51 = .ok (.aload_n 0, 1) := by decide +kernel
theorem dX5_init_52 : decode cX5_init 52 = .ok (.new 39, 3) := by decide +kernel
theorem dX5_init_55 : decode cX5_init 55 = .ok (.dup, 1) := by decide +kernel
theorem dX5_init_56 : decode cX5_init 56 = .ok (.invokespecial 41, 3) := by decide +kernel
theorem dX5_init_59 : decode cX5_init 59 = .ok (.putfield 42, 3) := by decide +kernel
theorem dX5_init_62 : decode cX5_init 62 = .ok (.return_, 1) := by decide +kernel
theorem dX5_tick_0 : decode cX5_tick 0 = .ok (.iload_n 1, 1) := by decide +kernel
theorem dX5_tick_1 : decode cX5_tick 1 = .ok (.iconst 1, 1) := by decide +kernel
theorem dX5_tick_2 : decode cX5_tick 2 = .ok (.if_icmp .lt 10, 3) := by decide +kernel
theorem dX5_tick_5 : decode cX5_tick 5 = .ok (.iload_n 1, 1) := by decide +kernel
theorem dX5_tick_6 : decode cX5_tick 6 = .ok (.sipush 1000, 3) := by decide +kernel
theorem dX5_tick_9 : decode cX5_tick 9 = .ok (.if_icmp .le 6, 3) := by decide +kernel
theorem dX5_tick_12 : decode cX5_tick 12 = .ok (.bipush (-2), 2) := by decide +kernel
theorem dX5_tick_14 : decode cX5_tick 14 = .ok (.ireturn, 1) := by decide +kernel
theorem dX5_tick_15 : decode cX5_tick 15 = .ok (.aload_n 0, 1) := by decide +kernel
theorem dX5_tick_16 : decode cX5_tick 16 = .ok (.getfield 46, 3) := by decide +kernel
theorem dX5_tick_19 : decode cX5_tick 19 = .ok (.iload_n 1, 1) := by decide +kernel
theorem dX5_tick_20 : decode cX5_tick 20 = .ok (.iadd, 1) := by decide +kernel
theorem dX5_tick_21 : decode cX5_tick 21 = .ok (.ldc 50, 2) := by decide +kernel
theorem dX5_tick_23 : decode cX5_tick 23 = .ok (.if_icmp .le 6, 3) := by decide +kernel
theorem dX5_tick_26 : decode cX5_tick 26 = .ok (.bipush (-3), 2) := by decide +kernel
theorem dX5_tick_28 : decode cX5_tick 28 = .ok (.ireturn, 1) := by decide +kernel
theorem dX5_tick_29 : decode cX5_tick 29 = .ok (.aload_n 0, 1) := by decide +kernel
theorem dX5_tick_30 : decode cX5_tick 30 = .ok (.dup, 1) := by decide +kernel
theorem dX5_tick_31 : decode cX5_tick 31 = .ok (.getfield 46, 3) := by decide +kernel
theorem dX5_tick_34 : decode cX5_tick 34 = .ok (.iload_n 1, 1) := by decide +kernel
theorem dX5_tick_35 : decode cX5_tick 35 = .ok (.iadd, 1) := by decide +kernel
theorem dX5_tick_36 : decode cX5_tick 36 = .ok (.putfield 46, 3) := by decide +kernel
theorem dX5_tick_39 : decode cX5_tick 39 = .ok (.aload_n 0, 1) := by decide +kernel
theorem dX5_tick_40 : decode cX5_tick 40 = .ok (.getfield 46, 3) := by decide +kernel
theorem dX5_tick_43 : decode cX5_tick 43 = .ok (.ireturn, 1) := by decide +kernel
theorem dX5_roles_0 : decode cX5_roles 0 = .ok (.iload_n 1, 1) := by decide +kernel
theorem dX5_roles_1 : decode cX5_roles 1 = .ok (.invokestatic 51, 3) := by decide +kernel
theorem dX5_roles_4 : decode cX5_roles 4 = .ok (.ifCond .eq 14, 3) := by decide +kernel
theorem dX5_roles_7 : decode cX5_roles 7 = .ok (.iload_n 2, 1) := by decide +kernel
theorem dX5_roles_8 : decode cX5_roles 8 = .ok (.ifCond .lt 10, 3) := by decide +kernel
theorem dX5_roles_11 : decode cX5_roles 11 = .ok (.iload_n 2, 1) := by decide +kernel
theorem dX5_roles_12 : decode cX5_roles 12 = .ok (.sipush 256, 3) := by decide +kernel
theorem dX5_roles_15 : decode cX5_roles 15 = .ok (.if_icmp .lt 6, 3) := by decide +kernel
theorem dX5_roles_18 : decode cX5_roles 18 = .ok (.bipush (-2), 2) := by decide +kernel
theorem dX5_roles_20 : decode cX5_roles 20 = .ok (.ireturn, 1) := by decide +kernel
theorem dX5_roles_21 : decode cX5_roles 21 = .ok (.aload_n 0, 1) := by decide +kernel
theorem dX5_roles_22 : decode cX5_roles 22 = .ok (.getfield 9, 3) := by decide +kernel
theorem dX5_roles_25 : decode cX5_roles 25 = .ok (.iload_n 1, 1) := by decide +kernel
theorem dX5_roles_26 : decode cX5_roles 26 = .ok (.iaload, 1) := by decide +kernel
theorem dX5_roles_27 : decode cX5_roles 27 = .ok (.istore_n 3, 1) := by decide +kernel
theorem dX5_roles_28 : decode cX5_roles 28 = .ok (.aload_n 0, 1) := by decide +kernel
theorem dX5_roles_29 : decode cX5_roles 29 = .ok (.getfield 9, 3) := by decide +kernel
theorem dX5_roles_32 : decode cX5_roles 32 = .ok (.iload_n 1, 1) := by decide +kernel
theorem dX5_roles_33 : decode cX5_roles 33 = .ok (.iload_n 2, 1) := by decide +kernel
theorem dX5_roles_34 : decode cX5_roles 34 = .ok (.iastore, 1) := by decide +kernel
theorem dX5_roles_35 : decode cX5_roles 35 = .ok (.iload_n 3, 1) := by decide +kernel
theorem dX5_roles_36 : decode cX5_roles 36 = .ok (.ireturn, 1) := by decide +kernel
theorem dX5_firm_0 : decode cX5_firm 0 = .ok (.iload_n 1, 1) := by decide +kernel
theorem dX5_firm_1 : decode cX5_firm 1 = .ok (.iconst (-1), 1) := by decide +kernel
theorem dX5_firm_2 : decode cX5_firm 2 = .ok (.if_icmp .eq 15, 3) := by decide +kernel
theorem dX5_firm_5 : decode cX5_firm 5 = .ok (.iload_n 1, 1) := by decide +kernel
theorem dX5_firm_6 : decode cX5_firm 6 = .ok (.bipush 8, 2) := by decide +kernel
theorem dX5_firm_8 : decode cX5_firm 8 = .ok (.invokestatic 55, 3) := by decide +kernel
theorem dX5_firm_11 : decode cX5_firm 11 = .ok (.ifCond .ne 6, 3) := by decide +kernel
theorem dX5_firm_14 : decode cX5_firm 14 = .ok (.bipush (-2), 2) := by decide +kernel
theorem dX5_firm_16 : decode cX5_firm 16 = .ok (.ireturn, 1) := by decide +kernel
theorem dX5_firm_17 : decode cX5_firm 17 = .ok (.aload_n 0, 1) := by decide +kernel
theorem dX5_firm_18 : decode cX5_firm 18 = .ok (.getfield 16, 3) := by decide +kernel
theorem dX5_firm_21 : decode cX5_firm 21 = .ok (.iload_n 1, 1) := by decide +kernel
theorem dX5_firm_22 : decode cX5_firm 22 = .ok (.invokevirtual 59, 3) := by decide +kernel
theorem dX5_firm_25 : decode cX5_firm 25 = .ok (.ireturn, 1) := by decide +kernel
theorem dX5_object_0 : decode cX5_object 0 = .ok (.aload_n 0, 1) := by decide +kernel
theorem dX5_object_1 : decode cX5_object 1 = .ok (.getfield 16, 3) := by decide +kernel
theorem dX5_object_4 : decode cX5_object 4 = .ok (.iload_n 1, 1) := by decide +kernel
theorem dX5_object_5 : decode cX5_object 5 = .ok (.invokevirtual 63, 3) := by decide +kernel
theorem dX5_object_8 : decode cX5_object 8 = .ok (.ifCond .ne 6, 3) := by decide +kernel
theorem dX5_object_11 : decode cX5_object 11 = .ok (.bipush (-2), 2) := by decide +kernel
theorem dX5_object_13 : decode cX5_object 13 = .ok (.ireturn, 1) := by decide +kernel
theorem dX5_object_14 : decode cX5_object 14 = .ok (.aload_n 0, 1) := by decide +kernel
theorem dX5_object_15 : decode cX5_object 15 = .ok (.getfield 16, 3) := by decide +kernel
theorem dX5_object_18 : decode cX5_object 18 = .ok (.iload_n 1, 1) := by decide +kernel
theorem dX5_object_19 : decode cX5_object 19 = .ok (.invokevirtual 66, 3) := by decide +kernel
theorem dX5_object_22 : decode cX5_object 22 = .ok (.ireturn, 1) := by decide +kernel
theorem dX5_read_0 : decode cX5_read 0 = .ok (.aload_n 0, 1) := by decide +kernel
theorem dX5_read_1 : decode cX5_read 1 = .ok (.iconst 1, 1) := by decide +kernel
theorem dX5_read_2 : decode cX5_read 2 = .ok (.iload_n 1, 1) := by decide +kernel
theorem dX5_read_3 : decode cX5_read 3 = .ok (.iload_n 2, 1) := by decide +kernel
theorem dX5_read_4 : decode cX5_read 4 = .ok (.invokevirtual 69, 3) := by decide +kernel
theorem dX5_read_7 : decode cX5_read 7 = .ok (.ireturn, 1) := by decide +kernel
theorem dX5_write_0 : decode cX5_write 0 = .ok (.aload_n 0, 1) := by decide +kernel
theorem dX5_write_1 : decode cX5_write 1 = .ok (.iconst 2, 1) := by decide +kernel
theorem dX5_write_2 : decode cX5_write 2 = .ok (.iload_n 1, 1) := by decide +kernel
theorem dX5_write_3 : decode cX5_write 3 = .ok (.iload_n 2, 1) := by decide +kernel
theorem dX5_write_4 : decode cX5_write 4 = .ok (.invokevirtual 69, 3) := by decide +kernel
theorem dX5_write_7 : decode cX5_write 7 = .ok (.ireturn, 1) := by decide +kernel
theorem dX5_glass_0 : decode cX5_glass 0 = .ok (.iload_n 1, 1) := by decide +kernel
theorem dX5_glass_1 : decode cX5_glass 1 = .ok (.invokestatic 51, 3) := by decide +kernel
theorem dX5_glass_4 : decode cX5_glass 4 = .ok (.ifCond .eq 25, 3) := by decide +kernel
theorem dX5_glass_7 : decode cX5_glass 7 = .ok (.aload_n 0, 1) := by decide +kernel
theorem dX5_glass_8 : decode cX5_glass 8 = .ok (.getfield 16, 3) := by decide +kernel
theorem dX5_glass_11 : decode cX5_glass 11 = .ok (.iload_n 2, 1) := by decide +kernel
theorem dX5_glass_12 : decode cX5_glass 12 = .ok (.invokevirtual 63, 3) := by decide +kernel
theorem dX5_glass_15 : decode cX5_glass 15 = .ok (.ifCond .eq 14, 3) := by decide +kernel
theorem dX5_glass_18 : decode cX5_glass 18 = .ok (.iload_n 3, 1) := by decide +kernel
theorem dX5_glass_19 : decode cX5_glass 19 = .ok (.iconst 1, 1) := by decide +kernel
theorem dX5_glass_20 : decode cX5_glass 20 = .ok (.if_icmp .lt 9, 3) := by decide +kernel
theorem dX5_glass_23 : decode cX5_glass 23 = .ok (.iload_n 3, 1) := by decide +kernel
theorem dX5_glass_24 : decode cX5_glass 24 = .ok (.bipush 100, 2) := by decide +kernel
theorem dX5_glass_26 : decode cX5_glass 26 = .ok (.if_icmp .le 6, 3) := by decide +kernel
theorem dX5_glass_29 : decode cX5_glass 29 = .ok (.bipush (-2), 2) := by decide +kernel
theorem dX5_glass_31 : decode cX5_glass 31 = .ok (.ireturn, 1) := by decide +kernel
theorem dX5_glass_32 : decode cX5_glass 32 = .ok (.aload_n 0, 1) := by decide +kernel
theorem dX5_glass_33 : decode cX5_glass 33 = .ok (.getfield 16, 3) := by decide +kernel
theorem dX5_glass_36 : decode cX5_glass 36 = .ok (.iload_n 1, 1) := by decide +kernel
theorem dX5_glass_37 : decode cX5_glass 37 = .ok (.iload_n 2, 1) := by decide +kernel
theorem dX5_glass_38 : decode cX5_glass 38 = .ok (.invokevirtual 73, 3) := by decide +kernel
theorem dX5_glass_41 : decode cX5_glass 41 = .ok (.ifCond .eq 6, 3) := by decide +kernel
theorem dX5_glass_44 : decode cX5_glass 44 = .ok (.bipush (-13), 2) := by decide +kernel
theorem dX5_glass_46 : decode cX5_glass 46 = .ok (.ireturn, 1) := by decide +kernel
theorem dX5_glass_47 : decode cX5_glass 47 = .ok (.aload_n 0, 1) := by decide +kernel
theorem dX5_glass_48 : decode cX5_glass 48 = .ok (.getfield 23, 3) := by decide +kernel
theorem dX5_glass_51 : decode cX5_glass 51 = .ok (.iload_n 1, 1) := by decide +kernel
theorem dX5_glass_52 : decode cX5_glass 52 = .ok (.iload_n 2, 1) := by decide +kernel
theorem dX5_glass_53 : decode cX5_glass 53 = .ok (.aload_n 0, 1) := by decide +kernel
theorem dX5_glass_54 : decode cX5_glass 54 = .ok (.getfield 46, 3) := by decide +kernel
theorem dX5_glass_57 : decode cX5_glass 57 = .ok (.invokevirtual 76, 3) := by decide +kernel
theorem dX5_glass_60 : decode cX5_glass 60 = .ok (.ifCond .eq 6, 3) := by decide +kernel
theorem dX5_glass_63 : decode cX5_glass 63 = .ok (.bipush (-14), 2) := by decide +kernel
theorem dX5_glass_65 : decode cX5_glass 65 = .ok (.ireturn, 1) := by decide +kernel
theorem dX5_glass_66 : decode cX5_glass 66 = .ok (.aload_n 0, 1) := by decide +kernel
theorem dX5_glass_67 : decode cX5_glass 67 = .ok (.getfield 23, 3) := by decide +kernel
theorem dX5_glass_70 : decode cX5_glass 70 = .ok (.iload_n 1, 1) := by decide +kernel
theorem dX5_glass_71 : decode cX5_glass 71 = .ok (.invokevirtual 80, 3) := by decide +kernel
theorem dX5_glass_74 : decode cX5_glass 74 = .ok (.iconst 3, 1) := by decide +kernel
theorem dX5_glass_75 : decode cX5_glass 75 = .ok (.if_icmp .ge 18, 3) := by decide +kernel
theorem dX5_glass_78 : decode cX5_glass 78 = .ok (.aload_n 0, 1) := by decide +kernel
theorem dX5_glass_79 : decode cX5_glass 79 = .ok (.getfield 23, 3) := by decide +kernel
theorem dX5_glass_82 : decode cX5_glass 82 = .ok (.iload_n 1, 1) := by decide +kernel
theorem dX5_glass_83 : decode cX5_glass 83 = .ok (.aload_n 0, 1) := by decide +kernel
theorem dX5_glass_84 : decode cX5_glass 84 = .ok (.getfield 46, 3) := by decide +kernel
theorem dX5_glass_87 : decode cX5_glass 87 = .ok (.invokevirtual 83, 3) := by decide +kernel
theorem dX5_glass_90 : decode cX5_glass 90 = .ok (.ifCond .eq 6, 3) := by decide +kernel
theorem dX5_glass_93 : decode cX5_glass 93 = .ok (.bipush (-15), 2) := by decide +kernel
theorem dX5_glass_95 : decode cX5_glass 95 = .ok (.ireturn, 1) := by decide +kernel
theorem dX5_glass_96 : decode cX5_glass 96 = .ok (.aload_n 0, 1) := by decide +kernel
theorem dX5_glass_97 : decode cX5_glass 97 = .ok (.getfield 23, 3) := by decide +kernel
theorem dX5_glass_100 : decode cX5_glass 100 = .ok (.invokevirtual 86, 3) := by decide +kernel
theorem dX5_glass_103 : decode cX5_glass 103 = .ok (.ifCond .ne 13, 3) := by decide +kernel
theorem dX5_glass_106 : decode cX5_glass 106 = .ok (.aload_n 0, 1) := by decide +kernel
theorem dX5_glass_107 : decode cX5_glass 107 = .ok (.getfield 42, 3) := by decide +kernel
theorem dX5_glass_110 : decode cX5_glass 110 = .ok (.invokevirtual 90, 3) := by decide +kernel
theorem dX5_glass_113 : decode cX5_glass 113 = .ok (.ifCond .eq 6, 3) := by decide +kernel
theorem dX5_glass_116 : decode cX5_glass 116 = .ok (.bipush (-3), 2) := by decide +kernel
theorem dX5_glass_118 : decode cX5_glass 118 = .ok (.ireturn, 1) := by decide +kernel
theorem dX5_glass_119 : decode cX5_glass 119 = .ok (.aload_n 0, 1) := by decide +kernel
theorem dX5_glass_120 : decode cX5_glass 120 = .ok (.getfield 23, 3) := by decide +kernel
theorem dX5_glass_123 : decode cX5_glass 123 = .ok (.iload_n 1, 1) := by decide +kernel
theorem dX5_glass_124 : decode cX5_glass 124 = .ok (.iload_n 2, 1) := by decide +kernel
theorem dX5_glass_125 : decode cX5_glass 125 = .ok (.aload_n 0, 1) := by decide +kernel
theorem dX5_glass_126 : decode cX5_glass 126 = .ok (.getfield 46, 3) := by decide +kernel
theorem dX5_glass_129 : decode cX5_glass 129 = .ok (.iload_n 3, 1) := by decide +kernel
theorem dX5_glass_130 : decode cX5_glass 130 = .ok (.iadd, 1) := by decide +kernel
theorem dX5_glass_131 : decode cX5_glass 131 = .ok (.invokevirtual 91, 3) := by decide +kernel
theorem dX5_glass_134 : decode cX5_glass 134 = .ok (.istore 4, 2) := by decide +kernel
theorem dX5_glass_136 : decode cX5_glass 136 = .ok (.aload_n 0, 1) := by decide +kernel
theorem dX5_glass_137 : decode cX5_glass 137 = .ok (.getfield 42, 3) := by decide +kernel
theorem dX5_glass_140 : decode cX5_glass 140 = .ok (.iconst 3, 1) := by decide +kernel
theorem dX5_glass_141 : decode cX5_glass 141 = .ok (.iload_n 1, 1) := by decide +kernel
theorem dX5_glass_142 : decode cX5_glass 142 = .ok (.iload 4, 2) := by decide +kernel
theorem dX5_glass_144 : decode cX5_glass 144 = .ok (.iload_n 2, 1) := by decide +kernel
theorem dX5_glass_145 : decode cX5_glass 145 = .ok (.aload_n 0, 1) := by decide +kernel
theorem dX5_glass_146 : decode cX5_glass 146 = .ok (.getfield 46, 3) := by decide +kernel
theorem dX5_glass_149 : decode cX5_glass 149 = .ok (.invokevirtual 94, 3) := by decide +kernel
theorem dX5_glass_152 : decode cX5_glass 152 = .ok (.iload 4, 2) := by decide +kernel
theorem dX5_glass_154 : decode cX5_glass 154 = .ok (.ireturn, 1) := by decide +kernel
theorem dX5_takeOff_0 : decode cX5_takeOff 0 = .ok (.aload_n 0, 1) := by decide +kernel
theorem dX5_takeOff_1 : decode cX5_takeOff 1 = .ok (.getfield 23, 3) := by decide +kernel
theorem dX5_takeOff_4 : decode cX5_takeOff 4 = .ok (.iload_n 1, 1) := by decide +kernel
theorem dX5_takeOff_5 : decode cX5_takeOff 5 = .ok (.invokevirtual 98, 3) := by decide +kernel
theorem dX5_takeOff_8 : decode cX5_takeOff 8 = .ok (.ifCond .eq 22, 3) := by decide +kernel
theorem dX5_takeOff_11 : decode cX5_takeOff 11 = .ok (.iload_n 2, 1) := by decide +kernel
theorem dX5_takeOff_12 : decode cX5_takeOff 12 = .ok (.invokestatic 51, 3) := by decide +kernel
theorem dX5_takeOff_15 : decode cX5_takeOff 15 = .ok (.ifCond .eq 15, 3) := by decide +kernel
theorem dX5_takeOff_18 : decode cX5_takeOff 18 = .ok (.aload_n 0, 1) := by decide +kernel
theorem dX5_takeOff_19 : decode cX5_takeOff 19 = .ok (.getfield 23, 3) := by decide +kernel
theorem dX5_takeOff_22 : decode cX5_takeOff 22 = .ok (.getfield 101, 3) := by decide +kernel
theorem dX5_takeOff_25 : decode cX5_takeOff 25 = .ok (.iload_n 1, 1) := by decide +kernel
theorem dX5_takeOff_26 : decode cX5_takeOff 26 = .ok (.baload, 1) := by decide +kernel
theorem dX5_takeOff_27 : decode cX5_takeOff 27 = .ok (.ifCond .ne 6, 3) := by decide +kernel
theorem dX5_takeOff_30 : decode cX5_takeOff 30 = .ok (.bipush (-2), 2) := by decide +kernel
theorem dX5_takeOff_32 : decode cX5_takeOff 32 = .ok (.ireturn, 1) := by decide +kernel
theorem dX5_takeOff_33 : decode cX5_takeOff 33 = .ok (.aload_n 0, 1) := by decide +kernel
theorem dX5_takeOff_34 : decode cX5_takeOff 34 = .ok (.getfield 9, 3) := by decide +kernel
theorem dX5_takeOff_37 : decode cX5_takeOff 37 = .ok (.iload_n 2, 1) := by decide +kernel
theorem dX5_takeOff_38 : decode cX5_takeOff 38 = .ok (.iaload, 1) := by decide +kernel
theorem dX5_takeOff_39 : decode cX5_takeOff 39 = .ok (.bipush 7, 2) := by decide +kernel
theorem dX5_takeOff_41 : decode cX5_takeOff 41 = .ok (.invokestatic 105, 3) := by decide +kernel
theorem dX5_takeOff_44 : decode cX5_takeOff 44 = .ok (.ifCond .ne 6, 3) := by decide +kernel
theorem dX5_takeOff_47 : decode cX5_takeOff 47 = .ok (.bipush (-18), 2) := by decide +kernel
theorem dX5_takeOff_49 : decode cX5_takeOff 49 = .ok (.ireturn, 1) := by decide +kernel
theorem dX5_takeOff_50 : decode cX5_takeOff 50 = .ok (.aload_n 0, 1) := by decide +kernel
theorem dX5_takeOff_51 : decode cX5_takeOff 51 = .ok (.getfield 23, 3) := by decide +kernel
theorem dX5_takeOff_54 : decode cX5_takeOff 54 = .ok (.getfield 108, 3) := by decide +kernel
theorem dX5_takeOff_57 : decode cX5_takeOff 57 = .ok (.iload_n 1, 1) := by decide +kernel
theorem dX5_takeOff_58 : decode cX5_takeOff 58 = .ok (.iaload, 1) := by decide +kernel
theorem dX5_takeOff_59 : decode cX5_takeOff 59 = .ok (.iload_n 2, 1) := by decide +kernel
theorem dX5_takeOff_60 : decode cX5_takeOff 60 = .ok (.if_icmp .ne 6, 3) := by decide +kernel
theorem dX5_takeOff_63 : decode cX5_takeOff 63 = .ok (.bipush (-19), 2) := by decide +kernel
theorem dX5_takeOff_65 : decode cX5_takeOff 65 = .ok (.ireturn, 1) := by decide +kernel
theorem dX5_takeOff_66 : decode cX5_takeOff 66 = .ok (.aload_n 0, 1) := by decide +kernel
theorem dX5_takeOff_67 : decode cX5_takeOff 67 = .ok (.getfield 42, 3) := by decide +kernel
theorem dX5_takeOff_70 : decode cX5_takeOff 70 = .ok (.invokevirtual 90, 3) := by decide +kernel
theorem dX5_takeOff_73 : decode cX5_takeOff 73 = .ok (.ifCond .eq 6, 3) := by decide +kernel
theorem dX5_takeOff_76 : decode cX5_takeOff 76 = .ok (.bipush (-3), 2) := by decide +kernel
theorem dX5_takeOff_78 : decode cX5_takeOff 78 = .ok (.ireturn, 1) := by decide +kernel
theorem dX5_takeOff_79 : decode cX5_takeOff 79 = .ok (.aload_n 0, 1) := by decide +kernel
theorem dX5_takeOff_80 : decode cX5_takeOff 80 = .ok (.getfield 23, 3) := by decide +kernel
theorem dX5_takeOff_83 : decode cX5_takeOff 83 = .ok (.getfield 101, 3) := by decide +kernel
theorem dX5_takeOff_86 : decode cX5_takeOff 86 = .ok (.iload_n 1, 1) := by decide +kernel
theorem dX5_takeOff_87 : decode cX5_takeOff 87 = .ok (.iconst 0, 1) := by decide +kernel
theorem dX5_takeOff_88 : decode cX5_takeOff 88 = .ok (.bastore, 1) := by decide +kernel
theorem dX5_takeOff_89 : decode cX5_takeOff 89 = .ok (.aload_n 0, 1) := by decide +kernel
theorem dX5_takeOff_90 : decode cX5_takeOff 90 = .ok (.getfield 42, 3) := by decide +kernel
theorem dX5_takeOff_93 : decode cX5_takeOff 93 = .ok (.iconst 4, 1) := by decide +kernel
theorem dX5_takeOff_94 : decode cX5_takeOff 94 = .ok (.iload_n 2, 1) := by decide +kernel
theorem dX5_takeOff_95 : decode cX5_takeOff 95 = .ok (.iload_n 1, 1) := by decide +kernel
theorem dX5_takeOff_96 : decode cX5_takeOff 96 = .ok (.iconst 0, 1) := by decide +kernel
theorem dX5_takeOff_97 : decode cX5_takeOff 97 = .ok (.aload_n 0, 1) := by decide +kernel
theorem dX5_takeOff_98 : decode cX5_takeOff 98 = .ok (.getfield 46, 3) := by decide +kernel
theorem dX5_takeOff_101 : decode cX5_takeOff 101 = .ok (.invokevirtual 94, 3) := by decide +kernel
theorem dX5_takeOff_104 : decode cX5_takeOff 104 = .ok (.iconst 0, 1) := by decide +kernel
theorem dX5_takeOff_105 : decode cX5_takeOff 105 = .ok (.aload_n 0, 1) := by decide +kernel
theorem dX5_takeOff_106 : decode cX5_takeOff 106 = .ok (.getfield 23, 3) := by decide +kernel
theorem dX5_takeOff_109 : decode cX5_takeOff 109 = .ok (.iload_n 1, 1) := by decide +kernel
theorem dX5_takeOff_110 : decode cX5_takeOff 110 = .ok (.invokevirtual 111, 3) := by decide +kernel
theorem dX5_takeOff_113 : decode cX5_takeOff 113 = .ok (.aload_n 0, 1) := by decide +kernel
theorem dX5_takeOff_114 : decode cX5_takeOff 114 = .ok (.getfield 46, 3) := by decide +kernel
theorem dX5_takeOff_117 : decode cX5_takeOff 117 = .ok (.isub, 1) := by decide +kernel
theorem dX5_takeOff_118 : decode cX5_takeOff 118 = .ok (.invokestatic 114, 3) := by decide +kernel
theorem dX5_takeOff_121 : decode cX5_takeOff 121 = .ok (.ireturn, 1) := by decide +kernel
theorem dX5_kind_0 : decode cX5_kind 0 = .ok (.aload_n 0, 1) := by decide +kernel
theorem dX5_kind_1 : decode cX5_kind 1 = .ok (.getfield 120, 3) := by decide +kernel
theorem dX5_kind_4 : decode cX5_kind 4 = .ok (.iconst 4, 1) := by decide +kernel
theorem dX5_kind_5 : decode cX5_kind 5 = .ok (.if_icmp .lt 6, 3) := by decide +kernel
theorem dX5_kind_8 : decode cX5_kind 8 = .ok (.bipush (-3), 2) := by decide +kernel
theorem dX5_kind_10 : decode cX5_kind 10 = .ok (.ireturn, 1) := by decide +kernel
theorem dX5_kind_11 : decode cX5_kind 11 = .ok (.aload_n 0, 1) := by decide +kernel
theorem dX5_kind_12 : decode cX5_kind 12 = .ok (.getfield 29, 3) := by decide +kernel
theorem dX5_kind_15 : decode cX5_kind 15 = .ok (.aload_n 0, 1) := by decide +kernel
theorem dX5_kind_16 : decode cX5_kind 16 = .ok (.getfield 120, 3) := by decide +kernel
theorem dX5_kind_19 : decode cX5_kind 19 = .ok (.new 27, 3) := by decide +kernel
theorem dX5_kind_22 : decode cX5_kind 22 = .ok (.dup, 1) := by decide +kernel
theorem dX5_kind_23 : decode cX5_kind 23 = .ok (.invokespecial 123, 3) := by decide +kernel
theorem dX5_kind_26 : decode cX5_kind 26 = .ok (.aastore, 1) := by decide +kernel
theorem dX5_kind_27 : decode cX5_kind 27 = .ok (.aload_n 0, 1) := by decide +kernel
theorem dX5_kind_28 : decode cX5_kind 28 = .ok (.dup, 1) := by decide +kernel
theorem dX5_kind_29 : decode cX5_kind 29 = .ok (.getfield 120, 3) := by decide +kernel
theorem dX5_kind_32 : decode cX5_kind 32 = .ok (.iconst 1, 1) := by decide +kernel
theorem dX5_kind_33 : decode cX5_kind 33 = .ok (.iadd, 1) := by decide +kernel
theorem dX5_kind_34 : decode cX5_kind 34 = .ok (.putfield 120, 3) := by decide +kernel
theorem dX5_kind_37 : decode cX5_kind 37 = .ok (.aload_n 0, 1) := by decide +kernel
theorem dX5_kind_38 : decode cX5_kind 38 = .ok (.getfield 120, 3) := by decide +kernel
theorem dX5_kind_41 : decode cX5_kind 41 = .ok (.iconst 1, 1) := by decide +kernel
theorem dX5_kind_42 : decode cX5_kind 42 = .ok (.isub, 1) := by decide +kernel
theorem dX5_kind_43 : decode cX5_kind 43 = .ok (.ireturn, 1) := by decide +kernel
theorem dX5_task_0 : decode cX5_task 0 = .ok (.aload_n 0, 1) := by decide +kernel
theorem dX5_task_1 : decode cX5_task 1 = .ok (.iload_n 1, 1) := by decide +kernel
theorem dX5_task_2 : decode cX5_task 2 = .ok (.invokevirtual 124, 3) := by decide +kernel
theorem dX5_task_5 : decode cX5_task 5 = .ok (.astore 4, 2) := by decide +kernel
theorem dX5_task_7 : decode cX5_task 7 = .ok (.aload 4, 2) := by decide +kernel
theorem dX5_task_9 : decode cX5_task 9 = .ok (.ifnull 24, 3) := by decide +kernel
theorem dX5_task_12 : decode cX5_task 12 = .ok (.iload_n 2, 1) := by decide +kernel
theorem dX5_task_13 : decode cX5_task 13 = .ok (.bipush 8, 2) := by decide +kernel
theorem dX5_task_15 : decode cX5_task 15 = .ok (.invokestatic 55, 3) := by decide +kernel
theorem dX5_task_18 : decode cX5_task 18 = .ok (.ifCond .eq 15, 3) := by decide +kernel
theorem dX5_task_21 : decode cX5_task 21 = .ok (.iload_n 3, 1) := by decide +kernel
theorem dX5_task_22 : decode cX5_task 22 = .ok (.aload 4, 2) := by decide +kernel
theorem dX5_task_24 : decode cX5_task 24 = .ok (.invokevirtual 128, 3) := by decide +kernel
theorem dX5_task_27 : decode cX5_task 27 = .ok (.iconst (-1), 1) := by decide +kernel
theorem dX5_task_28 : decode cX5_task 28 = .ok (.ixor, 1) := by decide +kernel
theorem dX5_task_29 : decode cX5_task 29 = .ok (.iand, 1) := by decide +kernel
theorem dX5_task_30 : decode cX5_task 30 = .ok (.ifCond .eq 6, 3) := by decide +kernel
theorem dX5_task_33 : decode cX5_task 33 = .ok (.bipush (-2), 2) := by decide +kernel
theorem dX5_task_35 : decode cX5_task 35 = .ok (.ireturn, 1) := by decide +kernel
theorem dX5_task_36 : decode cX5_task 36 = .ok (.aload 4, 2) := by decide +kernel
theorem dX5_task_38 : decode cX5_task 38 = .ok (.iload_n 2, 1) := by decide +kernel
theorem dX5_task_39 : decode cX5_task 39 = .ok (.iload_n 3, 1) := by decide +kernel
theorem dX5_task_40 : decode cX5_task 40 = .ok (.invokevirtual 132, 3) := by decide +kernel
theorem dX5_task_43 : decode cX5_task 43 = .ok (.ireturn, 1) := by decide +kernel
theorem dX5_apart_0 : decode cX5_apart 0 = .ok (.aload_n 0, 1) := by decide +kernel
theorem dX5_apart_1 : decode cX5_apart 1 = .ok (.iload_n 1, 1) := by decide +kernel
theorem dX5_apart_2 : decode cX5_apart 2 = .ok (.invokevirtual 124, 3) := by decide +kernel
theorem dX5_apart_5 : decode cX5_apart 5 = .ok (.astore 4, 2) := by decide +kernel
theorem dX5_apart_7 : decode cX5_apart 7 = .ok (.aload 4, 2) := by decide +kernel
theorem dX5_apart_9 : decode cX5_apart 9 = .ok (.ifnull 13, 3) := by decide +kernel
theorem dX5_apart_12 : decode cX5_apart 12 = .ok (.aload 4, 2) := by decide +kernel
theorem dX5_apart_14 : decode cX5_apart 14 = .ok (.iload_n 2, 1) := by decide +kernel
theorem dX5_apart_15 : decode cX5_apart 15 = .ok (.iload_n 3, 1) := by decide +kernel
theorem dX5_apart_16 : decode cX5_apart 16 = .ok (.invokevirtual 135, 3) := by decide +kernel
theorem dX5_apart_19 : decode cX5_apart 19 = .ok (.ifCond .ne 6, 3) := by decide +kernel
theorem dX5_apart_22 : decode cX5_apart 22 = .ok (.bipush (-2), 2) := by decide +kernel
theorem dX5_apart_24 : decode cX5_apart 24 = .ok (.ireturn, 1) := by decide +kernel
theorem dX5_apart_25 : decode cX5_apart 25 = .ok (.aload 4, 2) := by decide +kernel
theorem dX5_apart_27 : decode cX5_apart 27 = .ok (.getfield 138, 3) := by decide +kernel
theorem dX5_apart_30 : decode cX5_apart 30 = .ok (.iload_n 2, 1) := by decide +kernel
theorem dX5_apart_31 : decode cX5_apart 31 = .ok (.iload_n 3, 1) := by decide +kernel
theorem dX5_apart_32 : decode cX5_apart 32 = .ok (.invokestatic 141, 3) := by decide +kernel
theorem dX5_apart_35 : decode cX5_apart 35 = .ok (.ireturn, 1) := by decide +kernel
theorem dX5_bound_0 : decode cX5_bound 0 = .ok (.aload_n 0, 1) := by decide +kernel
theorem dX5_bound_1 : decode cX5_bound 1 = .ok (.iload_n 1, 1) := by decide +kernel
theorem dX5_bound_2 : decode cX5_bound 2 = .ok (.invokevirtual 124, 3) := by decide +kernel
theorem dX5_bound_5 : decode cX5_bound 5 = .ok (.astore 4, 2) := by decide +kernel
theorem dX5_bound_7 : decode cX5_bound 7 = .ok (.aload 4, 2) := by decide +kernel
theorem dX5_bound_9 : decode cX5_bound 9 = .ok (.ifnull 13, 3) := by decide +kernel
theorem dX5_bound_12 : decode cX5_bound 12 = .ok (.aload 4, 2) := by decide +kernel
theorem dX5_bound_14 : decode cX5_bound 14 = .ok (.iload_n 2, 1) := by decide +kernel
theorem dX5_bound_15 : decode cX5_bound 15 = .ok (.iload_n 3, 1) := by decide +kernel
theorem dX5_bound_16 : decode cX5_bound 16 = .ok (.invokevirtual 135, 3) := by decide +kernel
theorem dX5_bound_19 : decode cX5_bound 19 = .ok (.ifCond .ne 6, 3) := by decide +kernel
theorem dX5_bound_22 : decode cX5_bound 22 = .ok (.bipush (-2), 2) := by decide +kernel
theorem dX5_bound_24 : decode cX5_bound 24 = .ok (.ireturn, 1) := by decide +kernel
theorem dX5_bound_25 : decode cX5_bound 25 = .ok (.aload 4, 2) := by decide +kernel
theorem dX5_bound_27 : decode cX5_bound 27 = .ok (.getfield 145, 3) := by decide +kernel
theorem dX5_bound_30 : decode cX5_bound 30 = .ok (.iload_n 2, 1) := by decide +kernel
theorem dX5_bound_31 : decode cX5_bound 31 = .ok (.iload_n 3, 1) := by decide +kernel
theorem dX5_bound_32 : decode cX5_bound 32 = .ok (.invokestatic 141, 3) := by decide +kernel
theorem dX5_bound_35 : decode cX5_bound 35 = .ok (.ireturn, 1) := by decide +kernel
theorem dX5_most_0 : decode cX5_most 0 = .ok (.aload_n 0, 1) := by decide +kernel
theorem dX5_most_1 : decode cX5_most 1 = .ok (.iload_n 1, 1) := by decide +kernel
theorem dX5_most_2 : decode cX5_most 2 = .ok (.invokevirtual 124, 3) := by decide +kernel
theorem dX5_most_5 : decode cX5_most 5 = .ok (.astore_n 3, 1) := by decide +kernel
theorem dX5_most_6 : decode cX5_most 6 = .ok (.aload_n 3, 1) := by decide +kernel
theorem dX5_most_7 : decode cX5_most 7 = .ok (.ifnull 14, 3) := by decide +kernel
theorem dX5_most_10 : decode cX5_most 10 = .ok (.iload_n 2, 1) := by decide +kernel
theorem dX5_most_11 : decode cX5_most 11 = .ok (.iconst 1, 1) := by decide +kernel
theorem dX5_most_12 : decode cX5_most 12 = .ok (.if_icmp .lt 9, 3) := by decide +kernel
theorem dX5_most_15 : decode cX5_most 15 = .ok (.iload_n 2, 1) := by decide +kernel
theorem dX5_most_16 : decode cX5_most 16 = .ok (.bipush 6, 2) := by decide +kernel
theorem dX5_most_18 : decode cX5_most 18 = .ok (.if_icmp .le 6, 3) := by decide +kernel
theorem dX5_most_21 : decode cX5_most 21 = .ok (.bipush (-2), 2) := by decide +kernel
theorem dX5_most_23 : decode cX5_most 23 = .ok (.ireturn, 1) := by decide +kernel
theorem dX5_most_24 : decode cX5_most 24 = .ok (.aload_n 3, 1) := by decide +kernel
theorem dX5_most_25 : decode cX5_most 25 = .ok (.getfield 148, 3) := by decide +kernel
theorem dX5_most_28 : decode cX5_most 28 = .ok (.istore 4, 2) := by decide +kernel
theorem dX5_most_30 : decode cX5_most 30 = .ok (.aload_n 3, 1) := by decide +kernel
theorem dX5_most_31 : decode cX5_most 31 = .ok (.iload_n 2, 1) := by decide +kernel
theorem dX5_most_32 : decode cX5_most 32 = .ok (.putfield 148, 3) := by decide +kernel
theorem dX5_most_35 : decode cX5_most 35 = .ok (.iload 4, 2) := by decide +kernel
theorem dX5_most_37 : decode cX5_most 37 = .ok (.ireturn, 1) := by decide +kernel
theorem dX5_open_0 : decode cX5_open 0 = .ok (.aload_n 0, 1) := by decide +kernel
theorem dX5_open_1 : decode cX5_open 1 = .ok (.iload_n 1, 1) := by decide +kernel
theorem dX5_open_2 : decode cX5_open 2 = .ok (.invokevirtual 151, 3) := by decide +kernel
theorem dX5_open_5 : decode cX5_open 5 = .ok (.astore_n 2, 1) := by decide +kernel
theorem dX5_open_6 : decode cX5_open 6 = .ok (.aload_n 2, 1) := by decide +kernel
theorem dX5_open_7 : decode cX5_open 7 = .ok (.ifnull 10, 3) := by decide +kernel
theorem dX5_open_10 : decode cX5_open 10 = .ok (.aload_n 2, 1) := by decide +kernel
theorem dX5_open_11 : decode cX5_open 11 = .ok (.getfield 154, 3) := by decide +kernel
theorem dX5_open_14 : decode cX5_open 14 = .ok (.ifCond .ne 6, 3) := by decide +kernel
theorem dX5_open_17 : decode cX5_open 17 = .ok (.bipush (-2), 2) := by decide +kernel
theorem dX5_open_19 : decode cX5_open 19 = .ok (.ireturn, 1) := by decide +kernel
theorem dX5_open_20 : decode cX5_open 20 = .ok (.aload_n 0, 1) := by decide +kernel
theorem dX5_open_21 : decode cX5_open 21 = .ok (.getfield 157, 3) := by decide +kernel
theorem dX5_open_24 : decode cX5_open 24 = .ok (.bipush 16, 2) := by decide +kernel
theorem dX5_open_26 : decode cX5_open 26 = .ok (.if_icmp .lt 6, 3) := by decide +kernel
theorem dX5_open_29 : decode cX5_open 29 = .ok (.bipush (-3), 2) := by decide +kernel
theorem dX5_open_31 : decode cX5_open 31 = .ok (.ireturn, 1) := by decide +kernel
theorem dX5_open_32 : decode cX5_open 32 = .ok (.aload_n 2, 1) := by decide +kernel
theorem dX5_open_33 : decode cX5_open 33 = .ok (.iconst 1, 1) := by decide +kernel
theorem dX5_open_34 : decode cX5_open 34 = .ok (.putfield 160, 3) := by decide +kernel
theorem dX5_open_37 : decode cX5_open 37 = .ok (.aload_n 0, 1) := by decide +kernel
theorem dX5_open_38 : decode cX5_open 38 = .ok (.getfield 35, 3) := by decide +kernel
theorem dX5_open_41 : decode cX5_open 41 = .ok (.aload_n 0, 1) := by decide +kernel
theorem dX5_open_42 : decode cX5_open 42 = .ok (.getfield 157, 3) := by decide +kernel
theorem dX5_open_45 : decode cX5_open 45 = .ok (.new 33, 3) := by decide +kernel
theorem dX5_open_48 : decode cX5_open 48 = .ok (.dup, 1) := by decide +kernel
theorem dX5_open_49 : decode cX5_open 49 = .ok (.aload_n 2, 1) := by decide +kernel
theorem dX5_open_50 : decode cX5_open 50 = .ok (.invokespecial 164, 3) := by decide +kernel
theorem dX5_open_53 : decode cX5_open 53 = .ok (.aastore, 1) := by decide +kernel
theorem dX5_open_54 : decode cX5_open 54 = .ok (.aload_n 0, 1) := by decide +kernel
theorem dX5_open_55 : decode cX5_open 55 = .ok (.dup, 1) := by decide +kernel
theorem dX5_open_56 : decode cX5_open 56 = .ok (.getfield 157, 3) := by decide +kernel
theorem dX5_open_59 : decode cX5_open 59 = .ok (.iconst 1, 1) := by decide +kernel
theorem dX5_open_60 : decode cX5_open 60 = .ok (.iadd, 1) := by decide +kernel
theorem dX5_open_61 : decode cX5_open 61 = .ok (.putfield 157, 3) := by decide +kernel
theorem dX5_open_64 : decode cX5_open 64 = .ok (.aload_n 0, 1) := by decide +kernel
theorem dX5_open_65 : decode cX5_open 65 = .ok (.getfield 157, 3) := by decide +kernel
theorem dX5_open_68 : decode cX5_open 68 = .ok (.iconst 1, 1) := by decide +kernel
theorem dX5_open_69 : decode cX5_open 69 = .ok (.isub, 1) := by decide +kernel
theorem dX5_open_70 : decode cX5_open 70 = .ok (.ireturn, 1) := by decide +kernel
theorem dX5_perform_0 : decode cX5_perform 0 = .ok (.aload_n 0, 1) := by decide +kernel
theorem dX5_perform_1 : decode cX5_perform 1 = .ok (.iload_n 2, 1) := by decide +kernel
theorem dX5_perform_2 : decode cX5_perform 2 = .ok (.invokevirtual 167, 3) := by decide +kernel
theorem dX5_perform_5 : decode cX5_perform 5 = .ok (.astore 4, 2) := by decide +kernel
theorem dX5_perform_7 : decode cX5_perform 7 = .ok (.aload 4, 2) := by decide +kernel
theorem dX5_perform_9 : decode cX5_perform 9 = .ok (.ifnull 22, 3) := by decide +kernel
theorem dX5_perform_12 : decode cX5_perform 12 = .ok (.aload 4, 2) := by decide +kernel
theorem dX5_perform_14 : decode cX5_perform 14 = .ok (.getfield 171, 3) := by decide +kernel
theorem dX5_perform_17 : decode cX5_perform 17 = .ok (.iload_n 1, 1) := by decide +kernel
theorem dX5_perform_18 : decode cX5_perform 18 = .ok (.invokevirtual 175, 3) := by decide +kernel
theorem dX5_perform_21 : decode cX5_perform 21 = .ok (.ifCond .eq 10, 3) := by decide +kernel
theorem dX5_perform_24 : decode cX5_perform 24 = .ok (.iload_n 3, 1) := by decide +kernel
theorem dX5_perform_25 : decode cX5_perform 25 = .ok (.invokestatic 51, 3) := by decide +kernel
theorem dX5_perform_28 : decode cX5_perform 28 = .ok (.ifCond .ne 6, 3) := by decide +kernel
theorem dX5_perform_31 : decode cX5_perform 31 = .ok (.bipush (-2), 2) := by decide +kernel
theorem dX5_perform_33 : decode cX5_perform 33 = .ok (.ireturn, 1) := by decide +kernel
theorem dX5_perform_34 : decode cX5_perform 34 = .ok (.aload 4, 2) := by decide +kernel
theorem dX5_perform_36 : decode cX5_perform 36 = .ok (.iload_n 1, 1) := by decide +kernel
theorem dX5_perform_37 : decode cX5_perform 37 = .ok (.iload_n 3, 1) := by decide +kernel
theorem dX5_perform_38 : decode cX5_perform 38 = .ok (.aload_n 0, 1) := by decide +kernel
theorem dX5_perform_39 : decode cX5_perform 39 = .ok (.getfield 9, 3) := by decide +kernel
theorem dX5_perform_42 : decode cX5_perform 42 = .ok (.invokevirtual 178, 3) := by decide +kernel
theorem dX5_perform_45 : decode cX5_perform 45 = .ok (.istore 5, 2) := by decide +kernel
theorem dX5_perform_47 : decode cX5_perform 47 = .ok (.iload 5, 2) := by decide +kernel
theorem dX5_perform_49 : decode cX5_perform 49 = .ok (.ifCond .eq 6, 3) := by decide +kernel
theorem dX5_perform_52 : decode cX5_perform 52 = .ok (.iload 5, 2) := by decide +kernel
theorem dX5_perform_54 : decode cX5_perform 54 = .ok (.ireturn, 1) := by decide +kernel
theorem dX5_perform_55 : decode cX5_perform 55 = .ok (.aload_n 0, 1) := by decide +kernel
theorem dX5_perform_56 : decode cX5_perform 56 = .ok (.getfield 42, 3) := by decide +kernel
theorem dX5_perform_59 : decode cX5_perform 59 = .ok (.invokevirtual 90, 3) := by decide +kernel
theorem dX5_perform_62 : decode cX5_perform 62 = .ok (.ifCond .eq 6, 3) := by decide +kernel
theorem dX5_perform_65 : decode cX5_perform 65 = .ok (.bipush (-3), 2) := by decide +kernel
theorem dX5_perform_67 : decode cX5_perform 67 = .ok (.ireturn, 1) := by decide +kernel
theorem dX5_perform_68 : decode cX5_perform 68 = .ok (.aload 4, 2) := by decide +kernel
theorem dX5_perform_70 : decode cX5_perform 70 = .ok (.getfield 182, 3) := by decide +kernel
theorem dX5_perform_73 : decode cX5_perform 73 = .ok (.iload_n 1, 1) := by decide +kernel
theorem dX5_perform_74 : decode cX5_perform 74 = .ok (.iload_n 3, 1) := by decide +kernel
theorem dX5_perform_75 : decode cX5_perform 75 = .ok (.iastore, 1) := by decide +kernel
theorem dX5_perform_76 : decode cX5_perform 76 = .ok (.aload_n 0, 1) := by decide +kernel
theorem dX5_perform_77 : decode cX5_perform 77 = .ok (.getfield 42, 3) := by decide +kernel
theorem dX5_perform_80 : decode cX5_perform 80 = .ok (.iconst 5, 1) := by decide +kernel
theorem dX5_perform_81 : decode cX5_perform 81 = .ok (.iload_n 3, 1) := by decide +kernel
theorem dX5_perform_82 : decode cX5_perform 82 = .ok (.bipush 8, 2) := by decide +kernel
theorem dX5_perform_84 : decode cX5_perform 84 = .ok (.iload_n 2, 1) := by decide +kernel
theorem dX5_perform_85 : decode cX5_perform 85 = .ok (.imul, 1) := by decide +kernel
theorem dX5_perform_86 : decode cX5_perform 86 = .ok (.iload_n 1, 1) := by decide +kernel
theorem dX5_perform_87 : decode cX5_perform 87 = .ok (.iadd, 1) := by decide +kernel
theorem dX5_perform_88 : decode cX5_perform 88 = .ok (.iconst 0, 1) := by decide +kernel
theorem dX5_perform_89 : decode cX5_perform 89 = .ok (.aload_n 0, 1) := by decide +kernel
theorem dX5_perform_90 : decode cX5_perform 90 = .ok (.getfield 46, 3) := by decide +kernel
theorem dX5_perform_93 : decode cX5_perform 93 = .ok (.invokevirtual 94, 3) := by decide +kernel
theorem dX5_perform_96 : decode cX5_perform 96 = .ok (.aload 4, 2) := by decide +kernel
theorem dX5_perform_98 : decode cX5_perform 98 = .ok (.invokevirtual 185, 3) := by decide +kernel
theorem dX5_perform_101 : decode cX5_perform 101 = .ok (.invokestatic 188, 3) := by decide +kernel
theorem dX5_perform_104 : decode cX5_perform 104 = .ok (.ireturn, 1) := by decide +kernel
theorem dX5_canEnd_0 : decode cX5_canEnd 0 = .ok (.aload_n 0, 1) := by decide +kernel
theorem dX5_canEnd_1 : decode cX5_canEnd 1 = .ok (.iload_n 1, 1) := by decide +kernel
theorem dX5_canEnd_2 : decode cX5_canEnd 2 = .ok (.invokevirtual 167, 3) := by decide +kernel
theorem dX5_canEnd_5 : decode cX5_canEnd 5 = .ok (.astore_n 2, 1) := by decide +kernel
theorem dX5_canEnd_6 : decode cX5_canEnd 6 = .ok (.aload_n 2, 1) := by decide +kernel
theorem dX5_canEnd_7 : decode cX5_canEnd 7 = .ok (.ifnonnull 6, 3) := by decide +kernel
theorem dX5_canEnd_10 : decode cX5_canEnd 10 = .ok (.bipush (-2), 2) := by decide +kernel
theorem dX5_canEnd_12 : decode cX5_canEnd 12 = .ok (.ireturn, 1) := by decide +kernel
theorem dX5_canEnd_13 : decode cX5_canEnd 13 = .ok (.aload_n 2, 1) := by decide +kernel
theorem dX5_canEnd_14 : decode cX5_canEnd 14 = .ok (.aload_n 0, 1) := by decide +kernel
theorem dX5_canEnd_15 : decode cX5_canEnd 15 = .ok (.getfield 9, 3) := by decide +kernel
theorem dX5_canEnd_18 : decode cX5_canEnd 18 = .ok (.invokevirtual 193, 3) := by decide +kernel
theorem dX5_canEnd_21 : decode cX5_canEnd 21 = .ok (.invokestatic 197, 3) := by decide +kernel
theorem dX5_canEnd_24 : decode cX5_canEnd 24 = .ok (.ireturn, 1) := by decide +kernel
theorem dX5_doer_0 : decode cX5_doer 0 = .ok (.aload_n 0, 1) := by decide +kernel
theorem dX5_doer_1 : decode cX5_doer 1 = .ok (.iload_n 2, 1) := by decide +kernel
theorem dX5_doer_2 : decode cX5_doer 2 = .ok (.invokevirtual 167, 3) := by decide +kernel
theorem dX5_doer_5 : decode cX5_doer 5 = .ok (.astore_n 3, 1) := by decide +kernel
theorem dX5_doer_6 : decode cX5_doer 6 = .ok (.aload_n 3, 1) := by decide +kernel
theorem dX5_doer_7 : decode cX5_doer 7 = .ok (.ifnull 14, 3) := by decide +kernel
theorem dX5_doer_10 : decode cX5_doer 10 = .ok (.aload_n 3, 1) := by decide +kernel
theorem dX5_doer_11 : decode cX5_doer 11 = .ok (.getfield 171, 3) := by decide +kernel
theorem dX5_doer_14 : decode cX5_doer 14 = .ok (.iload_n 1, 1) := by decide +kernel
theorem dX5_doer_15 : decode cX5_doer 15 = .ok (.invokevirtual 175, 3) := by decide +kernel
theorem dX5_doer_18 : decode cX5_doer 18 = .ok (.ifCond .ne 6, 3) := by decide +kernel
theorem dX5_doer_21 : decode cX5_doer 21 = .ok (.bipush (-2), 2) := by decide +kernel
theorem dX5_doer_23 : decode cX5_doer 23 = .ok (.ireturn, 1) := by decide +kernel
theorem dX5_doer_24 : decode cX5_doer 24 = .ok (.aload_n 3, 1) := by decide +kernel
theorem dX5_doer_25 : decode cX5_doer 25 = .ok (.getfield 182, 3) := by decide +kernel
theorem dX5_doer_28 : decode cX5_doer 28 = .ok (.iload_n 1, 1) := by decide +kernel
theorem dX5_doer_29 : decode cX5_doer 29 = .ok (.iaload, 1) := by decide +kernel
theorem dX5_doer_30 : decode cX5_doer 30 = .ok (.ireturn, 1) := by decide +kernel
theorem dX5_told_0 : decode cX5_told 0 = .ok (.iload_n 1, 1) := by decide +kernel
theorem dX5_told_1 : decode cX5_told 1 = .ok (.invokestatic 51, 3) := by decide +kernel
theorem dX5_told_4 : decode cX5_told 4 = .ok (.ifCond .ne 6, 3) := by decide +kernel
theorem dX5_told_7 : decode cX5_told 7 = .ok (.bipush (-2), 2) := by decide +kernel
theorem dX5_told_9 : decode cX5_told 9 = .ok (.ireturn, 1) := by decide +kernel
theorem dX5_told_10 : decode cX5_told 10 = .ok (.iload_n 2, 1) := by decide +kernel
theorem dX5_told_11 : decode cX5_told 11 = .ok (.tableswitch 65 0 3 #[29, 36, 46, 56], 29) := by decide +kernel
theorem dX5_told_40 : decode cX5_told 40 = .ok (.aload_n 0, 1) := by decide +kernel
theorem dX5_told_41 : decode cX5_told 41 = .ok (.getfield 9, 3) := by decide +kernel
theorem dX5_told_44 : decode cX5_told 44 = .ok (.iload_n 1, 1) := by decide +kernel
theorem dX5_told_45 : decode cX5_told 45 = .ok (.iaload, 1) := by decide +kernel
theorem dX5_told_46 : decode cX5_told 46 = .ok (.ireturn, 1) := by decide +kernel
theorem dX5_told_47 : decode cX5_told 47 = .ok (.aload_n 0, 1) := by decide +kernel
theorem dX5_told_48 : decode cX5_told 48 = .ok (.getfield 16, 3) := by decide +kernel
theorem dX5_told_51 : decode cX5_told 51 = .ok (.getfield 201, 3) := by decide +kernel
theorem dX5_told_54 : decode cX5_told 54 = .ok (.iload_n 1, 1) := by decide +kernel
theorem dX5_told_55 : decode cX5_told 55 = .ok (.iaload, 1) := by decide +kernel
theorem dX5_told_56 : decode cX5_told 56 = .ok (.ireturn, 1) := by decide +kernel
theorem dX5_told_57 : decode cX5_told 57 = .ok (.aload_n 0, 1) := by decide +kernel
theorem dX5_told_58 : decode cX5_told 58 = .ok (.getfield 16, 3) := by decide +kernel
theorem dX5_told_61 : decode cX5_told 61 = .ok (.getfield 204, 3) := by decide +kernel
theorem dX5_told_64 : decode cX5_told 64 = .ok (.iload_n 1, 1) := by decide +kernel
theorem dX5_told_65 : decode cX5_told 65 = .ok (.iaload, 1) := by decide +kernel
theorem dX5_told_66 : decode cX5_told 66 = .ok (.ireturn, 1) := by decide +kernel
theorem dX5_told_67 : decode cX5_told 67 = .ok (.aload_n 0, 1) := by decide +kernel
theorem dX5_told_68 : decode cX5_told 68 = .ok (.getfield 23, 3) := by decide +kernel
theorem dX5_told_71 : decode cX5_told 71 = .ok (.iload_n 1, 1) := by decide +kernel
theorem dX5_told_72 : decode cX5_told 72 = .ok (.invokevirtual 80, 3) := by decide +kernel
theorem dX5_told_75 : decode cX5_told 75 = .ok (.ireturn, 1) := by decide +kernel
theorem dX5_told_76 : decode cX5_told 76 = .ok (.bipush (-2), 2) := by decide +kernel
theorem dX5_told_78 : decode cX5_told 78 = .ok (.ireturn, 1) := by decide +kernel
theorem dX5_glassTold_0 : decode cX5_glassTold 0 = .ok (.aload_n 0, 1) := by decide +kernel
theorem dX5_glassTold_1 : decode cX5_glassTold 1 = .ok (.getfield 23, 3) := by decide +kernel
theorem dX5_glassTold_4 : decode cX5_glassTold 4 = .ok (.iload_n 1, 1) := by decide +kernel
theorem dX5_glassTold_5 : decode cX5_glassTold 5 = .ok (.invokevirtual 98, 3) := by decide +kernel
theorem dX5_glassTold_8 : decode cX5_glassTold 8 = .ok (.ifCond .ne 6, 3) := by decide +kernel
theorem dX5_glassTold_11 : decode cX5_glassTold 11 = .ok (.bipush (-2), 2) := by decide +kernel
theorem dX5_glassTold_13 : decode cX5_glassTold 13 = .ok (.ireturn, 1) := by decide +kernel
theorem dX5_glassTold_14 : decode cX5_glassTold 14 = .ok (.iload_n 2, 1) := by decide +kernel
theorem dX5_glassTold_15 : decode cX5_glassTold 15 = .ok (.tableswitch 92 0 4 #[33, 43, 53, 63, 79], 33) := by decide +kernel
theorem dX5_glassTold_48 : decode cX5_glassTold 48 = .ok (.aload_n 0, 1) := by decide +kernel
theorem dX5_glassTold_49 : decode cX5_glassTold 49 = .ok (.getfield 23, 3) := by decide +kernel
theorem dX5_glassTold_52 : decode cX5_glassTold 52 = .ok (.getfield 108, 3) := by decide +kernel
theorem dX5_glassTold_55 : decode cX5_glassTold 55 = .ok (.iload_n 1, 1) := by decide +kernel
theorem dX5_glassTold_56 : decode cX5_glassTold 56 = .ok (.iaload, 1) := by decide +kernel
theorem dX5_glassTold_57 : decode cX5_glassTold 57 = .ok (.ireturn, 1) := by decide +kernel
theorem dX5_glassTold_58 : decode cX5_glassTold 58 = .ok (.aload_n 0, 1) := by decide +kernel
theorem dX5_glassTold_59 : decode cX5_glassTold 59 = .ok (.getfield 23, 3) := by decide +kernel
theorem dX5_glassTold_62 : decode cX5_glassTold 62 = .ok (.getfield 207, 3) := by decide +kernel
theorem dX5_glassTold_65 : decode cX5_glassTold 65 = .ok (.iload_n 1, 1) := by decide +kernel
theorem dX5_glassTold_66 : decode cX5_glassTold 66 = .ok (.iaload, 1) := by decide +kernel
theorem dX5_glassTold_67 : decode cX5_glassTold 67 = .ok (.ireturn, 1) := by decide +kernel
theorem dX5_glassTold_68 : decode cX5_glassTold 68 = .ok (.aload_n 0, 1) := by decide +kernel
theorem dX5_glassTold_69 : decode cX5_glassTold 69 = .ok (.getfield 23, 3) := by decide +kernel
theorem dX5_glassTold_72 : decode cX5_glassTold 72 = .ok (.getfield 210, 3) := by decide +kernel
theorem dX5_glassTold_75 : decode cX5_glassTold 75 = .ok (.iload_n 1, 1) := by decide +kernel
theorem dX5_glassTold_76 : decode cX5_glassTold 76 = .ok (.iaload, 1) := by decide +kernel
theorem dX5_glassTold_77 : decode cX5_glassTold 77 = .ok (.ireturn, 1) := by decide +kernel
theorem dX5_glassTold_78 : decode cX5_glassTold 78 = .ok (.aload_n 0, 1) := by decide +kernel
theorem dX5_glassTold_79 : decode cX5_glassTold 79 = .ok (.getfield 23, 3) := by decide +kernel
theorem dX5_glassTold_82 : decode cX5_glassTold 82 = .ok (.iload_n 1, 1) := by decide +kernel
theorem dX5_glassTold_83 : decode cX5_glassTold 83 = .ok (.aload_n 0, 1) := by decide +kernel
theorem dX5_glassTold_84 : decode cX5_glassTold 84 = .ok (.getfield 46, 3) := by decide +kernel
theorem dX5_glassTold_87 : decode cX5_glassTold 87 = .ok (.invokevirtual 213, 3) := by decide +kernel
theorem dX5_glassTold_90 : decode cX5_glassTold 90 = .ok (.invokestatic 197, 3) := by decide +kernel
theorem dX5_glassTold_93 : decode cX5_glassTold 93 = .ok (.ireturn, 1) := by decide +kernel
theorem dX5_glassTold_94 : decode cX5_glassTold 94 = .ok (.aload_n 0, 1) := by decide +kernel
theorem dX5_glassTold_95 : decode cX5_glassTold 95 = .ok (.getfield 23, 3) := by decide +kernel
theorem dX5_glassTold_98 : decode cX5_glassTold 98 = .ok (.getfield 101, 3) := by decide +kernel
theorem dX5_glassTold_101 : decode cX5_glassTold 101 = .ok (.iload_n 1, 1) := by decide +kernel
theorem dX5_glassTold_102 : decode cX5_glassTold 102 = .ok (.baload, 1) := by decide +kernel
theorem dX5_glassTold_103 : decode cX5_glassTold 103 = .ok (.invokestatic 197, 3) := by decide +kernel
theorem dX5_glassTold_106 : decode cX5_glassTold 106 = .ok (.ireturn, 1) := by decide +kernel
theorem dX5_glassTold_107 : decode cX5_glassTold 107 = .ok (.bipush (-2), 2) := by decide +kernel
theorem dX5_glassTold_109 : decode cX5_glassTold 109 = .ok (.ireturn, 1) := by decide +kernel
theorem dX5_entry_0 : decode cX5_entry 0 = .ok (.aload_n 0, 1) := by decide +kernel
theorem dX5_entry_1 : decode cX5_entry 1 = .ok (.getfield 42, 3) := by decide +kernel
theorem dX5_entry_4 : decode cX5_entry 4 = .ok (.iload_n 1, 1) := by decide +kernel
theorem dX5_entry_5 : decode cX5_entry 5 = .ok (.iload_n 2, 1) := by decide +kernel
theorem dX5_entry_6 : decode cX5_entry 6 = .ok (.invokevirtual 216, 3) := by decide +kernel
theorem dX5_entry_9 : decode cX5_entry 9 = .ok (.ifCond .ne 6, 3) := by decide +kernel
theorem dX5_entry_12 : decode cX5_entry 12 = .ok (.bipush (-2), 2) := by decide +kernel
theorem dX5_entry_14 : decode cX5_entry 14 = .ok (.ireturn, 1) := by decide +kernel
theorem dX5_entry_15 : decode cX5_entry 15 = .ok (.aload_n 0, 1) := by decide +kernel
theorem dX5_entry_16 : decode cX5_entry 16 = .ok (.getfield 42, 3) := by decide +kernel
theorem dX5_entry_19 : decode cX5_entry 19 = .ok (.getfield 219, 3) := by decide +kernel
theorem dX5_entry_22 : decode cX5_entry 22 = .ok (.iload_n 1, 1) := by decide +kernel
theorem dX5_entry_23 : decode cX5_entry 23 = .ok (.iconst 5, 1) := by decide +kernel
theorem dX5_entry_24 : decode cX5_entry 24 = .ok (.imul, 1) := by decide +kernel
theorem dX5_entry_25 : decode cX5_entry 25 = .ok (.iload_n 2, 1) := by decide +kernel
theorem dX5_entry_26 : decode cX5_entry 26 = .ok (.iadd, 1) := by decide +kernel
theorem dX5_entry_27 : decode cX5_entry 27 = .ok (.iaload, 1) := by decide +kernel
theorem dX5_entry_28 : decode cX5_entry 28 = .ok (.ireturn, 1) := by decide +kernel
theorem dX5_link_0 : decode cX5_link 0 = .ok (.aload_n 0, 1) := by decide +kernel
theorem dX5_link_1 : decode cX5_link 1 = .ok (.getfield 42, 3) := by decide +kernel
theorem dX5_link_4 : decode cX5_link 4 = .ok (.iload_n 1, 1) := by decide +kernel
theorem dX5_link_5 : decode cX5_link 5 = .ok (.invokevirtual 222, 3) := by decide +kernel
theorem dX5_link_8 : decode cX5_link 8 = .ok (.ifCond .ne 5, 3) := by decide +kernel
theorem dX5_link_11 : decode cX5_link 11 = .ok (.lconst 0, 1) := by decide +kernel
theorem dX5_link_12 : decode cX5_link 12 = .ok (.lreturn, 1) := by decide +kernel
theorem dX5_link_13 : decode cX5_link 13 = .ok (.aload_n 0, 1) := by decide +kernel
theorem dX5_link_14 : decode cX5_link 14 = .ok (.getfield 42, 3) := by decide +kernel
theorem dX5_link_17 : decode cX5_link 17 = .ok (.getfield 225, 3) := by decide +kernel
theorem dX5_link_20 : decode cX5_link 20 = .ok (.iload_n 1, 1) := by decide +kernel
theorem dX5_link_21 : decode cX5_link 21 = .ok (.laload, 1) := by decide +kernel
theorem dX5_link_22 : decode cX5_link 22 = .ok (.lreturn, 1) := by decide +kernel
theorem dX5_alter_0 : decode cX5_alter 0 = .ok (.aload_n 0, 1) := by decide +kernel
theorem dX5_alter_1 : decode cX5_alter 1 = .ok (.getfield 42, 3) := by decide +kernel
theorem dX5_alter_4 : decode cX5_alter 4 = .ok (.iload_n 1, 1) := by decide +kernel
theorem dX5_alter_5 : decode cX5_alter 5 = .ok (.iload_n 2, 1) := by decide +kernel
theorem dX5_alter_6 : decode cX5_alter 6 = .ok (.invokevirtual 216, 3) := by decide +kernel
theorem dX5_alter_9 : decode cX5_alter 9 = .ok (.ifCond .ne 6, 3) := by decide +kernel
theorem dX5_alter_12 : decode cX5_alter 12 = .ok (.bipush (-2), 2) := by decide +kernel
theorem dX5_alter_14 : decode cX5_alter 14 = .ok (.ireturn, 1) := by decide +kernel
theorem dX5_alter_15 : decode cX5_alter 15 = .ok (.aload_n 0, 1) := by decide +kernel
theorem dX5_alter_16 : decode cX5_alter 16 = .ok (.getfield 42, 3) := by decide +kernel
theorem dX5_alter_19 : decode cX5_alter 19 = .ok (.getfield 219, 3) := by decide +kernel
theorem dX5_alter_22 : decode cX5_alter 22 = .ok (.iload_n 1, 1) := by decide +kernel
theorem dX5_alter_23 : decode cX5_alter 23 = .ok (.iconst 5, 1) := by decide +kernel
theorem dX5_alter_24 : decode cX5_alter 24 = .ok (.imul, 1) := by decide +kernel
theorem dX5_alter_25 : decode cX5_alter 25 = .ok (.iload_n 2, 1) := by decide +kernel
theorem dX5_alter_26 : decode cX5_alter 26 = .ok (.iadd, 1) := by decide +kernel
theorem dX5_alter_27 : decode cX5_alter 27 = .ok (.iaload, 1) := by decide +kernel
theorem dX5_alter_28 : decode cX5_alter 28 = .ok (.istore 4, 2) := by decide +kernel
theorem dX5_alter_30 : decode cX5_alter 30 = .ok (.aload_n 0, 1) := by decide +kernel
theorem dX5_alter_31 : decode cX5_alter 31 = .ok (.getfield 42, 3) := by decide +kernel
theorem dX5_alter_34 : decode cX5_alter 34 = .ok (.getfield 219, 3) := by decide +kernel
theorem dX5_alter_37 : decode cX5_alter 37 = .ok (.iload_n 1, 1) := by decide +kernel
theorem dX5_alter_38 : decode cX5_alter 38 = .ok (.iconst 5, 1) := by decide +kernel
theorem dX5_alter_39 : decode cX5_alter 39 = .ok (.imul, 1) := by decide +kernel
theorem dX5_alter_40 : decode cX5_alter 40 = .ok (.iload_n 2, 1) := by decide +kernel
theorem dX5_alter_41 : decode cX5_alter 41 = .ok (.iadd, 1) := by decide +kernel
theorem dX5_alter_42 : decode cX5_alter 42 = .ok (.iload_n 3, 1) := by decide +kernel
theorem dX5_alter_43 : decode cX5_alter 43 = .ok (.iastore, 1) := by decide +kernel
theorem dX5_alter_44 : decode cX5_alter 44 = .ok (.iload 4, 2) := by decide +kernel
theorem dX5_alter_46 : decode cX5_alter 46 = .ok (.ireturn, 1) := by decide +kernel
theorem dX5_check_0 : decode cX5_check 0 = .ok (.aload_n 0, 1) := by decide +kernel
theorem dX5_check_1 : decode cX5_check 1 = .ok (.getfield 42, 3) := by decide +kernel
theorem dX5_check_4 : decode cX5_check 4 = .ok (.invokevirtual 229, 3) := by decide +kernel
theorem dX5_check_7 : decode cX5_check 7 = .ok (.ireturn, 1) := by decide +kernel
theorem dX5_count_0 : decode cX5_count 0 = .ok (.iload_n 1, 1) := by decide +kernel
theorem dX5_count_1 : decode cX5_count 1 = .ok (.tableswitch 90 0 6 #[43, 48, 56, 64, 72, 77, 82], 43) := by decide +kernel
theorem dX5_count_44 : decode cX5_count 44 = .ok (.aload_n 0, 1) := by decide +kernel
theorem dX5_count_45 : decode cX5_count 45 = .ok (.getfield 46, 3) := by decide +kernel
theorem dX5_count_48 : decode cX5_count 48 = .ok (.ireturn, 1) := by decide +kernel
theorem dX5_count_49 : decode cX5_count 49 = .ok (.aload_n 0, 1) := by decide +kernel
theorem dX5_count_50 : decode cX5_count 50 = .ok (.getfield 16, 3) := by decide +kernel
theorem dX5_count_53 : decode cX5_count 53 = .ok (.getfield 232, 3) := by decide +kernel
theorem dX5_count_56 : decode cX5_count 56 = .ok (.ireturn, 1) := by decide +kernel
theorem dX5_count_57 : decode cX5_count 57 = .ok (.aload_n 0, 1) := by decide +kernel
theorem dX5_count_58 : decode cX5_count 58 = .ok (.getfield 16, 3) := by decide +kernel
theorem dX5_count_61 : decode cX5_count 61 = .ok (.getfield 235, 3) := by decide +kernel
theorem dX5_count_64 : decode cX5_count 64 = .ok (.ireturn, 1) := by decide +kernel
theorem dX5_count_65 : decode cX5_count 65 = .ok (.aload_n 0, 1) := by decide +kernel
theorem dX5_count_66 : decode cX5_count 66 = .ok (.getfield 23, 3) := by decide +kernel
theorem dX5_count_69 : decode cX5_count 69 = .ok (.getfield 238, 3) := by decide +kernel
theorem dX5_count_72 : decode cX5_count 72 = .ok (.ireturn, 1) := by decide +kernel
theorem dX5_count_73 : decode cX5_count 73 = .ok (.aload_n 0, 1) := by decide +kernel
theorem dX5_count_74 : decode cX5_count 74 = .ok (.getfield 120, 3) := by decide +kernel
theorem dX5_count_77 : decode cX5_count 77 = .ok (.ireturn, 1) := by decide +kernel
theorem dX5_count_78 : decode cX5_count 78 = .ok (.aload_n 0, 1) := by decide +kernel
theorem dX5_count_79 : decode cX5_count 79 = .ok (.getfield 157, 3) := by decide +kernel
theorem dX5_count_82 : decode cX5_count 82 = .ok (.ireturn, 1) := by decide +kernel
theorem dX5_count_83 : decode cX5_count 83 = .ok (.aload_n 0, 1) := by decide +kernel
theorem dX5_count_84 : decode cX5_count 84 = .ok (.getfield 42, 3) := by decide +kernel
theorem dX5_count_87 : decode cX5_count 87 = .ok (.getfield 241, 3) := by decide +kernel
theorem dX5_count_90 : decode cX5_count 90 = .ok (.ireturn, 1) := by decide +kernel
theorem dX5_count_91 : decode cX5_count 91 = .ok (.bipush (-2), 2) := by decide +kernel
theorem dX5_count_93 : decode cX5_count 93 = .ok (.ireturn, 1) := by decide +kernel
theorem dX5_reach_0 : decode cX5_reach 0 = .ok (.iload_n 2, 1) := by decide +kernel
theorem dX5_reach_1 : decode cX5_reach 1 = .ok (.invokestatic 51, 3) := by decide +kernel
theorem dX5_reach_4 : decode cX5_reach 4 = .ok (.ifCond .eq 14, 3) := by decide +kernel
theorem dX5_reach_7 : decode cX5_reach 7 = .ok (.aload_n 0, 1) := by decide +kernel
theorem dX5_reach_8 : decode cX5_reach 8 = .ok (.getfield 16, 3) := by decide +kernel
theorem dX5_reach_11 : decode cX5_reach 11 = .ok (.iload_n 3, 1) := by decide +kernel
theorem dX5_reach_12 : decode cX5_reach 12 = .ok (.invokevirtual 242, 3) := by decide +kernel
theorem dX5_reach_15 : decode cX5_reach 15 = .ok (.ifCond .ne 6, 3) := by decide +kernel
theorem dX5_reach_18 : decode cX5_reach 18 = .ok (.bipush (-2), 2) := by decide +kernel
theorem dX5_reach_20 : decode cX5_reach 20 = .ok (.ireturn, 1) := by decide +kernel
theorem dX5_reach_21 : decode cX5_reach 21 = .ok (.aload_n 0, 1) := by decide +kernel
theorem dX5_reach_22 : decode cX5_reach 22 = .ok (.getfield 16, 3) := by decide +kernel
theorem dX5_reach_25 : decode cX5_reach 25 = .ok (.getfield 245, 3) := by decide +kernel
theorem dX5_reach_28 : decode cX5_reach 28 = .ok (.iload_n 3, 1) := by decide +kernel
theorem dX5_reach_29 : decode cX5_reach 29 = .ok (.iaload, 1) := by decide +kernel
theorem dX5_reach_30 : decode cX5_reach 30 = .ok (.istore 4, 2) := by decide +kernel
theorem dX5_reach_32 : decode cX5_reach 32 = .ok (.iload_n 1, 1) := by decide +kernel
theorem dX5_reach_33 : decode cX5_reach 33 = .ok (.iconst 2, 1) := by decide +kernel
theorem dX5_reach_34 : decode cX5_reach 34 = .ok (.if_icmp .ne 16, 3) := by decide +kernel
theorem dX5_reach_37 : decode cX5_reach 37 = .ok (.aload_n 0, 1) := by decide +kernel
theorem dX5_reach_38 : decode cX5_reach 38 = .ok (.getfield 16, 3) := by decide +kernel
theorem dX5_reach_41 : decode cX5_reach 41 = .ok (.iload_n 2, 1) := by decide +kernel
theorem dX5_reach_42 : decode cX5_reach 42 = .ok (.iload 4, 2) := by decide +kernel
theorem dX5_reach_44 : decode cX5_reach 44 = .ok (.invokevirtual 248, 3) := by decide +kernel
theorem dX5_reach_47 : decode cX5_reach 47 = .ok (.goto 13, 3) := by decide +kernel
theorem dX5_reach_50 : decode cX5_reach 50 = .ok (.aload_n 0, 1) := by decide +kernel
theorem dX5_reach_51 : decode cX5_reach 51 = .ok (.getfield 16, 3) := by decide +kernel
theorem dX5_reach_54 : decode cX5_reach 54 = .ok (.iload_n 2, 1) := by decide +kernel
theorem dX5_reach_55 : decode cX5_reach 55 = .ok (.iload 4, 2) := by decide +kernel
theorem dX5_reach_57 : decode cX5_reach 57 = .ok (.invokevirtual 251, 3) := by decide +kernel
theorem dX5_reach_60 : decode cX5_reach 60 = .ok (.istore 5, 2) := by decide +kernel
theorem dX5_reach_62 : decode cX5_reach 62 = .ok (.iload 5, 2) := by decide +kernel
theorem dX5_reach_64 : decode cX5_reach 64 = .ok (.ifCond .eq 7, 3) := by decide +kernel
theorem dX5_reach_67 : decode cX5_reach 67 = .ok (.iconst 1, 1) := by decide +kernel
theorem dX5_reach_68 : decode cX5_reach 68 = .ok (.goto 4, 3) := by decide +kernel
theorem dX5_reach_71 : decode cX5_reach 71 = .ok (.iconst 0, 1) := by decide +kernel
theorem dX5_reach_72 : decode cX5_reach 72 = .ok (.istore 6, 2) := by decide +kernel
theorem dX5_reach_74 : decode cX5_reach 74 = .ok (.iload 6, 2) := by decide +kernel
theorem dX5_reach_76 : decode cX5_reach 76 = .ok (.ifCond .eq 23, 3) := by decide +kernel
theorem dX5_reach_79 : decode cX5_reach 79 = .ok (.aload_n 0, 1) := by decide +kernel
theorem dX5_reach_80 : decode cX5_reach 80 = .ok (.getfield 23, 3) := by decide +kernel
theorem dX5_reach_83 : decode cX5_reach 83 = .ok (.iload_n 2, 1) := by decide +kernel
theorem dX5_reach_84 : decode cX5_reach 84 = .ok (.iload 4, 2) := by decide +kernel
theorem dX5_reach_86 : decode cX5_reach 86 = .ok (.aload_n 0, 1) := by decide +kernel
theorem dX5_reach_87 : decode cX5_reach 87 = .ok (.getfield 46, 3) := by decide +kernel
theorem dX5_reach_90 : decode cX5_reach 90 = .ok (.invokevirtual 76, 3) := by decide +kernel
theorem dX5_reach_93 : decode cX5_reach 93 = .ok (.ifCond .ne 6, 3) := by decide +kernel
theorem dX5_reach_96 : decode cX5_reach 96 = .ok (.iload 5, 2) := by decide +kernel
theorem dX5_reach_98 : decode cX5_reach 98 = .ok (.ireturn, 1) := by decide +kernel
theorem dX5_reach_99 : decode cX5_reach 99 = .ok (.aload_n 0, 1) := by decide +kernel
theorem dX5_reach_100 : decode cX5_reach 100 = .ok (.getfield 42, 3) := by decide +kernel
theorem dX5_reach_103 : decode cX5_reach 103 = .ok (.invokevirtual 90, 3) := by decide +kernel
theorem dX5_reach_106 : decode cX5_reach 106 = .ok (.ifCond .eq 6, 3) := by decide +kernel
theorem dX5_reach_109 : decode cX5_reach 109 = .ok (.bipush (-3), 2) := by decide +kernel
theorem dX5_reach_111 : decode cX5_reach 111 = .ok (.ireturn, 1) := by decide +kernel
theorem dX5_reach_112 : decode cX5_reach 112 = .ok (.iload 6, 2) := by decide +kernel
theorem dX5_reach_114 : decode cX5_reach 114 = .ok (.ifCond .eq 16, 3) := by decide +kernel
theorem dX5_reach_117 : decode cX5_reach 117 = .ok (.aload_n 0, 1) := by decide +kernel
theorem dX5_reach_118 : decode cX5_reach 118 = .ok (.getfield 16, 3) := by decide +kernel
theorem dX5_reach_121 : decode cX5_reach 121 = .ok (.iload_n 2, 1) := by decide +kernel
theorem dX5_reach_122 : decode cX5_reach 122 = .ok (.iload 4, 2) := by decide +kernel
theorem dX5_reach_124 : decode cX5_reach 124 = .ok (.invokevirtual 254, 3) := by decide +kernel
theorem dX5_reach_127 : decode cX5_reach 127 = .ok (.goto 13, 3) := by decide +kernel
theorem dX5_reach_130 : decode cX5_reach 130 = .ok (.aload_n 0, 1) := by decide +kernel
theorem dX5_reach_131 : decode cX5_reach 131 = .ok (.getfield 16, 3) := by decide +kernel
theorem dX5_reach_134 : decode cX5_reach 134 = .ok (.iload_n 2, 1) := by decide +kernel
theorem dX5_reach_135 : decode cX5_reach 135 = .ok (.iload 4, 2) := by decide +kernel
theorem dX5_reach_137 : decode cX5_reach 137 = .ok (.invokevirtual 258, 3) := by decide +kernel
theorem dX5_reach_140 : decode cX5_reach 140 = .ok (.aload_n 0, 1) := by decide +kernel
theorem dX5_reach_141 : decode cX5_reach 141 = .ok (.getfield 42, 3) := by decide +kernel
theorem dX5_reach_144 : decode cX5_reach 144 = .ok (.iload_n 1, 1) := by decide +kernel
theorem dX5_reach_145 : decode cX5_reach 145 = .ok (.iload_n 2, 1) := by decide +kernel
theorem dX5_reach_146 : decode cX5_reach 146 = .ok (.iload_n 3, 1) := by decide +kernel
theorem dX5_reach_147 : decode cX5_reach 147 = .ok (.iload 6, 2) := by decide +kernel
theorem dX5_reach_149 : decode cX5_reach 149 = .ok (.invokestatic 197, 3) := by decide +kernel
theorem dX5_reach_152 : decode cX5_reach 152 = .ok (.aload_n 0, 1) := by decide +kernel
theorem dX5_reach_153 : decode cX5_reach 153 = .ok (.getfield 46, 3) := by decide +kernel
theorem dX5_reach_156 : decode cX5_reach 156 = .ok (.invokevirtual 94, 3) := by decide +kernel
theorem dX5_reach_159 : decode cX5_reach 159 = .ok (.iload 6, 2) := by decide +kernel
theorem dX5_reach_161 : decode cX5_reach 161 = .ok (.invokestatic 197, 3) := by decide +kernel
theorem dX5_reach_164 : decode cX5_reach 164 = .ok (.ireturn, 1) := by decide +kernel
theorem dX5_kindAt_0 : decode cX5_kindAt 0 = .ok (.iload_n 1, 1) := by decide +kernel
theorem dX5_kindAt_1 : decode cX5_kindAt 1 = .ok (.aload_n 0, 1) := by decide +kernel
theorem dX5_kindAt_2 : decode cX5_kindAt 2 = .ok (.getfield 120, 3) := by decide +kernel
theorem dX5_kindAt_5 : decode cX5_kindAt 5 = .ok (.invokestatic 55, 3) := by decide +kernel
theorem dX5_kindAt_8 : decode cX5_kindAt 8 = .ok (.ifCond .eq 12, 3) := by decide +kernel
theorem dX5_kindAt_11 : decode cX5_kindAt 11 = .ok (.aload_n 0, 1) := by decide +kernel
theorem dX5_kindAt_12 : decode cX5_kindAt 12 = .ok (.getfield 29, 3) := by decide +kernel
theorem dX5_kindAt_15 : decode cX5_kindAt 15 = .ok (.iload_n 1, 1) := by decide +kernel
theorem dX5_kindAt_16 : decode cX5_kindAt 16 = .ok (.aaload, 1) := by decide +kernel
theorem dX5_kindAt_17 : decode cX5_kindAt 17 = .ok (.goto 4, 3) := by decide +kernel
theorem dX5_kindAt_20 : decode cX5_kindAt 20 = .ok (.aconst_null, 1) := by decide +kernel
theorem dX5_kindAt_21 : decode cX5_kindAt 21 = .ok (.areturn, 1) := by decide +kernel
theorem dX5_alterableKind_0 : decode cX5_alterableKind 0 = .ok (.aload_n 0, 1) := by decide +kernel
theorem dX5_alterableKind_1 : decode cX5_alterableKind 1 = .ok (.iload_n 1, 1) := by decide +kernel
theorem dX5_alterableKind_2 : decode cX5_alterableKind 2 = .ok (.invokevirtual 151, 3) := by decide +kernel
theorem dX5_alterableKind_5 : decode cX5_alterableKind 5 = .ok (.astore_n 2, 1) := by decide +kernel
theorem dX5_alterableKind_6 : decode cX5_alterableKind 6 = .ok (.aload_n 2, 1) := by decide +kernel
theorem dX5_alterableKind_7 : decode cX5_alterableKind 7 = .ok (.ifnull 10, 3) := by decide +kernel
theorem dX5_alterableKind_10 : decode cX5_alterableKind 10 = .ok (.aload_n 2, 1) := by decide +kernel
theorem dX5_alterableKind_11 : decode cX5_alterableKind 11 = .ok (.getfield 160, 3) := by decide +kernel
theorem dX5_alterableKind_14 : decode cX5_alterableKind 14 = .ok (.ifCond .eq 7, 3) := by decide +kernel
theorem dX5_alterableKind_17 : decode cX5_alterableKind 17 = .ok (.aconst_null, 1) := by decide +kernel
theorem dX5_alterableKind_18 : decode cX5_alterableKind 18 = .ok (.goto 4, 3) := by decide +kernel
theorem dX5_alterableKind_21 : decode cX5_alterableKind 21 = .ok (.aload_n 2, 1) := by decide +kernel
theorem dX5_alterableKind_22 : decode cX5_alterableKind 22 = .ok (.areturn, 1) := by decide +kernel
theorem dX5_caseAt_0 : decode cX5_caseAt 0 = .ok (.iload_n 1, 1) := by decide +kernel
theorem dX5_caseAt_1 : decode cX5_caseAt 1 = .ok (.aload_n 0, 1) := by decide +kernel
theorem dX5_caseAt_2 : decode cX5_caseAt 2 = .ok (.getfield 157, 3) := by decide +kernel
theorem dX5_caseAt_5 : decode cX5_caseAt 5 = .ok (.invokestatic 55, 3) := by decide +kernel
theorem dX5_caseAt_8 : decode cX5_caseAt 8 = .ok (.ifCond .eq 12, 3) := by decide +kernel
theorem dX5_caseAt_11 : decode cX5_caseAt 11 = .ok (.aload_n 0, 1) := by decide +kernel
theorem dX5_caseAt_12 : decode cX5_caseAt 12 = .ok (.getfield 35, 3) := by decide +kernel
theorem dX5_caseAt_15 : decode cX5_caseAt 15 = .ok (.iload_n 1, 1) := by decide +kernel
theorem dX5_caseAt_16 : decode cX5_caseAt 16 = .ok (.aaload, 1) := by decide +kernel
theorem dX5_caseAt_17 : decode cX5_caseAt 17 = .ok (.goto 4, 3) := by decide +kernel
theorem dX5_caseAt_20 : decode cX5_caseAt 20 = .ok (.aconst_null, 1) := by decide +kernel
theorem dX5_caseAt_21 : decode cX5_caseAt 21 = .ok (.areturn, 1) := by decide +kernel
theorem dX5_isUser_0 : decode cX5_isUser 0 = .ok (.iload_n 0, 1) := by decide +kernel
theorem dX5_isUser_1 : decode cX5_isUser 1 = .ok (.bipush 12, 2) := by decide +kernel
theorem dX5_isUser_3 : decode cX5_isUser 3 = .ok (.invokestatic 55, 3) := by decide +kernel
theorem dX5_isUser_6 : decode cX5_isUser 6 = .ok (.ireturn, 1) := by decide +kernel
theorem dX5_isBelow_0 : decode cX5_isBelow 0 = .ok (.iload_n 0, 1) := by decide +kernel
theorem dX5_isBelow_1 : decode cX5_isBelow 1 = .ok (.ifCond .lt 12, 3) := by decide +kernel
theorem dX5_isBelow_4 : decode cX5_isBelow 4 = .ok (.iload_n 0, 1) := by decide +kernel
theorem dX5_isBelow_5 : decode cX5_isBelow 5 = .ok (.iload_n 1, 1) := by decide +kernel
theorem dX5_isBelow_6 : decode cX5_isBelow 6 = .ok (.if_icmp .ge 7, 3) := by decide +kernel
theorem dX5_isBelow_9 : decode cX5_isBelow 9 = .ok (.iconst 1, 1) := by decide +kernel
theorem dX5_isBelow_10 : decode cX5_isBelow 10 = .ok (.goto 4, 3) := by decide +kernel
theorem dX5_isBelow_13 : decode cX5_isBelow 13 = .ok (.iconst 0, 1) := by decide +kernel
theorem dX5_isBelow_14 : decode cX5_isBelow 14 = .ok (.ireturn, 1) := by decide +kernel
theorem dX5_hasBit_0 : decode cX5_hasBit 0 = .ok (.iload_n 0, 1) := by decide +kernel
theorem dX5_hasBit_1 : decode cX5_hasBit 1 = .ok (.iload_n 1, 1) := by decide +kernel
theorem dX5_hasBit_2 : decode cX5_hasBit 2 = .ok (.iushr, 1) := by decide +kernel
theorem dX5_hasBit_3 : decode cX5_hasBit 3 = .ok (.iconst 1, 1) := by decide +kernel
theorem dX5_hasBit_4 : decode cX5_hasBit 4 = .ok (.iand, 1) := by decide +kernel
theorem dX5_hasBit_5 : decode cX5_hasBit 5 = .ok (.ifCond .eq 7, 3) := by decide +kernel
theorem dX5_hasBit_8 : decode cX5_hasBit 8 = .ok (.iconst 1, 1) := by decide +kernel
theorem dX5_hasBit_9 : decode cX5_hasBit 9 = .ok (.goto 4, 3) := by decide +kernel
theorem dX5_hasBit_12 : decode cX5_hasBit 12 = .ok (.iconst 0, 1) := by decide +kernel
theorem dX5_hasBit_13 : decode cX5_hasBit 13 = .ok (.ireturn, 1) := by decide +kernel
theorem dX5_asNumber_0 : decode cX5_asNumber 0 = .ok (.iload_n 0, 1) := by decide +kernel
theorem dX5_asNumber_1 : decode cX5_asNumber 1 = .ok (.ifCond .eq 7, 3) := by decide +kernel
theorem dX5_asNumber_4 : decode cX5_asNumber 4 = .ok (.iconst 1, 1) := by decide +kernel
theorem dX5_asNumber_5 : decode cX5_asNumber 5 = .ok (.goto 4, 3) := by decide +kernel
theorem dX5_asNumber_8 : decode cX5_asNumber 8 = .ok (.iconst 0, 1) := by decide +kernel
theorem dX5_asNumber_9 : decode cX5_asNumber 9 = .ok (.ireturn, 1) := by decide +kernel
theorem dX5_joinPair_0 : decode cX5_joinPair 0 = .ok (.aload_n 0, 1) := by decide +kernel
theorem dX5_joinPair_1 : decode cX5_joinPair 1 = .ok (.iload_n 1, 1) := by decide +kernel
theorem dX5_joinPair_2 : decode cX5_joinPair 2 = .ok (.iaload, 1) := by decide +kernel
theorem dX5_joinPair_3 : decode cX5_joinPair 3 = .ok (.iload_n 2, 1) := by decide +kernel
theorem dX5_joinPair_4 : decode cX5_joinPair 4 = .ok (.invokestatic 105, 3) := by decide +kernel
theorem dX5_joinPair_7 : decode cX5_joinPair 7 = .ok (.ifCond .ne 7, 3) := by decide +kernel
theorem dX5_joinPair_10 : decode cX5_joinPair 10 = .ok (.iconst 1, 1) := by decide +kernel
theorem dX5_joinPair_11 : decode cX5_joinPair 11 = .ok (.goto 4, 3) := by decide +kernel
theorem dX5_joinPair_14 : decode cX5_joinPair 14 = .ok (.iconst 0, 1) := by decide +kernel
theorem dX5_joinPair_15 : decode cX5_joinPair 15 = .ok (.istore_n 3, 1) := by decide +kernel
theorem dX5_joinPair_16 : decode cX5_joinPair 16 = .ok (.aload_n 0, 1) := by decide +kernel
theorem dX5_joinPair_17 : decode cX5_joinPair 17 = .ok (.iload_n 1, 1) := by decide +kernel
theorem dX5_joinPair_18 : decode cX5_joinPair 18 = .ok (.dup2, 1) := by decide +kernel
theorem dX5_joinPair_19 : decode cX5_joinPair 19 = .ok (.iaload, 1) := by decide +kernel
theorem dX5_joinPair_20 : decode cX5_joinPair 20 = .ok (.iconst 1, 1) := by decide +kernel
theorem dX5_joinPair_21 : decode cX5_joinPair 21 = .ok (.iload_n 2, 1) := by decide +kernel
theorem dX5_joinPair_22 : decode cX5_joinPair 22 = .ok (.ishl, 1) := by decide +kernel
theorem dX5_joinPair_23 : decode cX5_joinPair 23 = .ok (.ior, 1) := by decide +kernel
theorem dX5_joinPair_24 : decode cX5_joinPair 24 = .ok (.iastore, 1) := by decide +kernel
theorem dX5_joinPair_25 : decode cX5_joinPair 25 = .ok (.aload_n 0, 1) := by decide +kernel
theorem dX5_joinPair_26 : decode cX5_joinPair 26 = .ok (.iload_n 2, 1) := by decide +kernel
theorem dX5_joinPair_27 : decode cX5_joinPair 27 = .ok (.dup2, 1) := by decide +kernel
theorem dX5_joinPair_28 : decode cX5_joinPair 28 = .ok (.iaload, 1) := by decide +kernel
theorem dX5_joinPair_29 : decode cX5_joinPair 29 = .ok (.iconst 1, 1) := by decide +kernel
theorem dX5_joinPair_30 : decode cX5_joinPair 30 = .ok (.iload_n 1, 1) := by decide +kernel
theorem dX5_joinPair_31 : decode cX5_joinPair 31 = .ok (.ishl, 1) := by decide +kernel
theorem dX5_joinPair_32 : decode cX5_joinPair 32 = .ok (.ior, 1) := by decide +kernel
theorem dX5_joinPair_33 : decode cX5_joinPair 33 = .ok (.iastore, 1) := by decide +kernel
theorem dX5_joinPair_34 : decode cX5_joinPair 34 = .ok (.iload_n 3, 1) := by decide +kernel
theorem dX5_joinPair_35 : decode cX5_joinPair 35 = .ok (.invokestatic 197, 3) := by decide +kernel
theorem dX5_joinPair_38 : decode cX5_joinPair 38 = .ok (.ireturn, 1) := by decide +kernel
end
section
theorem dX6_init_0 : decode cX6_init 0 = .ok (.aload_n 0, 1) := by decide +kernel
theorem dX6_init_1 : decode cX6_init 1 = .ok (.invokespecial 1, 3) := by decide +kernel
theorem dX6_init_4 : decode cX6_init 4 = .ok (.aload_n 0, 1) := by decide +kernel
theorem dX6_init_5 : decode cX6_init 5 = .ok (.bipush 12, 2) := by decide +kernel
theorem dX6_init_7 : decode cX6_init 7 = .ok (.newarray .int, 2) := by decide +kernel
theorem dX6_init_9 : decode cX6_init 9 = .ok (.putfield 7, 3) := by decide +kernel
theorem dX6_init_12 : decode cX6_init 12 = .ok (.aload_n 0, 1) := by decide +kernel
theorem dX6_init_13 : decode cX6_init 13 = .ok (.bipush 12, 2) := by decide +kernel
theorem dX6_init_15 : decode cX6_init 15 = .ok (.newarray .int, 2) := by decide +kernel
theorem dX6_init_17 : decode cX6_init 17 = .ok (.putfield 13, 3) := by decide +kernel
theorem dX6_init_20 : decode cX6_init 20 = .ok (.aload_n 0, 1) := by decide +kernel
theorem dX6_init_21 : decode cX6_init 21 = .ok (.bipush 12, 2) := by decide +kernel
theorem dX6_init_23 : decode cX6_init 23 = .ok (.newarray .int, 2) := by decide +kernel
theorem dX6_init_25 : decode cX6_init 25 = .ok (.putfield 16, 3) := by decide +kernel
theorem dX6_init_28 : decode cX6_init 28 = .ok (.aload_n 0, 1) := by decide +kernel
theorem dX6_init_29 : decode cX6_init 29 = .ok (.bipush 24, 2) := by decide +kernel
theorem dX6_init_31 : decode cX6_init 31 = .ok (.newarray .int, 2) := by decide +kernel
theorem dX6_init_33 : decode cX6_init 33 = .ok (.putfield 19, 3) := by decide +kernel
theorem dX6_init_36 : decode cX6_init 36 = .ok (.aload_n 0, 1) := by decide +kernel
theorem dX6_init_37 : decode cX6_init 37 = .ok (.bipush 48, 2) := by decide +kernel
theorem dX6_init_39 : decode cX6_init 39 = .ok (.newarray .int, 2) := by decide +kernel
theorem dX6_init_41 : decode cX6_init 41 = .ok (.putfield 22, 3) := by decide +kernel
theorem dX6_init_44 : decode cX6_init 44 = .ok (.aload_n 0, 1) := by decide +kernel
theorem dX6_init_45 : decode cX6_init 45 = .ok (.bipush 40, 2) := by decide +kernel
theorem dX6_init_47 : decode cX6_init 47 = .ok (.newarray .int, 2) := by decide +kernel
theorem dX6_init_49 : decode cX6_init 49 = .ok (.putfield 25, 3) := by decide +kernel
theorem dX6_init_52 : decode cX6_init 52 = .ok (.aload_n 0, 1) := by decide +kernel
theorem dX6_init_53 : decode cX6_init 53 = .ok (.bipush 40, 2) := by decide +kernel
theorem dX6_init_55 : decode cX6_init 55 = .ok (.newarray .int, 2) := by decide +kernel
theorem dX6_init_57 : decode cX6_init 57 = .ok (.putfield 28, 3) := by decide +kernel
theorem dX6_init_60 : decode cX6_init 60 = .ok (.aload_n 0, 1) := by decide +kernel
theorem dX6_init_61 : decode cX6_init 61 = .ok (.bipush 40, 2) := by decide +kernel
theorem dX6_init_63 : decode cX6_init 63 = .ok (.newarray .int, 2) := by decide +kernel
theorem dX6_init_65 : decode cX6_init 65 = .ok (.putfield 31, 3) := by decide +kernel
theorem dX6_init_68 : decode cX6_init 68 = .ok (.aload_n 0, 1) := by decide +kernel
theorem dX6_init_69 : decode cX6_init 69 = .ok (.bipush 40, 2) := by decide +kernel
theorem dX6_init_71 : decode cX6_init 71 = .ok (.newarray .boolean, 2) := by decide +kernel
theorem dX6_init_73 : decode cX6_init 73 = .ok (.putfield 34, 3) := by decide +kernel
theorem dX6_init_76 : decode cX6_init 76 = .ok (.aload_n 0, 1) := by decide +kernel
theorem dX6_init_77 : decode cX6_init 77 = .ok (.iconst 4, 1) := by decide +kernel
theorem dX6_init_78 : decode cX6_init 78 = .ok (.newarray .int, 2) := by decide +kernel
theorem dX6_init_80 : decode cX6_init 80 = .ok (.putfield 38, 3) := by decide +kernel
theorem dX6_init_83 : decode cX6_init 83 = .ok (.aload_n 0, 1) := by decide +kernel
theorem dX6_init_84 : decode cX6_init 84 = .ok (.bipush 24, 2) := by decide +kernel
theorem dX6_init_86 : decode cX6_init 86 = .ok (.newarray .int, 2) := by decide +kernel
theorem dX6_init_88 : decode cX6_init 88 = .ok (.putfield 41, 3) := by decide +kernel
theorem dX6_init_91 : decode cX6_init 91 = .ok (.aload_n 0, 1) := by decide +kernel
theorem dX6_init_92 : decode cX6_init 92 = .ok (.bipush 24, 2) := by decide +kernel
theorem dX6_init_94 : decode cX6_init 94 = .ok (.newarray .int, 2) := by decide +kernel
theorem dX6_init_96 : decode cX6_init 96 = .ok (.putfield 44, 3) := by decide +kernel
theorem dX6_init_99 : decode cX6_init 99 = .ok (.aload_n 0, 1) := by decide +kernel
theorem dX6_init_100 : decode cX6_init 100 = .ok (.sipush 144, 3) := by decide +kernel
theorem dX6_init_103 : decode cX6_init 103 = .ok (.newarray .boolean, 2) := by decide +kernel
theorem dX6_init_105 : decode cX6_init 105 = .ok (.putfield 47, 3) := by decide +kernel
theorem dX6_init_108 : decode cX6_init 108 = .ok (.aload_n 0, 1) := by decide +kernel
theorem dX6_init_109 : decode cX6_init 109 = .ok (.sipush 144, 3) := by decide +kernel
theorem dX6_init_112 : decode cX6_init 112 = .ok (.newarray .boolean, 2) := by decide +kernel
theorem dX6_init_114 : decode cX6_init 114 = .ok (.putfield 50, 3) := by decide +kernel
theorem dX6_init_117 : decode cX6_init 117 = .ok (.aload_n 0, 1) := by decide +kernel
theorem dX6_init_118 : decode cX6_init 118 = .ok (.iconst 4, 1) := by decide +kernel
theorem dX6_init_119 : decode cX6_init 119 = .ok (.newarray .int, 2) := by decide +kernel
theorem dX6_init_121 : decode cX6_init 121 = .ok (.putfield 53, 3) := by decide +kernel
theorem dX6_init_124 : decode cX6_init 124 = .ok (.aload_n 0, 1) := by decide +kernel
theorem dX6_init_125 : decode cX6_init 125 = .ok (.bipush 16, 2) := by decide +kernel
theorem dX6_init_127 : decode cX6_init 127 = .ok (.newarray .int, 2) := by decide +kernel
theorem dX6_init_129 : decode cX6_init 129 = .ok (.putfield 56, 3) := by decide +kernel
theorem dX6_init_132 : decode cX6_init 132 = .ok (.aload_n 0, 1) := by decide +kernel
theorem dX6_init_133 : decode cX6_init 133 = .ok (.bipush 96, 2) := by decide +kernel
theorem dX6_init_135 : decode cX6_init 135 = .ok (.newarray .int, 2) := by decide +kernel
theorem dX6_init_137 : decode cX6_init 137 = .ok (.putfield 59, 3) := by decide +kernel
theorem dX6_init_140 : decode cX6_init 140 = .ok (.aload_n 0, 1) := by decide +kernel
theorem dX6_init_141 : decode cX6_init 141 = .ok (.sipush 1200, 3) := by decide +kernel
theorem dX6_init_144 : decode cX6_init 144 = .ok (.newarray .int, 2) := by decide +kernel
theorem dX6_init_146 : decode cX6_init 146 = .ok (.putfield 62, 3) := by decide +kernel
theorem dX6_init_149 : decode cX6_init 149 = .ok (.aload_n 0, 1) := by decide +kernel
theorem dX6_init_150 : decode cX6_init 150 = .ok (.sipush 240, 3) := by decide +kernel
theorem dX6_init_153 : decode cX6_init 153 = .ok (.newarray .long, 2) := by decide +kernel
theorem dX6_init_155 : decode cX6_init 155 = .ok (.putfield 65, 3) := by decide +kernel
theorem dX6_init_158 : decode cX6_init 158 = .ok (.aload_n 0, 1) := by decide +kernel
theorem dX6_init_159 : decode cX6_init 159 = .ok (.bipush 6, 2) := by decide +kernel
theorem dX6_init_161 : decode cX6_init 161 = .ok (.newarray .int, 2) := by decide +kernel
theorem dX6_init_163 : decode cX6_init 163 = .ok (.putfield 69, 3) := by decide +kernel
theorem dX6_init_166 : decode cX6_init 166 = .ok (.aload_n 0, 1) := by decide +kernel
theorem dX6_init_167 : decode cX6_init 167 = .ok (.iconst 0, 1) := by decide +kernel
theorem dX6_init_168 : decode cX6_init 168 = .ok (.putfield 72, 3) := by decide +kernel
theorem dX6_init_171 : decode cX6_init 171 = .ok (.return_, 1) := by decide +kernel
theorem dX6_isIn_0 : decode cX6_isIn 0 = .ok (.iload_n 0, 1) := by decide +kernel
theorem dX6_isIn_1 : decode cX6_isIn 1 = .ok (.iload_n 1, 1) := by decide +kernel
theorem dX6_isIn_2 : decode cX6_isIn 2 = .ok (.if_icmp .lt 12, 3) := by decide +kernel
theorem dX6_isIn_5 : decode cX6_isIn 5 = .ok (.iload_n 0, 1) := by decide +kernel
theorem dX6_isIn_6 : decode cX6_isIn 6 = .ok (.iload_n 2, 1) := by decide +kernel
theorem dX6_isIn_7 : decode cX6_isIn 7 = .ok (.if_icmp .gt 7, 3) := by decide +kernel
theorem dX6_isIn_10 : decode cX6_isIn 10 = .ok (.iconst 1, 1) := by decide +kernel
theorem dX6_isIn_11 : decode cX6_isIn 11 = .ok (.goto 4, 3) := by decide +kernel
theorem dX6_isIn_14 : decode cX6_isIn 14 = .ok (.iconst 0, 1) := by decide +kernel
theorem dX6_isIn_15 : decode cX6_isIn 15 = .ok (.ireturn, 1) := by decide +kernel
theorem dX6_isUser_0 : decode cX6_isUser 0 = .ok (.iload_n 0, 1) := by decide +kernel
theorem dX6_isUser_1 : decode cX6_isUser 1 = .ok (.iconst 0, 1) := by decide +kernel
theorem dX6_isUser_2 : decode cX6_isUser 2 = .ok (.bipush 11, 2) := by decide +kernel
theorem dX6_isUser_4 : decode cX6_isUser 4 = .ok (.invokestatic 76, 3) := by decide +kernel
theorem dX6_isUser_7 : decode cX6_isUser 7 = .ok (.ireturn, 1) := by decide +kernel
theorem dX6_tick_0 : decode cX6_tick 0 = .ok (.iload_n 1, 1) := by decide +kernel
theorem dX6_tick_1 : decode cX6_tick 1 = .ok (.iconst 1, 1) := by decide +kernel
theorem dX6_tick_2 : decode cX6_tick 2 = .ok (.sipush 1000, 3) := by decide +kernel
theorem dX6_tick_5 : decode cX6_tick 5 = .ok (.invokestatic 76, 3) := by decide +kernel
theorem dX6_tick_8 : decode cX6_tick 8 = .ok (.ifCond .ne 6, 3) := by decide +kernel
theorem dX6_tick_11 : decode cX6_tick 11 = .ok (.bipush (-2), 2) := by decide +kernel
theorem dX6_tick_13 : decode cX6_tick 13 = .ok (.ireturn, 1) := by decide +kernel
theorem dX6_tick_14 : decode cX6_tick 14 = .ok (.aload_n 0, 1) := by decide +kernel
theorem dX6_tick_15 : decode cX6_tick 15 = .ok (.getfield 72, 3) := by decide +kernel
theorem dX6_tick_18 : decode cX6_tick 18 = .ok (.iload_n 1, 1) := by decide +kernel
theorem dX6_tick_19 : decode cX6_tick 19 = .ok (.iadd, 1) := by decide +kernel
theorem dX6_tick_20 : decode cX6_tick 20 = .ok (.ldc 80, 2) := by decide +kernel
theorem dX6_tick_22 : decode cX6_tick 22 = .ok (.if_icmp .le 6, 3) := by decide +kernel
theorem dX6_tick_25 : decode cX6_tick 25 = .ok (.bipush (-3), 2) := by decide +kernel
theorem dX6_tick_27 : decode cX6_tick 27 = .ok (.ireturn, 1) := by decide +kernel
theorem dX6_tick_28 : decode cX6_tick 28 = .ok (.aload_n 0, 1) := by decide +kernel
theorem dX6_tick_29 : decode cX6_tick 29 = .ok (.dup, 1) := by decide +kernel
theorem dX6_tick_30 : decode cX6_tick 30 = .ok (.getfield 72, 3) := by decide +kernel
theorem dX6_tick_33 : decode cX6_tick 33 = .ok (.iload_n 1, 1) := by decide +kernel
theorem dX6_tick_34 : decode cX6_tick 34 = .ok (.iadd, 1) := by decide +kernel
theorem dX6_tick_35 : decode cX6_tick 35 = .ok (.putfield 72, 3) := by decide +kernel
theorem dX6_tick_38 : decode cX6_tick 38 = .ok (.aload_n 0, 1) := by decide +kernel
theorem dX6_tick_39 : decode cX6_tick 39 = .ok (.getfield 72, 3) := by decide +kernel
theorem dX6_tick_42 : decode cX6_tick 42 = .ok (.ireturn, 1) := by decide +kernel
theorem dX6_roles_0 : decode cX6_roles 0 = .ok (.iload_n 1, 1) := by decide +kernel
theorem dX6_roles_1 : decode cX6_roles 1 = .ok (.invokestatic 81, 3) := by decide +kernel
theorem dX6_roles_4 : decode cX6_roles 4 = .ok (.ifCond .eq 14, 3) := by decide +kernel
theorem dX6_roles_7 : decode cX6_roles 7 = .ok (.iload_n 2, 1) := by decide +kernel
theorem dX6_roles_8 : decode cX6_roles 8 = .ok (.iconst 0, 1) := by decide +kernel
theorem dX6_roles_9 : decode cX6_roles 9 = .ok (.sipush 255, 3) := by decide +kernel
theorem dX6_roles_12 : decode cX6_roles 12 = .ok (.invokestatic 76, 3) := by decide +kernel
theorem dX6_roles_15 : decode cX6_roles 15 = .ok (.ifCond .ne 6, 3) := by decide +kernel
theorem dX6_roles_18 : decode cX6_roles 18 = .ok (.bipush (-2), 2) := by decide +kernel
theorem dX6_roles_20 : decode cX6_roles 20 = .ok (.ireturn, 1) := by decide +kernel
theorem dX6_roles_21 : decode cX6_roles 21 = .ok (.aload_n 0, 1) := by decide +kernel
theorem dX6_roles_22 : decode cX6_roles 22 = .ok (.getfield 7, 3) := by decide +kernel
theorem dX6_roles_25 : decode cX6_roles 25 = .ok (.iload_n 1, 1) := by decide +kernel
theorem dX6_roles_26 : decode cX6_roles 26 = .ok (.iaload, 1) := by decide +kernel
theorem dX6_roles_27 : decode cX6_roles 27 = .ok (.istore_n 3, 1) := by decide +kernel
theorem dX6_roles_28 : decode cX6_roles 28 = .ok (.aload_n 0, 1) := by decide +kernel
theorem dX6_roles_29 : decode cX6_roles 29 = .ok (.getfield 7, 3) := by decide +kernel
theorem dX6_roles_32 : decode cX6_roles 32 = .ok (.iload_n 1, 1) := by decide +kernel
theorem dX6_roles_33 : decode cX6_roles 33 = .ok (.iload_n 2, 1) := by decide +kernel
theorem dX6_roles_34 : decode cX6_roles 34 = .ok (.iastore, 1) := by decide +kernel
theorem dX6_roles_35 : decode cX6_roles 35 = .ok (.iload_n 3, 1) := by decide +kernel
theorem dX6_roles_36 : decode cX6_roles 36 = .ok (.ireturn, 1) := by decide +kernel
theorem dX6_firm_0 : decode cX6_firm 0 = .ok (.iload_n 1, 1) := by decide +kernel
theorem dX6_firm_1 : decode cX6_firm 1 = .ok (.iconst (-1), 1) := by decide +kernel
theorem dX6_firm_2 : decode cX6_firm 2 = .ok (.bipush 7, 2) := by decide +kernel
theorem dX6_firm_4 : decode cX6_firm 4 = .ok (.invokestatic 76, 3) := by decide +kernel
theorem dX6_firm_7 : decode cX6_firm 7 = .ok (.ifCond .ne 6, 3) := by decide +kernel
theorem dX6_firm_10 : decode cX6_firm 10 = .ok (.bipush (-2), 2) := by decide +kernel
theorem dX6_firm_12 : decode cX6_firm 12 = .ok (.ireturn, 1) := by decide +kernel
theorem dX6_firm_13 : decode cX6_firm 13 = .ok (.aload_n 0, 1) := by decide +kernel
theorem dX6_firm_14 : decode cX6_firm 14 = .ok (.getfield 85, 3) := by decide +kernel
theorem dX6_firm_17 : decode cX6_firm 17 = .ok (.bipush 24, 2) := by decide +kernel
theorem dX6_firm_19 : decode cX6_firm 19 = .ok (.if_icmp .ne 6, 3) := by decide +kernel
theorem dX6_firm_22 : decode cX6_firm 22 = .ok (.bipush (-3), 2) := by decide +kernel
theorem dX6_firm_24 : decode cX6_firm 24 = .ok (.ireturn, 1) := by decide +kernel
theorem dX6_firm_25 : decode cX6_firm 25 = .ok (.aload_n 0, 1) := by decide +kernel
theorem dX6_firm_26 : decode cX6_firm 26 = .ok (.getfield 19, 3) := by decide +kernel
theorem dX6_firm_29 : decode cX6_firm 29 = .ok (.aload_n 0, 1) := by decide +kernel
theorem dX6_firm_30 : decode cX6_firm 30 = .ok (.getfield 85, 3) := by decide +kernel
theorem dX6_firm_33 : decode cX6_firm 33 = .ok (.iload_n 1, 1) := by decide +kernel
theorem dX6_firm_34 : decode cX6_firm 34 = .ok (.iastore, 1) := by decide +kernel
theorem dX6_firm_35 : decode cX6_firm 35 = .ok (.aload_n 0, 1) := by decide +kernel
theorem dX6_firm_36 : decode cX6_firm 36 = .ok (.dup, 1) := by decide +kernel
theorem dX6_firm_37 : decode cX6_firm 37 = .ok (.getfield 85, 3) := by decide +kernel
theorem dX6_firm_40 : decode cX6_firm 40 = .ok (.iconst 1, 1) := by decide +kernel
theorem dX6_firm_41 : decode cX6_firm 41 = .ok (.iadd, 1) := by decide +kernel
theorem dX6_firm_42 : decode cX6_firm 42 = .ok (.putfield 85, 3) := by decide +kernel
theorem dX6_firm_45 : decode cX6_firm 45 = .ok (.aload_n 0, 1) := by decide +kernel
theorem dX6_firm_46 : decode cX6_firm 46 = .ok (.getfield 85, 3) := by decide +kernel
theorem dX6_firm_49 : decode cX6_firm 49 = .ok (.iconst 1, 1) := by decide +kernel
theorem dX6_firm_50 : decode cX6_firm 50 = .ok (.isub, 1) := by decide +kernel
theorem dX6_firm_51 : decode cX6_firm 51 = .ok (.ireturn, 1) := by decide +kernel
theorem dX6_object_0 : decode cX6_object 0 = .ok (.iload_n 1, 1) := by decide +kernel
theorem dX6_object_1 : decode cX6_object 1 = .ok (.iconst 0, 1) := by decide +kernel
theorem dX6_object_2 : decode cX6_object 2 = .ok (.aload_n 0, 1) := by decide +kernel
theorem dX6_object_3 : decode cX6_object 3 = .ok (.getfield 85, 3) := by decide +kernel
theorem dX6_object_6 : decode cX6_object 6 = .ok (.iconst 1, 1) := by decide +kernel
theorem dX6_object_7 : decode cX6_object 7 = .ok (.isub, 1) := by decide +kernel
theorem dX6_object_8 : decode cX6_object 8 = .ok (.invokestatic 76, 3) := by decide +kernel
theorem dX6_object_11 : decode cX6_object 11 = .ok (.ifCond .ne 6, 3) := by decide +kernel
theorem dX6_object_14 : decode cX6_object 14 = .ok (.bipush (-2), 2) := by decide +kernel
theorem dX6_object_16 : decode cX6_object 16 = .ok (.ireturn, 1) := by decide +kernel
theorem dX6_object_17 : decode cX6_object 17 = .ok (.aload_n 0, 1) := by decide +kernel
theorem dX6_object_18 : decode cX6_object 18 = .ok (.getfield 88, 3) := by decide +kernel
theorem dX6_object_21 : decode cX6_object 21 = .ok (.bipush 48, 2) := by decide +kernel
theorem dX6_object_23 : decode cX6_object 23 = .ok (.if_icmp .ne 6, 3) := by decide +kernel
theorem dX6_object_26 : decode cX6_object 26 = .ok (.bipush (-3), 2) := by decide +kernel
theorem dX6_object_28 : decode cX6_object 28 = .ok (.ireturn, 1) := by decide +kernel
theorem dX6_object_29 : decode cX6_object 29 = .ok (.aload_n 0, 1) := by decide +kernel
theorem dX6_object_30 : decode cX6_object 30 = .ok (.getfield 22, 3) := by decide +kernel
theorem dX6_object_33 : decode cX6_object 33 = .ok (.aload_n 0, 1) := by decide +kernel
theorem dX6_object_34 : decode cX6_object 34 = .ok (.getfield 88, 3) := by decide +kernel
theorem dX6_object_37 : decode cX6_object 37 = .ok (.iload_n 1, 1) := by decide +kernel
theorem dX6_object_38 : decode cX6_object 38 = .ok (.iastore, 1) := by decide +kernel
theorem dX6_object_39 : decode cX6_object 39 = .ok (.aload_n 0, 1) := by decide +kernel
theorem dX6_object_40 : decode cX6_object 40 = .ok (.dup, 1) := by decide +kernel
theorem dX6_object_41 : decode cX6_object 41 = .ok (.getfield 88, 3) := by decide +kernel
theorem dX6_object_44 : decode cX6_object 44 = .ok (.iconst 1, 1) := by decide +kernel
theorem dX6_object_45 : decode cX6_object 45 = .ok (.iadd, 1) := by decide +kernel
theorem dX6_object_46 : decode cX6_object 46 = .ok (.putfield 88, 3) := by decide +kernel
theorem dX6_object_49 : decode cX6_object 49 = .ok (.aload_n 0, 1) := by decide +kernel
theorem dX6_object_50 : decode cX6_object 50 = .ok (.getfield 88, 3) := by decide +kernel
theorem dX6_object_53 : decode cX6_object 53 = .ok (.iconst 1, 1) := by decide +kernel
theorem dX6_object_54 : decode cX6_object 54 = .ok (.isub, 1) := by decide +kernel
theorem dX6_object_55 : decode cX6_object 55 = .ok (.ireturn, 1) := by decide +kernel
theorem dX6_linkOf_0 : decode cX6_linkOf 0 = .ok (.lload_n 0, 1) := by decide +kernel
theorem dX6_linkOf_1 : decode cX6_linkOf 1 = .ok (.ldc2_w 91, 3) := by decide +kernel
theorem dX6_linkOf_4 : decode cX6_linkOf 4 = .ok (.lmul, 1) := by decide +kernel
theorem dX6_linkOf_5 : decode cX6_linkOf 5 = .ok (.iload_n 2, 1) := by decide +kernel
theorem dX6_linkOf_6 : decode cX6_linkOf 6 = .ok (.i2l, 1) := by decide +kernel
theorem dX6_linkOf_7 : decode cX6_linkOf 7 = .ok (.ladd, 1) := by decide +kernel
theorem dX6_linkOf_8 : decode cX6_linkOf 8 = .ok (.lstore 7, 2) := by decide +kernel
theorem dX6_linkOf_10 : decode cX6_linkOf 10 = .ok (.iconst 0, 1) := by decide +kernel
theorem dX6_linkOf_11 : decode cX6_linkOf 11 = .ok (.istore 9, 2) := by decide +kernel
theorem dX6_linkOf_13 : decode cX6_linkOf 13 = .ok (.iload 9, 2) := by decide +kernel
theorem dX6_linkOf_15 : decode cX6_linkOf 15 = .ok (.iconst 3, 1) := by decide +kernel
theorem dX6_linkOf_16 : decode cX6_linkOf 16 = .ok (.if_icmp .ge 51, 3) := by decide +kernel
theorem dX6_linkOf_19 : decode cX6_linkOf 19 = .ok (.lload 7, 2) := by decide +kernel
theorem dX6_linkOf_21 : decode cX6_linkOf 21 = .ok (.lload 7, 2) := by decide +kernel
theorem dX6_linkOf_23 : decode cX6_linkOf 23 = .ok (.bipush 29, 2) := by decide +kernel
theorem dX6_linkOf_25 : decode cX6_linkOf 25 = .ok (.lushr, 1) := by decide +kernel
theorem dX6_linkOf_26 : decode cX6_linkOf 26 = .ok (.lxor, 1) := by decide +kernel
theorem dX6_linkOf_27 : decode cX6_linkOf 27 = .ok (.lstore 7, 2) := by decide +kernel
theorem dX6_linkOf_29 : decode cX6_linkOf 29 = .ok (.lload 7, 2) := by decide +kernel
theorem dX6_linkOf_31 : decode cX6_linkOf 31 = .ok (.ldc2_w 93, 3) := by decide +kernel
theorem dX6_linkOf_34 : decode cX6_linkOf 34 = .ok (.lmul, 1) := by decide +kernel
theorem dX6_linkOf_35 : decode cX6_linkOf 35 = .ok (.iload 9, 2) := by decide +kernel
theorem dX6_linkOf_37 : decode cX6_linkOf 37 = .ok (.ifCond .ne 7, 3) := by decide +kernel
theorem dX6_linkOf_40 : decode cX6_linkOf 40 = .ok (.iload_n 3, 1) := by decide +kernel
theorem dX6_linkOf_41 : decode cX6_linkOf 41 = .ok (.goto 16, 3) := by decide +kernel
theorem dX6_linkOf_44 : decode cX6_linkOf 44 = .ok (.iload 9, 2) := by decide +kernel
theorem dX6_linkOf_46 : decode cX6_linkOf 46 = .ok (.iconst 1, 1) := by decide +kernel
theorem dX6_linkOf_47 : decode cX6_linkOf 47 = .ok (.if_icmp .ne 8, 3) := by decide +kernel
theorem dX6_linkOf_50 : decode cX6_linkOf 50 = .ok (.iload 4, 2) := by decide +kernel
theorem dX6_linkOf_52 : decode cX6_linkOf 52 = .ok (.goto 5, 3) := by decide +kernel
theorem dX6_linkOf_55 : decode cX6_linkOf 55 = .ok (.iload 5, 2) := by decide +kernel
theorem dX6_linkOf_57 : decode cX6_linkOf 57 = .ok (.i2l, 1) := by decide +kernel
theorem dX6_linkOf_58 : decode cX6_linkOf 58 = .ok (.ladd, 1) := by decide +kernel
theorem dX6_linkOf_59 : decode cX6_linkOf 59 = .ok (.lstore 7, 2) := by decide +kernel
theorem dX6_linkOf_61 : decode cX6_linkOf 61 = .ok (.iinc 9 1, 3) := by decide +kernel
theorem dX6_linkOf_64 : decode cX6_linkOf 64 = .ok (.goto (-51), 3) := by decide +kernel
theorem dX6_linkOf_67 : decode cX6_linkOf 67 = .ok (.lload 7, 2) := by decide +kernel
theorem dX6_linkOf_69 : decode cX6_linkOf 69 = .ok (.lload 7, 2) := by decide +kernel
theorem dX6_linkOf_71 : decode cX6_linkOf 71 = .ok (.bipush 32, 2) := by decide +kernel
theorem dX6_linkOf_73 : decode cX6_linkOf 73 = .ok (.lushr, 1) := by decide +kernel
theorem dX6_linkOf_74 : decode cX6_linkOf 74 = .ok (.lxor, 1) := by decide +kernel
theorem dX6_linkOf_75 : decode cX6_linkOf 75 = .ok (.lstore 7, 2) := by decide +kernel
theorem dX6_linkOf_77 : decode cX6_linkOf 77 = .ok (.lload 7, 2) := by decide +kernel
theorem dX6_linkOf_79 : decode cX6_linkOf 79 = .ok (.ldc2_w 95, 3) := by decide +kernel
theorem dX6_linkOf_82 : decode cX6_linkOf 82 = .ok (.lmul, 1) := by decide +kernel
theorem dX6_linkOf_83 : decode cX6_linkOf 83 = .ok (.iload 6, 2) := by decide +kernel
theorem dX6_linkOf_85 : decode cX6_linkOf 85 = .ok (.i2l, 1) := by decide +kernel
theorem dX6_linkOf_86 : decode cX6_linkOf 86 = .ok (.ladd, 1) := by decide +kernel
theorem dX6_linkOf_87 : decode cX6_linkOf 87 = .ok (.lstore 7, 2) := by decide +kernel
theorem dX6_linkOf_89 : decode cX6_linkOf 89 = .ok (.lload 7, 2) := by decide +kernel
theorem dX6_linkOf_91 : decode cX6_linkOf 91 = .ok (.lload 7, 2) := by decide +kernel
theorem dX6_linkOf_93 : decode cX6_linkOf 93 = .ok (.bipush 31, 2) := by decide +kernel
theorem dX6_linkOf_95 : decode cX6_linkOf 95 = .ok (.lushr, 1) := by decide +kernel
theorem dX6_linkOf_96 : decode cX6_linkOf 96 = .ok (.lxor, 1) := by decide +kernel
theorem dX6_linkOf_97 : decode cX6_linkOf 97 = .ok (.lreturn, 1) := by decide +kernel
theorem dX6_linkAt_0 : decode cX6_linkAt 0 = .ok (.iconst 5, 1) := by decide +kernel
theorem dX6_linkAt_1 : decode cX6_linkAt 1 = .ok (.iload_n 1, 1) := by decide +kernel
theorem dX6_linkAt_2 : decode cX6_linkAt 2 = .ok (.imul, 1) := by decide +kernel
theorem dX6_linkAt_3 : decode cX6_linkAt 3 = .ok (.istore_n 2, 1) := by decide +kernel
theorem dX6_linkAt_4 : decode cX6_linkAt 4 = .ok (.iload_n 1, 1) := by decide +kernel
theorem dX6_linkAt_5 : decode cX6_linkAt 5 = .ok (.ifCond .ne 7, 3) := by decide +kernel
theorem dX6_linkAt_8 : decode cX6_linkAt 8 = .ok (.lconst 1, 1) := by decide +kernel
theorem dX6_linkAt_9 : decode cX6_linkAt 9 = .ok (.goto 11, 3) := by decide +kernel
theorem dX6_linkAt_12 : decode cX6_linkAt 12 = .ok (.aload_n 0, 1) := by decide +kernel
theorem dX6_linkAt_13 : decode cX6_linkAt 13 = .ok (.getfield 65, 3) := by decide +kernel
theorem dX6_linkAt_16 : decode cX6_linkAt 16 = .ok (.iload_n 1, 1) := by decide +kernel
theorem dX6_linkAt_17 : decode cX6_linkAt 17 = .ok (.iconst 1, 1) := by decide +kernel
theorem dX6_linkAt_18 : decode cX6_linkAt 18 = .ok (.isub, 1) := by decide +kernel
theorem dX6_linkAt_19 : decode cX6_linkAt 19 = .ok (.laload, 1) := by decide +kernel
theorem dX6_linkAt_20 : decode cX6_linkAt 20 = .ok (.aload_n 0, 1) := by decide +kernel
theorem dX6_linkAt_21 : decode cX6_linkAt 21 = .ok (.getfield 62, 3) := by decide +kernel
theorem dX6_linkAt_24 : decode cX6_linkAt 24 = .ok (.iload_n 2, 1) := by decide +kernel
theorem dX6_linkAt_25 : decode cX6_linkAt 25 = .ok (.iaload, 1) := by decide +kernel
theorem dX6_linkAt_26 : decode cX6_linkAt 26 = .ok (.aload_n 0, 1) := by decide +kernel
theorem dX6_linkAt_27 : decode cX6_linkAt 27 = .ok (.getfield 62, 3) := by decide +kernel
theorem dX6_linkAt_30 : decode cX6_linkAt 30 = .ok (.iload_n 2, 1) := by decide +kernel
theorem dX6_linkAt_31 : decode cX6_linkAt 31 = .ok (.iconst 1, 1) := by decide +kernel
theorem dX6_linkAt_32 : decode cX6_linkAt 32 = .ok (.iadd, 1) := by decide +kernel
theorem dX6_linkAt_33 : decode cX6_linkAt 33 = .ok (.iaload, 1) := by decide +kernel
theorem dX6_linkAt_34 : decode cX6_linkAt 34 = .ok (.aload_n 0, 1) := by decide +kernel
theorem dX6_linkAt_35 : decode cX6_linkAt 35 = .ok (.getfield 62, 3) := by decide +kernel
theorem dX6_linkAt_38 : decode cX6_linkAt 38 = .ok (.iload_n 2, 1) := by decide +kernel
theorem dX6_linkAt_39 : decode cX6_linkAt 39 = .ok (.iconst 2, 1) := by decide +kernel
theorem dX6_linkAt_40 : decode cX6_linkAt 40 = .ok (.iadd, 1) := by decide +kernel
theorem dX6_linkAt_41 : decode cX6_linkAt 41 = .ok (.iaload, 1) := by decide +kernel
theorem dX6_linkAt_42 : decode cX6_linkAt 42 = .ok (.aload_n 0, 1) := by decide +kernel
theorem dX6_linkAt_43 : decode cX6_linkAt 43 = .ok (.getfield 62, 3) := by decide +kernel
theorem dX6_linkAt_46 : decode cX6_linkAt 46 = .ok (.iload_n 2, 1) := by decide +kernel
theorem dX6_linkAt_47 : decode cX6_linkAt 47 = .ok (.iconst 3, 1) := by decide +kernel
theorem dX6_linkAt_48 : decode cX6_linkAt 48 = .ok (.iadd, 1) := by decide +kernel
theorem dX6_linkAt_49 : decode cX6_linkAt 49 = .ok (.iaload, 1) := by decide +kernel
theorem dX6_linkAt_50 : decode cX6_linkAt 50 = .ok (.aload_n 0, 1) := by decide +kernel
theorem dX6_linkAt_51 : decode cX6_linkAt 51 = .ok (.getfield 62, 3) := by decide +kernel
theorem dX6_linkAt_54 : decode cX6_linkAt 54 = .ok (.iload_n 2, 1) := by decide +kernel
theorem dX6_linkAt_55 : decode cX6_linkAt 55 = .ok (.iconst 4, 1) := by decide +kernel
theorem dX6_linkAt_56 : decode cX6_linkAt 56 = .ok (.iadd, 1) := by decide +kernel
theorem dX6_linkAt_57 : decode cX6_linkAt 57 = .ok (.iaload, 1) := by decide +kernel
theorem dX6_linkAt_58 : decode cX6_linkAt 58 = .ok (.invokestatic 97, 3) := by decide +kernel
theorem dX6_linkAt_61 : decode cX6_linkAt 61 = .ok (.lreturn, 1) := by decide +kernel
theorem dX6_enter_0 : decode cX6_enter 0 = .ok (.iconst 5, 1) := by decide +kernel
theorem dX6_enter_1 : decode cX6_enter 1 = .ok (.aload_n 0, 1) := by decide +kernel
theorem dX6_enter_2 : decode cX6_enter 2 = .ok (.getfield 101, 3) := by decide +kernel
theorem dX6_enter_5 : decode cX6_enter 5 = .ok (.imul, 1) := by decide +kernel
theorem dX6_enter_6 : decode cX6_enter 6 = .ok (.istore 5, 2) := by decide +kernel
theorem dX6_enter_8 : decode cX6_enter 8 = .ok (.aload_n 0, 1) := by decide +kernel
theorem dX6_enter_9 : decode cX6_enter 9 = .ok (.getfield 62, 3) := by decide +kernel
theorem dX6_enter_12 : decode cX6_enter 12 = .ok (.iload 5, 2) := by decide +kernel
theorem dX6_enter_14 : decode cX6_enter 14 = .ok (.iload_n 1, 1) := by decide +kernel
theorem dX6_enter_15 : decode cX6_enter 15 = .ok (.iastore, 1) := by decide +kernel
theorem dX6_enter_16 : decode cX6_enter 16 = .ok (.aload_n 0, 1) := by decide +kernel
theorem dX6_enter_17 : decode cX6_enter 17 = .ok (.getfield 62, 3) := by decide +kernel
theorem dX6_enter_20 : decode cX6_enter 20 = .ok (.iload 5, 2) := by decide +kernel
theorem dX6_enter_22 : decode cX6_enter 22 = .ok (.iconst 1, 1) := by decide +kernel
theorem dX6_enter_23 : decode cX6_enter 23 = .ok (.iadd, 1) := by decide +kernel
theorem dX6_enter_24 : decode cX6_enter 24 = .ok (.iload_n 2, 1) := by decide +kernel
theorem dX6_enter_25 : decode cX6_enter 25 = .ok (.iastore, 1) := by decide +kernel
theorem dX6_enter_26 : decode cX6_enter 26 = .ok (.aload_n 0, 1) := by decide +kernel
theorem dX6_enter_27 : decode cX6_enter 27 = .ok (.getfield 62, 3) := by decide +kernel
theorem dX6_enter_30 : decode cX6_enter 30 = .ok (.iload 5, 2) := by decide +kernel
theorem dX6_enter_32 : decode cX6_enter 32 = .ok (.iconst 2, 1) := by decide +kernel
theorem dX6_enter_33 : decode cX6_enter 33 = .ok (.iadd, 1) := by decide +kernel
theorem dX6_enter_34 : decode cX6_enter 34 = .ok (.iload_n 3, 1) := by decide +kernel
theorem dX6_enter_35 : decode cX6_enter 35 = .ok (.iastore, 1) := by decide +kernel
theorem dX6_enter_36 : decode cX6_enter 36 = .ok (.aload_n 0, 1) := by decide +kernel
theorem dX6_enter_37 : decode cX6_enter 37 = .ok (.getfield 62, 3) := by decide +kernel
theorem dX6_enter_40 : decode cX6_enter 40 = .ok (.iload 5, 2) := by decide +kernel
theorem dX6_enter_42 : decode cX6_enter 42 = .ok (.iconst 3, 1) := by decide +kernel
theorem dX6_enter_43 : decode cX6_enter 43 = .ok (.iadd, 1) := by decide +kernel
theorem dX6_enter_44 : decode cX6_enter 44 = .ok (.iload 4, 2) := by decide +kernel
theorem dX6_enter_46 : decode cX6_enter 46 = .ok (.iastore, 1) := by decide +kernel
theorem dX6_enter_47 : decode cX6_enter 47 = .ok (.aload_n 0, 1) := by decide +kernel
theorem dX6_enter_48 : decode cX6_enter 48 = .ok (.getfield 62, 3) := by decide +kernel
theorem dX6_enter_51 : decode cX6_enter 51 = .ok (.iload 5, 2) := by decide +kernel
theorem dX6_enter_53 : decode cX6_enter 53 = .ok (.iconst 4, 1) := by decide +kernel
theorem dX6_enter_54 : decode cX6_enter 54 = .ok (.iadd, 1) := by decide +kernel
theorem dX6_enter_55 : decode cX6_enter 55 = .ok (.aload_n 0, 1) := by decide +kernel
theorem dX6_enter_56 : decode cX6_enter 56 = .ok (.getfield 72, 3) := by decide +kernel
theorem dX6_enter_59 : decode cX6_enter 59 = .ok (.iastore, 1) := by decide +kernel
theorem dX6_enter_60 : decode cX6_enter 60 = .ok (.aload_n 0, 1) := by decide +kernel
theorem dX6_enter_61 : decode cX6_enter 61 = .ok (.getfield 65, 3) := by decide +kernel
theorem dX6_enter_64 : decode cX6_enter 64 = .ok (.aload_n 0, 1) := by decide +kernel
theorem dX6_enter_65 : decode cX6_enter 65 = .ok (.getfield 101, 3) := by decide +kernel
theorem dX6_enter_68 : decode cX6_enter 68 = .ok (.aload_n 0, 1) := by decide +kernel
theorem dX6_enter_69 : decode cX6_enter 69 = .ok (.aload_n 0, 1) := by decide +kernel
theorem dX6_enter_70 : decode cX6_enter 70 = .ok (.getfield 101, 3) := by decide +kernel
theorem dX6_enter_73 : decode cX6_enter 73 = .ok (.invokevirtual 104, 3) := by decide +kernel
theorem dX6_enter_76 : decode cX6_enter 76 = .ok (.lastore, 1) := by decide +kernel
theorem dX6_enter_77 : decode cX6_enter 77 = .ok (.aload_n 0, 1) := by decide +kernel
theorem dX6_enter_78 : decode cX6_enter 78 = .ok (.dup, 1) := by decide +kernel
theorem dX6_enter_79 : decode cX6_enter 79 = .ok (.getfield 101, 3) := by decide +kernel
theorem dX6_enter_82 : decode cX6_enter 82 = .ok (.iconst 1, 1) := by decide +kernel
theorem dX6_enter_83 : decode cX6_enter 83 = .ok (.iadd, 1) := by decide +kernel
theorem dX6_enter_84 : decode cX6_enter 84 = .ok (.putfield 101, 3) := by decide +kernel
theorem dX6_enter_87 : decode cX6_enter 87 = .ok (.return_, 1) := by decide +kernel
theorem dX6_isOpen_0 : decode cX6_isOpen 0 = .ok (.aload_n 0, 1) := by decide +kernel
theorem dX6_isOpen_1 : decode cX6_isOpen 1 = .ok (.getfield 19, 3) := by decide +kernel
theorem dX6_isOpen_4 : decode cX6_isOpen 4 = .ok (.iload_n 1, 1) := by decide +kernel
theorem dX6_isOpen_5 : decode cX6_isOpen 5 = .ok (.iaload, 1) := by decide +kernel
theorem dX6_isOpen_6 : decode cX6_isOpen 6 = .ok (.ifCond .ge 7, 3) := by decide +kernel
theorem dX6_isOpen_9 : decode cX6_isOpen 9 = .ok (.iconst 1, 1) := by decide +kernel
theorem dX6_isOpen_10 : decode cX6_isOpen 10 = .ok (.goto 4, 3) := by decide +kernel
theorem dX6_isOpen_13 : decode cX6_isOpen 13 = .ok (.iconst 0, 1) := by decide +kernel
theorem dX6_isOpen_14 : decode cX6_isOpen 14 = .ok (.ireturn, 1) := by decide +kernel
theorem dX6_isWalled_0 : decode cX6_isWalled 0 = .ok (.aload_n 0, 1) := by decide +kernel
theorem dX6_isWalled_1 : decode cX6_isWalled 1 = .ok (.iload_n 2, 1) := by decide +kernel
theorem dX6_isWalled_2 : decode cX6_isWalled 2 = .ok (.invokevirtual 108, 3) := by decide +kernel
theorem dX6_isWalled_5 : decode cX6_isWalled 5 = .ok (.ifCond .ne 17, 3) := by decide +kernel
theorem dX6_isWalled_8 : decode cX6_isWalled 8 = .ok (.aload_n 0, 1) := by decide +kernel
theorem dX6_isWalled_9 : decode cX6_isWalled 9 = .ok (.getfield 13, 3) := by decide +kernel
theorem dX6_isWalled_12 : decode cX6_isWalled 12 = .ok (.iload_n 1, 1) := by decide +kernel
theorem dX6_isWalled_13 : decode cX6_isWalled 13 = .ok (.iaload, 1) := by decide +kernel
theorem dX6_isWalled_14 : decode cX6_isWalled 14 = .ok (.iload_n 2, 1) := by decide +kernel
theorem dX6_isWalled_15 : decode cX6_isWalled 15 = .ok (.ishr, 1) := by decide +kernel
theorem dX6_isWalled_16 : decode cX6_isWalled 16 = .ok (.iconst 1, 1) := by decide +kernel
theorem dX6_isWalled_17 : decode cX6_isWalled 17 = .ok (.iand, 1) := by decide +kernel
theorem dX6_isWalled_18 : decode cX6_isWalled 18 = .ok (.iconst 1, 1) := by decide +kernel
theorem dX6_isWalled_19 : decode cX6_isWalled 19 = .ok (.if_icmp .ne 5, 3) := by decide +kernel
theorem dX6_isWalled_22 : decode cX6_isWalled 22 = .ok (.iconst 0, 1) := by decide +kernel
theorem dX6_isWalled_23 : decode cX6_isWalled 23 = .ok (.ireturn, 1) := by decide +kernel
theorem dX6_isWalled_24 : decode cX6_isWalled 24 = .ok (.iconst 0, 1) := by decide +kernel
theorem dX6_isWalled_25 : decode cX6_isWalled 25 = .ok (.istore_n 3, 1) := by decide +kernel
theorem dX6_isWalled_26 : decode cX6_isWalled 26 = .ok (.iload_n 3, 1) := by decide +kernel
theorem dX6_isWalled_27 : decode cX6_isWalled 27 = .ok (.aload_n 0, 1) := by decide +kernel
theorem dX6_isWalled_28 : decode cX6_isWalled 28 = .ok (.getfield 85, 3) := by decide +kernel
theorem dX6_isWalled_31 : decode cX6_isWalled 31 = .ok (.if_icmp .ge 40, 3) := by decide +kernel
theorem dX6_isWalled_34 : decode cX6_isWalled 34 = .ok (.aload_n 0, 1) := by decide +kernel
theorem dX6_isWalled_35 : decode cX6_isWalled 35 = .ok (.getfield 13, 3) := by decide +kernel
theorem dX6_isWalled_38 : decode cX6_isWalled 38 = .ok (.iload_n 1, 1) := by decide +kernel
theorem dX6_isWalled_39 : decode cX6_isWalled 39 = .ok (.iaload, 1) := by decide +kernel
theorem dX6_isWalled_40 : decode cX6_isWalled 40 = .ok (.iload_n 3, 1) := by decide +kernel
theorem dX6_isWalled_41 : decode cX6_isWalled 41 = .ok (.ishr, 1) := by decide +kernel
theorem dX6_isWalled_42 : decode cX6_isWalled 42 = .ok (.iconst 1, 1) := by decide +kernel
theorem dX6_isWalled_43 : decode cX6_isWalled 43 = .ok (.iand, 1) := by decide +kernel
theorem dX6_isWalled_44 : decode cX6_isWalled 44 = .ok (.iconst 1, 1) := by decide +kernel
theorem dX6_isWalled_45 : decode cX6_isWalled 45 = .ok (.if_icmp .ne 20, 3) := by decide +kernel
theorem dX6_isWalled_48 : decode cX6_isWalled 48 = .ok (.aload_n 0, 1) := by decide +kernel
theorem dX6_isWalled_49 : decode cX6_isWalled 49 = .ok (.getfield 19, 3) := by decide +kernel
theorem dX6_isWalled_52 : decode cX6_isWalled 52 = .ok (.iload_n 3, 1) := by decide +kernel
theorem dX6_isWalled_53 : decode cX6_isWalled 53 = .ok (.iaload, 1) := by decide +kernel
theorem dX6_isWalled_54 : decode cX6_isWalled 54 = .ok (.aload_n 0, 1) := by decide +kernel
theorem dX6_isWalled_55 : decode cX6_isWalled 55 = .ok (.getfield 19, 3) := by decide +kernel
theorem dX6_isWalled_58 : decode cX6_isWalled 58 = .ok (.iload_n 2, 1) := by decide +kernel
theorem dX6_isWalled_59 : decode cX6_isWalled 59 = .ok (.iaload, 1) := by decide +kernel
theorem dX6_isWalled_60 : decode cX6_isWalled 60 = .ok (.if_icmp .ne 5, 3) := by decide +kernel
theorem dX6_isWalled_63 : decode cX6_isWalled 63 = .ok (.iconst 1, 1) := by decide +kernel
theorem dX6_isWalled_64 : decode cX6_isWalled 64 = .ok (.ireturn, 1) := by decide +kernel
theorem dX6_isWalled_65 : decode cX6_isWalled 65 = .ok (.iinc 3 1, 3) := by decide +kernel
theorem dX6_isWalled_68 : decode cX6_isWalled 68 = .ok (.goto (-42), 3) := by decide +kernel
theorem dX6_isWalled_71 : decode cX6_isWalled 71 = .ok (.iconst 0, 1) := by decide +kernel
theorem dX6_isWalled_72 : decode cX6_isWalled 72 = .ok (.ireturn, 1) := by decide +kernel
theorem dX6_hasGlass_0 : decode cX6_hasGlass 0 = .ok (.iconst 0, 1) := by decide +kernel
theorem dX6_hasGlass_1 : decode cX6_hasGlass 1 = .ok (.istore_n 3, 1) := by decide +kernel
theorem dX6_hasGlass_2 : decode cX6_hasGlass 2 = .ok (.iload_n 3, 1) := by decide +kernel
theorem dX6_hasGlass_3 : decode cX6_hasGlass 3 = .ok (.aload_n 0, 1) := by decide +kernel
theorem dX6_hasGlass_4 : decode cX6_hasGlass 4 = .ok (.getfield 111, 3) := by decide +kernel
theorem dX6_hasGlass_7 : decode cX6_hasGlass 7 = .ok (.if_icmp .ge 44, 3) := by decide +kernel
theorem dX6_hasGlass_10 : decode cX6_hasGlass 10 = .ok (.aload_n 0, 1) := by decide +kernel
theorem dX6_hasGlass_11 : decode cX6_hasGlass 11 = .ok (.getfield 25, 3) := by decide +kernel
theorem dX6_hasGlass_14 : decode cX6_hasGlass 14 = .ok (.iload_n 3, 1) := by decide +kernel
theorem dX6_hasGlass_15 : decode cX6_hasGlass 15 = .ok (.iaload, 1) := by decide +kernel
theorem dX6_hasGlass_16 : decode cX6_hasGlass 16 = .ok (.iload_n 1, 1) := by decide +kernel
theorem dX6_hasGlass_17 : decode cX6_hasGlass 17 = .ok (.if_icmp .ne 28, 3) := by decide +kernel
theorem dX6_hasGlass_20 : decode cX6_hasGlass 20 = .ok (.aload_n 0, 1) := by decide +kernel
theorem dX6_hasGlass_21 : decode cX6_hasGlass 21 = .ok (.getfield 28, 3) := by decide +kernel
theorem dX6_hasGlass_24 : decode cX6_hasGlass 24 = .ok (.iload_n 3, 1) := by decide +kernel
theorem dX6_hasGlass_25 : decode cX6_hasGlass 25 = .ok (.iaload, 1) := by decide +kernel
theorem dX6_hasGlass_26 : decode cX6_hasGlass 26 = .ok (.iload_n 2, 1) := by decide +kernel
theorem dX6_hasGlass_27 : decode cX6_hasGlass 27 = .ok (.if_icmp .ne 18, 3) := by decide +kernel
theorem dX6_hasGlass_30 : decode cX6_hasGlass 30 = .ok (.aload_n 0, 1) := by decide +kernel
theorem dX6_hasGlass_31 : decode cX6_hasGlass 31 = .ok (.getfield 72, 3) := by decide +kernel
theorem dX6_hasGlass_34 : decode cX6_hasGlass 34 = .ok (.aload_n 0, 1) := by decide +kernel
theorem dX6_hasGlass_35 : decode cX6_hasGlass 35 = .ok (.getfield 31, 3) := by decide +kernel
theorem dX6_hasGlass_38 : decode cX6_hasGlass 38 = .ok (.iload_n 3, 1) := by decide +kernel
theorem dX6_hasGlass_39 : decode cX6_hasGlass 39 = .ok (.iaload, 1) := by decide +kernel
theorem dX6_hasGlass_40 : decode cX6_hasGlass 40 = .ok (.if_icmp .ge 5, 3) := by decide +kernel
theorem dX6_hasGlass_43 : decode cX6_hasGlass 43 = .ok (.iconst 1, 1) := by decide +kernel
theorem dX6_hasGlass_44 : decode cX6_hasGlass 44 = .ok (.ireturn, 1) := by decide +kernel
theorem dX6_hasGlass_45 : decode cX6_hasGlass 45 = .ok (.iinc 3 1, 3) := by decide +kernel
theorem dX6_hasGlass_48 : decode cX6_hasGlass 48 = .ok (.goto (-46), 3) := by decide +kernel
theorem dX6_hasGlass_51 : decode cX6_hasGlass 51 = .ok (.iconst 0, 1) := by decide +kernel
theorem dX6_hasGlass_52 : decode cX6_hasGlass 52 = .ok (.ireturn, 1) := by decide +kernel
theorem dX6_read_0 : decode cX6_read 0 = .ok (.aload_n 0, 1) := by decide +kernel
theorem dX6_read_1 : decode cX6_read 1 = .ok (.iload_n 1, 1) := by decide +kernel
theorem dX6_read_2 : decode cX6_read 2 = .ok (.iload_n 2, 1) := by decide +kernel
theorem dX6_read_3 : decode cX6_read 3 = .ok (.iconst 1, 1) := by decide +kernel
theorem dX6_read_4 : decode cX6_read 4 = .ok (.invokevirtual 114, 3) := by decide +kernel
theorem dX6_read_7 : decode cX6_read 7 = .ok (.ireturn, 1) := by decide +kernel
theorem dX6_write_0 : decode cX6_write 0 = .ok (.aload_n 0, 1) := by decide +kernel
theorem dX6_write_1 : decode cX6_write 1 = .ok (.iload_n 1, 1) := by decide +kernel
theorem dX6_write_2 : decode cX6_write 2 = .ok (.iload_n 2, 1) := by decide +kernel
theorem dX6_write_3 : decode cX6_write 3 = .ok (.iconst 2, 1) := by decide +kernel
theorem dX6_write_4 : decode cX6_write 4 = .ok (.invokevirtual 114, 3) := by decide +kernel
theorem dX6_write_7 : decode cX6_write 7 = .ok (.ireturn, 1) := by decide +kernel
theorem dX6_access_0 : decode cX6_access 0 = .ok (.iload_n 1, 1) := by decide +kernel
theorem dX6_access_1 : decode cX6_access 1 = .ok (.invokestatic 81, 3) := by decide +kernel
theorem dX6_access_4 : decode cX6_access 4 = .ok (.ifCond .eq 17, 3) := by decide +kernel
theorem dX6_access_7 : decode cX6_access 7 = .ok (.iload_n 2, 1) := by decide +kernel
theorem dX6_access_8 : decode cX6_access 8 = .ok (.iconst 0, 1) := by decide +kernel
theorem dX6_access_9 : decode cX6_access 9 = .ok (.aload_n 0, 1) := by decide +kernel
theorem dX6_access_10 : decode cX6_access 10 = .ok (.getfield 88, 3) := by decide +kernel
theorem dX6_access_13 : decode cX6_access 13 = .ok (.iconst 1, 1) := by decide +kernel
theorem dX6_access_14 : decode cX6_access 14 = .ok (.isub, 1) := by decide +kernel
theorem dX6_access_15 : decode cX6_access 15 = .ok (.invokestatic 76, 3) := by decide +kernel
theorem dX6_access_18 : decode cX6_access 18 = .ok (.ifCond .ne 6, 3) := by decide +kernel
theorem dX6_access_21 : decode cX6_access 21 = .ok (.bipush (-2), 2) := by decide +kernel
theorem dX6_access_23 : decode cX6_access 23 = .ok (.ireturn, 1) := by decide +kernel
theorem dX6_access_24 : decode cX6_access 24 = .ok (.aload_n 0, 1) := by decide +kernel
theorem dX6_access_25 : decode cX6_access 25 = .ok (.getfield 22, 3) := by decide +kernel
theorem dX6_access_28 : decode cX6_access 28 = .ok (.iload_n 2, 1) := by decide +kernel
theorem dX6_access_29 : decode cX6_access 29 = .ok (.iaload, 1) := by decide +kernel
theorem dX6_access_30 : decode cX6_access 30 = .ok (.istore 4, 2) := by decide +kernel
theorem dX6_access_32 : decode cX6_access 32 = .ok (.aload_n 0, 1) := by decide +kernel
theorem dX6_access_33 : decode cX6_access 33 = .ok (.iload_n 1, 1) := by decide +kernel
theorem dX6_access_34 : decode cX6_access 34 = .ok (.iload 4, 2) := by decide +kernel
theorem dX6_access_36 : decode cX6_access 36 = .ok (.invokevirtual 118, 3) := by decide +kernel
theorem dX6_access_39 : decode cX6_access 39 = .ok (.ifCond .eq 8, 3) := by decide +kernel
theorem dX6_access_42 : decode cX6_access 42 = .ok (.bipush (-11), 2) := by decide +kernel
theorem dX6_access_44 : decode cX6_access 44 = .ok (.goto 4, 3) := by decide +kernel
theorem dX6_access_47 : decode cX6_access 47 = .ok (.iconst 0, 1) := by decide +kernel
theorem dX6_access_48 : decode cX6_access 48 = .ok (.istore 5, 2) := by decide +kernel
theorem dX6_access_50 : decode cX6_access 50 = .ok (.aload_n 0, 1) := by decide +kernel
theorem dX6_access_51 : decode cX6_access 51 = .ok (.getfield 13, 3) := by decide +kernel
theorem dX6_access_54 : decode cX6_access 54 = .ok (.iload_n 1, 1) := by decide +kernel
theorem dX6_access_55 : decode cX6_access 55 = .ok (.iaload, 1) := by decide +kernel
theorem dX6_access_56 : decode cX6_access 56 = .ok (.aload_n 0, 1) := by decide +kernel
theorem dX6_access_57 : decode cX6_access 57 = .ok (.getfield 16, 3) := by decide +kernel
theorem dX6_access_60 : decode cX6_access 60 = .ok (.iload_n 1, 1) := by decide +kernel
theorem dX6_access_61 : decode cX6_access 61 = .ok (.iaload, 1) := by decide +kernel
theorem dX6_access_62 : decode cX6_access 62 = .ok (.ior, 1) := by decide +kernel
theorem dX6_access_63 : decode cX6_access 63 = .ok (.istore 6, 2) := by decide +kernel
theorem dX6_access_65 : decode cX6_access 65 = .ok (.aload_n 0, 1) := by decide +kernel
theorem dX6_access_66 : decode cX6_access 66 = .ok (.iload 4, 2) := by decide +kernel
theorem dX6_access_68 : decode cX6_access 68 = .ok (.invokevirtual 108, 3) := by decide +kernel
theorem dX6_access_71 : decode cX6_access 71 = .ok (.ifCond .eq 16, 3) := by decide +kernel
theorem dX6_access_74 : decode cX6_access 74 = .ok (.iload 6, 2) := by decide +kernel
theorem dX6_access_76 : decode cX6_access 76 = .ok (.ifCond .eq 7, 3) := by decide +kernel
theorem dX6_access_79 : decode cX6_access 79 = .ok (.iconst 1, 1) := by decide +kernel
theorem dX6_access_80 : decode cX6_access 80 = .ok (.goto 24, 3) := by decide +kernel
theorem dX6_access_83 : decode cX6_access 83 = .ok (.iconst 0, 1) := by decide +kernel
theorem dX6_access_84 : decode cX6_access 84 = .ok (.goto 20, 3) := by decide +kernel
theorem dX6_access_87 : decode cX6_access 87 = .ok (.iload 6, 2) := by decide +kernel
theorem dX6_access_89 : decode cX6_access 89 = .ok (.iconst 1, 1) := by decide +kernel
theorem dX6_access_90 : decode cX6_access 90 = .ok (.iload 4, 2) := by decide +kernel
theorem dX6_access_92 : decode cX6_access 92 = .ok (.ishl, 1) := by decide +kernel
theorem dX6_access_93 : decode cX6_access 93 = .ok (.iconst (-1), 1) := by decide +kernel
theorem dX6_access_94 : decode cX6_access 94 = .ok (.ixor, 1) := by decide +kernel
theorem dX6_access_95 : decode cX6_access 95 = .ok (.iand, 1) := by decide +kernel
theorem dX6_access_96 : decode cX6_access 96 = .ok (.ifCond .eq 7, 3) := by decide +kernel
theorem dX6_access_99 : decode cX6_access 99 = .ok (.iconst 1, 1) := by decide +kernel
theorem dX6_access_100 : decode cX6_access 100 = .ok (.goto 4, 3) := by decide +kernel
theorem dX6_access_103 : decode cX6_access 103 = .ok (.iconst 0, 1) := by decide +kernel
theorem dX6_access_104 : decode cX6_access 104 = .ok (.istore 7, 2) := by decide +kernel
theorem dX6_access_106 : decode cX6_access 106 = .ok (.iload 5, 2) := by decide +kernel
theorem dX6_access_108 : decode cX6_access 108 = .ok (.ifCond .ne 17, 3) := by decide +kernel
theorem dX6_access_111 : decode cX6_access 111 = .ok (.iload_n 3, 1) := by decide +kernel
theorem dX6_access_112 : decode cX6_access 112 = .ok (.iconst 2, 1) := by decide +kernel
theorem dX6_access_113 : decode cX6_access 113 = .ok (.if_icmp .ne 12, 3) := by decide +kernel
theorem dX6_access_116 : decode cX6_access 116 = .ok (.iload 7, 2) := by decide +kernel
theorem dX6_access_118 : decode cX6_access 118 = .ok (.ifCond .eq 7, 3) := by decide +kernel
theorem dX6_access_121 : decode cX6_access 121 = .ok (.bipush (-12), 2) := by decide +kernel
theorem dX6_access_123 : decode cX6_access 123 = .ok (.istore 5, 2) := by decide +kernel
theorem dX6_access_125 : decode cX6_access 125 = .ok (.iload 5, 2) := by decide +kernel
theorem dX6_access_127 : decode cX6_access 127 = .ok (.ifCond .eq 17, 3) := by decide +kernel
theorem dX6_access_130 : decode cX6_access 130 = .ok (.aload_n 0, 1) := by decide +kernel
theorem dX6_access_131 : decode cX6_access 131 = .ok (.iload_n 1, 1) := by decide +kernel
theorem dX6_access_132 : decode cX6_access 132 = .ok (.iload 4, 2) := by decide +kernel
theorem dX6_access_134 : decode cX6_access 134 = .ok (.invokevirtual 122, 3) := by decide +kernel
theorem dX6_access_137 : decode cX6_access 137 = .ok (.ifCond .eq 7, 3) := by decide +kernel
theorem dX6_access_140 : decode cX6_access 140 = .ok (.iconst 1, 1) := by decide +kernel
theorem dX6_access_141 : decode cX6_access 141 = .ok (.goto 4, 3) := by decide +kernel
theorem dX6_access_144 : decode cX6_access 144 = .ok (.iconst 0, 1) := by decide +kernel
theorem dX6_access_145 : decode cX6_access 145 = .ok (.istore 8, 2) := by decide +kernel
theorem dX6_access_147 : decode cX6_access 147 = .ok (.iload 5, 2) := by decide +kernel
theorem dX6_access_149 : decode cX6_access 149 = .ok (.ifCond .eq 11, 3) := by decide +kernel
theorem dX6_access_152 : decode cX6_access 152 = .ok (.iload 8, 2) := by decide +kernel
theorem dX6_access_154 : decode cX6_access 154 = .ok (.ifCond .ne 6, 3) := by decide +kernel
theorem dX6_access_157 : decode cX6_access 157 = .ok (.iload 5, 2) := by decide +kernel
theorem dX6_access_159 : decode cX6_access 159 = .ok (.ireturn, 1) := by decide +kernel
theorem dX6_access_160 : decode cX6_access 160 = .ok (.aload_n 0, 1) := by decide +kernel
theorem dX6_access_161 : decode cX6_access 161 = .ok (.getfield 101, 3) := by decide +kernel
theorem dX6_access_164 : decode cX6_access 164 = .ok (.sipush 240, 3) := by decide +kernel
theorem dX6_access_167 : decode cX6_access 167 = .ok (.if_icmp .ne 6, 3) := by decide +kernel
theorem dX6_access_170 : decode cX6_access 170 = .ok (.bipush (-3), 2) := by decide +kernel
theorem dX6_access_172 : decode cX6_access 172 = .ok (.ireturn, 1) := by decide +kernel
theorem dX6_access_173 : decode cX6_access 173 = .ok (.iload 8, 2) := by decide +kernel
theorem dX6_access_175 : decode cX6_access 175 = .ok (.ifCond .eq 19, 3) := by decide +kernel
theorem dX6_access_178 : decode cX6_access 178 = .ok (.aload_n 0, 1) := by decide +kernel
theorem dX6_access_179 : decode cX6_access 179 = .ok (.getfield 16, 3) := by decide +kernel
theorem dX6_access_182 : decode cX6_access 182 = .ok (.iload_n 1, 1) := by decide +kernel
theorem dX6_access_183 : decode cX6_access 183 = .ok (.dup2, 1) := by decide +kernel
theorem dX6_access_184 : decode cX6_access 184 = .ok (.iaload, 1) := by decide +kernel
theorem dX6_access_185 : decode cX6_access 185 = .ok (.iconst 1, 1) := by decide +kernel
theorem dX6_access_186 : decode cX6_access 186 = .ok (.iload 4, 2) := by decide +kernel
theorem dX6_access_188 : decode cX6_access 188 = .ok (.ishl, 1) := by decide +kernel
theorem dX6_access_189 : decode cX6_access 189 = .ok (.ior, 1) := by decide +kernel
theorem dX6_access_190 : decode cX6_access 190 = .ok (.iastore, 1) := by decide +kernel
theorem dX6_access_191 : decode cX6_access 191 = .ok (.goto 25, 3) := by decide +kernel
theorem dX6_access_194 : decode cX6_access 194 = .ok (.aload_n 0, 1) := by decide +kernel
theorem dX6_access_195 : decode cX6_access 195 = .ok (.iload 4, 2) := by decide +kernel
theorem dX6_access_197 : decode cX6_access 197 = .ok (.invokevirtual 108, 3) := by decide +kernel
theorem dX6_access_200 : decode cX6_access 200 = .ok (.ifCond .ne 16, 3) := by decide +kernel
theorem dX6_access_203 : decode cX6_access 203 = .ok (.aload_n 0, 1) := by decide +kernel
theorem dX6_access_204 : decode cX6_access 204 = .ok (.getfield 13, 3) := by decide +kernel
theorem dX6_access_207 : decode cX6_access 207 = .ok (.iload_n 1, 1) := by decide +kernel
theorem dX6_access_208 : decode cX6_access 208 = .ok (.dup2, 1) := by decide +kernel
theorem dX6_access_209 : decode cX6_access 209 = .ok (.iaload, 1) := by decide +kernel
theorem dX6_access_210 : decode cX6_access 210 = .ok (.iconst 1, 1) := by decide +kernel
theorem dX6_access_211 : decode cX6_access 211 = .ok (.iload 4, 2) := by decide +kernel
theorem dX6_access_213 : decode cX6_access 213 = .ok (.ishl, 1) := by decide +kernel
theorem dX6_access_214 : decode cX6_access 214 = .ok (.ior, 1) := by decide +kernel
theorem dX6_access_215 : decode cX6_access 215 = .ok (.iastore, 1) := by decide +kernel
theorem dX6_access_216 : decode cX6_access 216 = .ok (.aload_n 0, 1) := by decide +kernel
theorem dX6_access_217 : decode cX6_access 217 = .ok (.iload_n 3, 1) := by decide +kernel
theorem dX6_access_218 : decode cX6_access 218 = .ok (.iload_n 1, 1) := by decide +kernel
theorem dX6_access_219 : decode cX6_access 219 = .ok (.iload_n 2, 1) := by decide +kernel
theorem dX6_access_220 : decode cX6_access 220 = .ok (.iload 8, 2) := by decide +kernel
theorem dX6_access_222 : decode cX6_access 222 = .ok (.ifCond .eq 7, 3) := by decide +kernel
theorem dX6_access_225 : decode cX6_access 225 = .ok (.iconst 1, 1) := by decide +kernel
theorem dX6_access_226 : decode cX6_access 226 = .ok (.goto 4, 3) := by decide +kernel
theorem dX6_access_229 : decode cX6_access 229 = .ok (.iconst 0, 1) := by decide +kernel
theorem dX6_access_230 : decode cX6_access 230 = .ok (.invokevirtual 125, 3) := by decide +kernel
theorem dX6_access_233 : decode cX6_access 233 = .ok (.iload 8, 2) := by decide +kernel
theorem dX6_access_235 : decode cX6_access 235 = .ok (.ifCond .eq 7, 3) := by decide +kernel
theorem dX6_access_238 : decode cX6_access 238 = .ok (.iconst 1, 1) := by decide +kernel
theorem dX6_access_239 : decode cX6_access 239 = .ok (.goto 4, 3) := by decide +kernel
theorem dX6_access_242 : decode cX6_access 242 = .ok (.iconst 0, 1) := by decide +kernel
theorem dX6_access_243 : decode cX6_access 243 = .ok (.ireturn, 1) := by decide +kernel
theorem dX6_duties_0 : decode cX6_duties 0 = .ok (.iconst 0, 1) := by decide +kernel
theorem dX6_duties_1 : decode cX6_duties 1 = .ok (.istore_n 2, 1) := by decide +kernel
theorem dX6_duties_2 : decode cX6_duties 2 = .ok (.iconst 0, 1) := by decide +kernel
theorem dX6_duties_3 : decode cX6_duties 3 = .ok (.istore_n 3, 1) := by decide +kernel
theorem dX6_duties_4 : decode cX6_duties 4 = .ok (.iload_n 3, 1) := by decide +kernel
theorem dX6_duties_5 : decode cX6_duties 5 = .ok (.aload_n 0, 1) := by decide +kernel
theorem dX6_duties_6 : decode cX6_duties 6 = .ok (.getfield 111, 3) := by decide +kernel
theorem dX6_duties_9 : decode cX6_duties 9 = .ok (.if_icmp .ge 36, 3) := by decide +kernel
theorem dX6_duties_12 : decode cX6_duties 12 = .ok (.aload_n 0, 1) := by decide +kernel
theorem dX6_duties_13 : decode cX6_duties 13 = .ok (.getfield 25, 3) := by decide +kernel
theorem dX6_duties_16 : decode cX6_duties 16 = .ok (.iload_n 3, 1) := by decide +kernel
theorem dX6_duties_17 : decode cX6_duties 17 = .ok (.iaload, 1) := by decide +kernel
theorem dX6_duties_18 : decode cX6_duties 18 = .ok (.iload_n 1, 1) := by decide +kernel
theorem dX6_duties_19 : decode cX6_duties 19 = .ok (.if_icmp .ne 18, 3) := by decide +kernel
theorem dX6_duties_22 : decode cX6_duties 22 = .ok (.aload_n 0, 1) := by decide +kernel
theorem dX6_duties_23 : decode cX6_duties 23 = .ok (.getfield 34, 3) := by decide +kernel
theorem dX6_duties_26 : decode cX6_duties 26 = .ok (.iload_n 3, 1) := by decide +kernel
theorem dX6_duties_27 : decode cX6_duties 27 = .ok (.baload, 1) := by decide +kernel
theorem dX6_duties_28 : decode cX6_duties 28 = .ok (.ifCond .eq 9, 3) := by decide +kernel
theorem dX6_duties_31 : decode cX6_duties 31 = .ok (.iload_n 2, 1) := by decide +kernel
theorem dX6_duties_32 : decode cX6_duties 32 = .ok (.iconst 1, 1) := by decide +kernel
theorem dX6_duties_33 : decode cX6_duties 33 = .ok (.iadd, 1) := by decide +kernel
theorem dX6_duties_34 : decode cX6_duties 34 = .ok (.goto 4, 3) := by decide +kernel
theorem dX6_duties_37 : decode cX6_duties 37 = .ok (.iload_n 2, 1) := by decide +kernel
theorem dX6_duties_38 : decode cX6_duties 38 = .ok (.istore_n 2, 1) := by decide +kernel
theorem dX6_duties_39 : decode cX6_duties 39 = .ok (.iinc 3 1, 3) := by decide +kernel
theorem dX6_duties_42 : decode cX6_duties 42 = .ok (.goto (-38), 3) := by decide +kernel
theorem dX6_duties_45 : decode cX6_duties 45 = .ok (.iload_n 2, 1) := by decide +kernel
theorem dX6_duties_46 : decode cX6_duties 46 = .ok (.ireturn, 1) := by decide +kernel
theorem dX6_isLate_0 : decode cX6_isLate 0 = .ok (.iconst 0, 1) := by decide +kernel
theorem dX6_isLate_1 : decode cX6_isLate 1 = .ok (.istore_n 2, 1) := by decide +kernel
theorem dX6_isLate_2 : decode cX6_isLate 2 = .ok (.iload_n 2, 1) := by decide +kernel
theorem dX6_isLate_3 : decode cX6_isLate 3 = .ok (.aload_n 0, 1) := by decide +kernel
theorem dX6_isLate_4 : decode cX6_isLate 4 = .ok (.getfield 111, 3) := by decide +kernel
theorem dX6_isLate_7 : decode cX6_isLate 7 = .ok (.if_icmp .ge 46, 3) := by decide +kernel
theorem dX6_isLate_10 : decode cX6_isLate 10 = .ok (.aload_n 0, 1) := by decide +kernel
theorem dX6_isLate_11 : decode cX6_isLate 11 = .ok (.getfield 25, 3) := by decide +kernel
theorem dX6_isLate_14 : decode cX6_isLate 14 = .ok (.iload_n 2, 1) := by decide +kernel
theorem dX6_isLate_15 : decode cX6_isLate 15 = .ok (.iaload, 1) := by decide +kernel
theorem dX6_isLate_16 : decode cX6_isLate 16 = .ok (.iload_n 1, 1) := by decide +kernel
theorem dX6_isLate_17 : decode cX6_isLate 17 = .ok (.if_icmp .ne 30, 3) := by decide +kernel
theorem dX6_isLate_20 : decode cX6_isLate 20 = .ok (.aload_n 0, 1) := by decide +kernel
theorem dX6_isLate_21 : decode cX6_isLate 21 = .ok (.getfield 34, 3) := by decide +kernel
theorem dX6_isLate_24 : decode cX6_isLate 24 = .ok (.iload_n 2, 1) := by decide +kernel
theorem dX6_isLate_25 : decode cX6_isLate 25 = .ok (.baload, 1) := by decide +kernel
theorem dX6_isLate_26 : decode cX6_isLate 26 = .ok (.ifCond .eq 21, 3) := by decide +kernel
theorem dX6_isLate_29 : decode cX6_isLate 29 = .ok (.aload_n 0, 1) := by decide +kernel
theorem dX6_isLate_30 : decode cX6_isLate 30 = .ok (.getfield 72, 3) := by decide +kernel
theorem dX6_isLate_33 : decode cX6_isLate 33 = .ok (.aload_n 0, 1) := by decide +kernel
theorem dX6_isLate_34 : decode cX6_isLate 34 = .ok (.getfield 31, 3) := by decide +kernel
theorem dX6_isLate_37 : decode cX6_isLate 37 = .ok (.iload_n 2, 1) := by decide +kernel
theorem dX6_isLate_38 : decode cX6_isLate 38 = .ok (.iaload, 1) := by decide +kernel
theorem dX6_isLate_39 : decode cX6_isLate 39 = .ok (.bipush 100, 2) := by decide +kernel
theorem dX6_isLate_41 : decode cX6_isLate 41 = .ok (.iadd, 1) := by decide +kernel
theorem dX6_isLate_42 : decode cX6_isLate 42 = .ok (.if_icmp .lt 5, 3) := by decide +kernel
theorem dX6_isLate_45 : decode cX6_isLate 45 = .ok (.iconst 1, 1) := by decide +kernel
theorem dX6_isLate_46 : decode cX6_isLate 46 = .ok (.ireturn, 1) := by decide +kernel
theorem dX6_isLate_47 : decode cX6_isLate 47 = .ok (.iinc 2 1, 3) := by decide +kernel
theorem dX6_isLate_50 : decode cX6_isLate 50 = .ok (.goto (-48), 3) := by decide +kernel
theorem dX6_isLate_53 : decode cX6_isLate 53 = .ok (.iconst 0, 1) := by decide +kernel
theorem dX6_isLate_54 : decode cX6_isLate 54 = .ok (.ireturn, 1) := by decide +kernel
theorem dX6_glass_0 : decode cX6_glass 0 = .ok (.iload_n 1, 1) := by decide +kernel
theorem dX6_glass_1 : decode cX6_glass 1 = .ok (.invokestatic 81, 3) := by decide +kernel
theorem dX6_glass_4 : decode cX6_glass 4 = .ok (.ifCond .eq 27, 3) := by decide +kernel
theorem dX6_glass_7 : decode cX6_glass 7 = .ok (.iload_n 2, 1) := by decide +kernel
theorem dX6_glass_8 : decode cX6_glass 8 = .ok (.iconst 0, 1) := by decide +kernel
theorem dX6_glass_9 : decode cX6_glass 9 = .ok (.aload_n 0, 1) := by decide +kernel
theorem dX6_glass_10 : decode cX6_glass 10 = .ok (.getfield 85, 3) := by decide +kernel
theorem dX6_glass_13 : decode cX6_glass 13 = .ok (.iconst 1, 1) := by decide +kernel
theorem dX6_glass_14 : decode cX6_glass 14 = .ok (.isub, 1) := by decide +kernel
theorem dX6_glass_15 : decode cX6_glass 15 = .ok (.invokestatic 76, 3) := by decide +kernel
theorem dX6_glass_18 : decode cX6_glass 18 = .ok (.ifCond .eq 13, 3) := by decide +kernel
theorem dX6_glass_21 : decode cX6_glass 21 = .ok (.iload_n 3, 1) := by decide +kernel
theorem dX6_glass_22 : decode cX6_glass 22 = .ok (.iconst 1, 1) := by decide +kernel
theorem dX6_glass_23 : decode cX6_glass 23 = .ok (.bipush 100, 2) := by decide +kernel
theorem dX6_glass_25 : decode cX6_glass 25 = .ok (.invokestatic 76, 3) := by decide +kernel
theorem dX6_glass_28 : decode cX6_glass 28 = .ok (.ifCond .ne 6, 3) := by decide +kernel
theorem dX6_glass_31 : decode cX6_glass 31 = .ok (.bipush (-2), 2) := by decide +kernel
theorem dX6_glass_33 : decode cX6_glass 33 = .ok (.ireturn, 1) := by decide +kernel
theorem dX6_glass_34 : decode cX6_glass 34 = .ok (.aload_n 0, 1) := by decide +kernel
theorem dX6_glass_35 : decode cX6_glass 35 = .ok (.iload_n 1, 1) := by decide +kernel
theorem dX6_glass_36 : decode cX6_glass 36 = .ok (.iload_n 2, 1) := by decide +kernel
theorem dX6_glass_37 : decode cX6_glass 37 = .ok (.invokevirtual 118, 3) := by decide +kernel
theorem dX6_glass_40 : decode cX6_glass 40 = .ok (.ifCond .ne 6, 3) := by decide +kernel
theorem dX6_glass_43 : decode cX6_glass 43 = .ok (.bipush (-13), 2) := by decide +kernel
theorem dX6_glass_45 : decode cX6_glass 45 = .ok (.ireturn, 1) := by decide +kernel
theorem dX6_glass_46 : decode cX6_glass 46 = .ok (.aload_n 0, 1) := by decide +kernel
theorem dX6_glass_47 : decode cX6_glass 47 = .ok (.iload_n 1, 1) := by decide +kernel
theorem dX6_glass_48 : decode cX6_glass 48 = .ok (.iload_n 2, 1) := by decide +kernel
theorem dX6_glass_49 : decode cX6_glass 49 = .ok (.invokevirtual 122, 3) := by decide +kernel
theorem dX6_glass_52 : decode cX6_glass 52 = .ok (.ifCond .eq 6, 3) := by decide +kernel
theorem dX6_glass_55 : decode cX6_glass 55 = .ok (.bipush (-14), 2) := by decide +kernel
theorem dX6_glass_57 : decode cX6_glass 57 = .ok (.ireturn, 1) := by decide +kernel
theorem dX6_glass_58 : decode cX6_glass 58 = .ok (.aload_n 0, 1) := by decide +kernel
theorem dX6_glass_59 : decode cX6_glass 59 = .ok (.iload_n 1, 1) := by decide +kernel
theorem dX6_glass_60 : decode cX6_glass 60 = .ok (.invokevirtual 129, 3) := by decide +kernel
theorem dX6_glass_63 : decode cX6_glass 63 = .ok (.iconst 3, 1) := by decide +kernel
theorem dX6_glass_64 : decode cX6_glass 64 = .ok (.if_icmp .ge 11, 3) := by decide +kernel
theorem dX6_glass_67 : decode cX6_glass 67 = .ok (.aload_n 0, 1) := by decide +kernel
theorem dX6_glass_68 : decode cX6_glass 68 = .ok (.iload_n 1, 1) := by decide +kernel
theorem dX6_glass_69 : decode cX6_glass 69 = .ok (.invokevirtual 133, 3) := by decide +kernel
theorem dX6_glass_72 : decode cX6_glass 72 = .ok (.ifCond .eq 6, 3) := by decide +kernel
theorem dX6_glass_75 : decode cX6_glass 75 = .ok (.bipush (-15), 2) := by decide +kernel
theorem dX6_glass_77 : decode cX6_glass 77 = .ok (.ireturn, 1) := by decide +kernel
theorem dX6_glass_78 : decode cX6_glass 78 = .ok (.aload_n 0, 1) := by decide +kernel
theorem dX6_glass_79 : decode cX6_glass 79 = .ok (.getfield 111, 3) := by decide +kernel
theorem dX6_glass_82 : decode cX6_glass 82 = .ok (.bipush 40, 2) := by decide +kernel
theorem dX6_glass_84 : decode cX6_glass 84 = .ok (.if_icmp .eq 13, 3) := by decide +kernel
theorem dX6_glass_87 : decode cX6_glass 87 = .ok (.aload_n 0, 1) := by decide +kernel
theorem dX6_glass_88 : decode cX6_glass 88 = .ok (.getfield 101, 3) := by decide +kernel
theorem dX6_glass_91 : decode cX6_glass 91 = .ok (.sipush 240, 3) := by decide +kernel
theorem dX6_glass_94 : decode cX6_glass 94 = .ok (.if_icmp .ne 6, 3) := by decide +kernel
theorem dX6_glass_97 : decode cX6_glass 97 = .ok (.bipush (-3), 2) := by decide +kernel
theorem dX6_glass_99 : decode cX6_glass 99 = .ok (.ireturn, 1) := by decide +kernel
theorem dX6_glass_100 : decode cX6_glass 100 = .ok (.aload_n 0, 1) := by decide +kernel
theorem dX6_glass_101 : decode cX6_glass 101 = .ok (.getfield 25, 3) := by decide +kernel
theorem dX6_glass_104 : decode cX6_glass 104 = .ok (.aload_n 0, 1) := by decide +kernel
theorem dX6_glass_105 : decode cX6_glass 105 = .ok (.getfield 111, 3) := by decide +kernel
theorem dX6_glass_108 : decode cX6_glass 108 = .ok (.iload_n 1, 1) := by decide +kernel
theorem dX6_glass_109 : decode cX6_glass 109 = .ok (.iastore, 1) := by decide +kernel
theorem dX6_glass_110 : decode cX6_glass 110 = .ok (.aload_n 0, 1) := by decide +kernel
theorem dX6_glass_111 : decode cX6_glass 111 = .ok (.getfield 28, 3) := by decide +kernel
theorem dX6_glass_114 : decode cX6_glass 114 = .ok (.aload_n 0, 1) := by decide +kernel
theorem dX6_glass_115 : decode cX6_glass 115 = .ok (.getfield 111, 3) := by decide +kernel
theorem dX6_glass_118 : decode cX6_glass 118 = .ok (.iload_n 2, 1) := by decide +kernel
theorem dX6_glass_119 : decode cX6_glass 119 = .ok (.iastore, 1) := by decide +kernel
theorem dX6_glass_120 : decode cX6_glass 120 = .ok (.aload_n 0, 1) := by decide +kernel
theorem dX6_glass_121 : decode cX6_glass 121 = .ok (.getfield 31, 3) := by decide +kernel
theorem dX6_glass_124 : decode cX6_glass 124 = .ok (.aload_n 0, 1) := by decide +kernel
theorem dX6_glass_125 : decode cX6_glass 125 = .ok (.getfield 111, 3) := by decide +kernel
theorem dX6_glass_128 : decode cX6_glass 128 = .ok (.aload_n 0, 1) := by decide +kernel
theorem dX6_glass_129 : decode cX6_glass 129 = .ok (.getfield 72, 3) := by decide +kernel
theorem dX6_glass_132 : decode cX6_glass 132 = .ok (.iload_n 3, 1) := by decide +kernel
theorem dX6_glass_133 : decode cX6_glass 133 = .ok (.iadd, 1) := by decide +kernel
theorem dX6_glass_134 : decode cX6_glass 134 = .ok (.iastore, 1) := by decide +kernel
theorem dX6_glass_135 : decode cX6_glass 135 = .ok (.aload_n 0, 1) := by decide +kernel
theorem dX6_glass_136 : decode cX6_glass 136 = .ok (.getfield 34, 3) := by decide +kernel
theorem dX6_glass_139 : decode cX6_glass 139 = .ok (.aload_n 0, 1) := by decide +kernel
theorem dX6_glass_140 : decode cX6_glass 140 = .ok (.getfield 111, 3) := by decide +kernel
theorem dX6_glass_143 : decode cX6_glass 143 = .ok (.iconst 1, 1) := by decide +kernel
theorem dX6_glass_144 : decode cX6_glass 144 = .ok (.bastore, 1) := by decide +kernel
theorem dX6_glass_145 : decode cX6_glass 145 = .ok (.aload_n 0, 1) := by decide +kernel
theorem dX6_glass_146 : decode cX6_glass 146 = .ok (.iconst 3, 1) := by decide +kernel
theorem dX6_glass_147 : decode cX6_glass 147 = .ok (.iload_n 1, 1) := by decide +kernel
theorem dX6_glass_148 : decode cX6_glass 148 = .ok (.aload_n 0, 1) := by decide +kernel
theorem dX6_glass_149 : decode cX6_glass 149 = .ok (.getfield 111, 3) := by decide +kernel
theorem dX6_glass_152 : decode cX6_glass 152 = .ok (.iload_n 2, 1) := by decide +kernel
theorem dX6_glass_153 : decode cX6_glass 153 = .ok (.invokevirtual 125, 3) := by decide +kernel
theorem dX6_glass_156 : decode cX6_glass 156 = .ok (.aload_n 0, 1) := by decide +kernel
theorem dX6_glass_157 : decode cX6_glass 157 = .ok (.dup, 1) := by decide +kernel
theorem dX6_glass_158 : decode cX6_glass 158 = .ok (.getfield 111, 3) := by decide +kernel
theorem dX6_glass_161 : decode cX6_glass 161 = .ok (.iconst 1, 1) := by decide +kernel
theorem dX6_glass_162 : decode cX6_glass 162 = .ok (.iadd, 1) := by decide +kernel
theorem dX6_glass_163 : decode cX6_glass 163 = .ok (.putfield 111, 3) := by decide +kernel
theorem dX6_glass_166 : decode cX6_glass 166 = .ok (.aload_n 0, 1) := by decide +kernel
theorem dX6_glass_167 : decode cX6_glass 167 = .ok (.getfield 111, 3) := by decide +kernel
theorem dX6_glass_170 : decode cX6_glass 170 = .ok (.iconst 1, 1) := by decide +kernel
theorem dX6_glass_171 : decode cX6_glass 171 = .ok (.isub, 1) := by decide +kernel
theorem dX6_glass_172 : decode cX6_glass 172 = .ok (.ireturn, 1) := by decide +kernel
theorem dX6_takeOff_0 : decode cX6_takeOff 0 = .ok (.iload_n 1, 1) := by decide +kernel
theorem dX6_takeOff_1 : decode cX6_takeOff 1 = .ok (.iconst 0, 1) := by decide +kernel
theorem dX6_takeOff_2 : decode cX6_takeOff 2 = .ok (.aload_n 0, 1) := by decide +kernel
theorem dX6_takeOff_3 : decode cX6_takeOff 3 = .ok (.getfield 111, 3) := by decide +kernel
theorem dX6_takeOff_6 : decode cX6_takeOff 6 = .ok (.iconst 1, 1) := by decide +kernel
theorem dX6_takeOff_7 : decode cX6_takeOff 7 = .ok (.isub, 1) := by decide +kernel
theorem dX6_takeOff_8 : decode cX6_takeOff 8 = .ok (.invokestatic 76, 3) := by decide +kernel
theorem dX6_takeOff_11 : decode cX6_takeOff 11 = .ok (.ifCond .eq 19, 3) := by decide +kernel
theorem dX6_takeOff_14 : decode cX6_takeOff 14 = .ok (.iload_n 2, 1) := by decide +kernel
theorem dX6_takeOff_15 : decode cX6_takeOff 15 = .ok (.invokestatic 81, 3) := by decide +kernel
theorem dX6_takeOff_18 : decode cX6_takeOff 18 = .ok (.ifCond .eq 12, 3) := by decide +kernel
theorem dX6_takeOff_21 : decode cX6_takeOff 21 = .ok (.aload_n 0, 1) := by decide +kernel
theorem dX6_takeOff_22 : decode cX6_takeOff 22 = .ok (.getfield 34, 3) := by decide +kernel
theorem dX6_takeOff_25 : decode cX6_takeOff 25 = .ok (.iload_n 1, 1) := by decide +kernel
theorem dX6_takeOff_26 : decode cX6_takeOff 26 = .ok (.baload, 1) := by decide +kernel
theorem dX6_takeOff_27 : decode cX6_takeOff 27 = .ok (.ifCond .ne 6, 3) := by decide +kernel
theorem dX6_takeOff_30 : decode cX6_takeOff 30 = .ok (.bipush (-2), 2) := by decide +kernel
theorem dX6_takeOff_32 : decode cX6_takeOff 32 = .ok (.ireturn, 1) := by decide +kernel
theorem dX6_takeOff_33 : decode cX6_takeOff 33 = .ok (.aload_n 0, 1) := by decide +kernel
theorem dX6_takeOff_34 : decode cX6_takeOff 34 = .ok (.getfield 7, 3) := by decide +kernel
theorem dX6_takeOff_37 : decode cX6_takeOff 37 = .ok (.iload_n 2, 1) := by decide +kernel
theorem dX6_takeOff_38 : decode cX6_takeOff 38 = .ok (.iaload, 1) := by decide +kernel
theorem dX6_takeOff_39 : decode cX6_takeOff 39 = .ok (.bipush 7, 2) := by decide +kernel
theorem dX6_takeOff_41 : decode cX6_takeOff 41 = .ok (.ishr, 1) := by decide +kernel
theorem dX6_takeOff_42 : decode cX6_takeOff 42 = .ok (.iconst 1, 1) := by decide +kernel
theorem dX6_takeOff_43 : decode cX6_takeOff 43 = .ok (.iand, 1) := by decide +kernel
theorem dX6_takeOff_44 : decode cX6_takeOff 44 = .ok (.ifCond .ne 6, 3) := by decide +kernel
theorem dX6_takeOff_47 : decode cX6_takeOff 47 = .ok (.bipush (-18), 2) := by decide +kernel
theorem dX6_takeOff_49 : decode cX6_takeOff 49 = .ok (.ireturn, 1) := by decide +kernel
theorem dX6_takeOff_50 : decode cX6_takeOff 50 = .ok (.aload_n 0, 1) := by decide +kernel
theorem dX6_takeOff_51 : decode cX6_takeOff 51 = .ok (.getfield 25, 3) := by decide +kernel
theorem dX6_takeOff_54 : decode cX6_takeOff 54 = .ok (.iload_n 1, 1) := by decide +kernel
theorem dX6_takeOff_55 : decode cX6_takeOff 55 = .ok (.iaload, 1) := by decide +kernel
theorem dX6_takeOff_56 : decode cX6_takeOff 56 = .ok (.iload_n 2, 1) := by decide +kernel
theorem dX6_takeOff_57 : decode cX6_takeOff 57 = .ok (.if_icmp .ne 6, 3) := by decide +kernel
theorem dX6_takeOff_60 : decode cX6_takeOff 60 = .ok (.bipush (-19), 2) := by decide +kernel
theorem dX6_takeOff_62 : decode cX6_takeOff 62 = .ok (.ireturn, 1) := by decide +kernel
theorem dX6_takeOff_63 : decode cX6_takeOff 63 = .ok (.aload_n 0, 1) := by decide +kernel
theorem dX6_takeOff_64 : decode cX6_takeOff 64 = .ok (.getfield 101, 3) := by decide +kernel
theorem dX6_takeOff_67 : decode cX6_takeOff 67 = .ok (.sipush 240, 3) := by decide +kernel
theorem dX6_takeOff_70 : decode cX6_takeOff 70 = .ok (.if_icmp .ne 6, 3) := by decide +kernel
theorem dX6_takeOff_73 : decode cX6_takeOff 73 = .ok (.bipush (-3), 2) := by decide +kernel
theorem dX6_takeOff_75 : decode cX6_takeOff 75 = .ok (.ireturn, 1) := by decide +kernel
theorem dX6_takeOff_76 : decode cX6_takeOff 76 = .ok (.aload_n 0, 1) := by decide +kernel
theorem dX6_takeOff_77 : decode cX6_takeOff 77 = .ok (.getfield 34, 3) := by decide +kernel
theorem dX6_takeOff_80 : decode cX6_takeOff 80 = .ok (.iload_n 1, 1) := by decide +kernel
theorem dX6_takeOff_81 : decode cX6_takeOff 81 = .ok (.iconst 0, 1) := by decide +kernel
theorem dX6_takeOff_82 : decode cX6_takeOff 82 = .ok (.bastore, 1) := by decide +kernel
theorem dX6_takeOff_83 : decode cX6_takeOff 83 = .ok (.aload_n 0, 1) := by decide +kernel
theorem dX6_takeOff_84 : decode cX6_takeOff 84 = .ok (.iconst 4, 1) := by decide +kernel
theorem dX6_takeOff_85 : decode cX6_takeOff 85 = .ok (.iload_n 2, 1) := by decide +kernel
theorem dX6_takeOff_86 : decode cX6_takeOff 86 = .ok (.iload_n 1, 1) := by decide +kernel
theorem dX6_takeOff_87 : decode cX6_takeOff 87 = .ok (.iconst 0, 1) := by decide +kernel
theorem dX6_takeOff_88 : decode cX6_takeOff 88 = .ok (.invokevirtual 125, 3) := by decide +kernel
theorem dX6_takeOff_91 : decode cX6_takeOff 91 = .ok (.iconst 0, 1) := by decide +kernel
theorem dX6_takeOff_92 : decode cX6_takeOff 92 = .ok (.aload_n 0, 1) := by decide +kernel
theorem dX6_takeOff_93 : decode cX6_takeOff 93 = .ok (.getfield 31, 3) := by decide +kernel
theorem dX6_takeOff_96 : decode cX6_takeOff 96 = .ok (.iload_n 1, 1) := by decide +kernel
theorem dX6_takeOff_97 : decode cX6_takeOff 97 = .ok (.iaload, 1) := by decide +kernel
theorem dX6_takeOff_98 : decode cX6_takeOff 98 = .ok (.bipush 100, 2) := by decide +kernel
theorem dX6_takeOff_100 : decode cX6_takeOff 100 = .ok (.iadd, 1) := by decide +kernel
theorem dX6_takeOff_101 : decode cX6_takeOff 101 = .ok (.aload_n 0, 1) := by decide +kernel
theorem dX6_takeOff_102 : decode cX6_takeOff 102 = .ok (.getfield 72, 3) := by decide +kernel
theorem dX6_takeOff_105 : decode cX6_takeOff 105 = .ok (.isub, 1) := by decide +kernel
theorem dX6_takeOff_106 : decode cX6_takeOff 106 = .ok (.invokestatic 136, 3) := by decide +kernel
theorem dX6_takeOff_109 : decode cX6_takeOff 109 = .ok (.ireturn, 1) := by decide +kernel
theorem dX6_kind_0 : decode cX6_kind 0 = .ok (.aload_n 0, 1) := by decide +kernel
theorem dX6_kind_1 : decode cX6_kind 1 = .ok (.getfield 142, 3) := by decide +kernel
theorem dX6_kind_4 : decode cX6_kind 4 = .ok (.iconst 4, 1) := by decide +kernel
theorem dX6_kind_5 : decode cX6_kind 5 = .ok (.if_icmp .ne 6, 3) := by decide +kernel
theorem dX6_kind_8 : decode cX6_kind 8 = .ok (.bipush (-3), 2) := by decide +kernel
theorem dX6_kind_10 : decode cX6_kind 10 = .ok (.ireturn, 1) := by decide +kernel
theorem dX6_kind_11 : decode cX6_kind 11 = .ok (.aload_n 0, 1) := by decide +kernel
theorem dX6_kind_12 : decode cX6_kind 12 = .ok (.getfield 53, 3) := by decide +kernel
theorem dX6_kind_15 : decode cX6_kind 15 = .ok (.aload_n 0, 1) := by decide +kernel
theorem dX6_kind_16 : decode cX6_kind 16 = .ok (.getfield 142, 3) := by decide +kernel
theorem dX6_kind_19 : decode cX6_kind 19 = .ok (.bipush 6, 2) := by decide +kernel
theorem dX6_kind_21 : decode cX6_kind 21 = .ok (.iastore, 1) := by decide +kernel
theorem dX6_kind_22 : decode cX6_kind 22 = .ok (.aload_n 0, 1) := by decide +kernel
theorem dX6_kind_23 : decode cX6_kind 23 = .ok (.dup, 1) := by decide +kernel
theorem dX6_kind_24 : decode cX6_kind 24 = .ok (.getfield 142, 3) := by decide +kernel
theorem dX6_kind_27 : decode cX6_kind 27 = .ok (.iconst 1, 1) := by decide +kernel
theorem dX6_kind_28 : decode cX6_kind 28 = .ok (.iadd, 1) := by decide +kernel
theorem dX6_kind_29 : decode cX6_kind 29 = .ok (.putfield 142, 3) := by decide +kernel
theorem dX6_kind_32 : decode cX6_kind 32 = .ok (.aload_n 0, 1) := by decide +kernel
theorem dX6_kind_33 : decode cX6_kind 33 = .ok (.getfield 142, 3) := by decide +kernel
theorem dX6_kind_36 : decode cX6_kind 36 = .ok (.iconst 1, 1) := by decide +kernel
theorem dX6_kind_37 : decode cX6_kind 37 = .ok (.isub, 1) := by decide +kernel
theorem dX6_kind_38 : decode cX6_kind 38 = .ok (.ireturn, 1) := by decide +kernel
theorem dX6_isFree_0 : decode cX6_isFree 0 = .ok (.iload_n 1, 1) := by decide +kernel
theorem dX6_isFree_1 : decode cX6_isFree 1 = .ok (.iconst 0, 1) := by decide +kernel
theorem dX6_isFree_2 : decode cX6_isFree 2 = .ok (.aload_n 0, 1) := by decide +kernel
theorem dX6_isFree_3 : decode cX6_isFree 3 = .ok (.getfield 142, 3) := by decide +kernel
theorem dX6_isFree_6 : decode cX6_isFree 6 = .ok (.iconst 1, 1) := by decide +kernel
theorem dX6_isFree_7 : decode cX6_isFree 7 = .ok (.isub, 1) := by decide +kernel
theorem dX6_isFree_8 : decode cX6_isFree 8 = .ok (.invokestatic 76, 3) := by decide +kernel
theorem dX6_isFree_11 : decode cX6_isFree 11 = .ok (.ifCond .ne 5, 3) := by decide +kernel
theorem dX6_isFree_14 : decode cX6_isFree 14 = .ok (.iconst 0, 1) := by decide +kernel
theorem dX6_isFree_15 : decode cX6_isFree 15 = .ok (.ireturn, 1) := by decide +kernel
theorem dX6_isFree_16 : decode cX6_isFree 16 = .ok (.iconst 1, 1) := by decide +kernel
theorem dX6_isFree_17 : decode cX6_isFree 17 = .ok (.istore_n 2, 1) := by decide +kernel
theorem dX6_isFree_18 : decode cX6_isFree 18 = .ok (.iconst 0, 1) := by decide +kernel
theorem dX6_isFree_19 : decode cX6_isFree 19 = .ok (.istore_n 3, 1) := by decide +kernel
theorem dX6_isFree_20 : decode cX6_isFree 20 = .ok (.iload_n 3, 1) := by decide +kernel
theorem dX6_isFree_21 : decode cX6_isFree 21 = .ok (.aload_n 0, 1) := by decide +kernel
theorem dX6_isFree_22 : decode cX6_isFree 22 = .ok (.getfield 145, 3) := by decide +kernel
theorem dX6_isFree_25 : decode cX6_isFree 25 = .ok (.if_icmp .ge 29, 3) := by decide +kernel
theorem dX6_isFree_28 : decode cX6_isFree 28 = .ok (.iload_n 2, 1) := by decide +kernel
theorem dX6_isFree_29 : decode cX6_isFree 29 = .ok (.ifCond .eq 17, 3) := by decide +kernel
theorem dX6_isFree_32 : decode cX6_isFree 32 = .ok (.aload_n 0, 1) := by decide +kernel
theorem dX6_isFree_33 : decode cX6_isFree 33 = .ok (.getfield 56, 3) := by decide +kernel
theorem dX6_isFree_36 : decode cX6_isFree 36 = .ok (.iload_n 3, 1) := by decide +kernel
theorem dX6_isFree_37 : decode cX6_isFree 37 = .ok (.iaload, 1) := by decide +kernel
theorem dX6_isFree_38 : decode cX6_isFree 38 = .ok (.iload_n 1, 1) := by decide +kernel
theorem dX6_isFree_39 : decode cX6_isFree 39 = .ok (.if_icmp .eq 7, 3) := by decide +kernel
theorem dX6_isFree_42 : decode cX6_isFree 42 = .ok (.iconst 1, 1) := by decide +kernel
theorem dX6_isFree_43 : decode cX6_isFree 43 = .ok (.goto 4, 3) := by decide +kernel
theorem dX6_isFree_46 : decode cX6_isFree 46 = .ok (.iconst 0, 1) := by decide +kernel
theorem dX6_isFree_47 : decode cX6_isFree 47 = .ok (.istore_n 2, 1) := by decide +kernel
theorem dX6_isFree_48 : decode cX6_isFree 48 = .ok (.iinc 3 1, 3) := by decide +kernel
theorem dX6_isFree_51 : decode cX6_isFree 51 = .ok (.goto (-31), 3) := by decide +kernel
theorem dX6_isFree_54 : decode cX6_isFree 54 = .ok (.iload_n 2, 1) := by decide +kernel
theorem dX6_isFree_55 : decode cX6_isFree 55 = .ok (.ireturn, 1) := by decide +kernel
theorem dX6_task_0 : decode cX6_task 0 = .ok (.aload_n 0, 1) := by decide +kernel
theorem dX6_task_1 : decode cX6_task 1 = .ok (.iload_n 1, 1) := by decide +kernel
theorem dX6_task_2 : decode cX6_task 2 = .ok (.invokevirtual 148, 3) := by decide +kernel
theorem dX6_task_5 : decode cX6_task 5 = .ok (.ifCond .eq 29, 3) := by decide +kernel
theorem dX6_task_8 : decode cX6_task 8 = .ok (.iload_n 2, 1) := by decide +kernel
theorem dX6_task_9 : decode cX6_task 9 = .ok (.iconst 0, 1) := by decide +kernel
theorem dX6_task_10 : decode cX6_task 10 = .ok (.bipush 7, 2) := by decide +kernel
theorem dX6_task_12 : decode cX6_task 12 = .ok (.invokestatic 76, 3) := by decide +kernel
theorem dX6_task_15 : decode cX6_task 15 = .ok (.ifCond .eq 19, 3) := by decide +kernel
theorem dX6_task_18 : decode cX6_task 18 = .ok (.iload_n 3, 1) := by decide +kernel
theorem dX6_task_19 : decode cX6_task 19 = .ok (.ifCond .lt 15, 3) := by decide +kernel
theorem dX6_task_22 : decode cX6_task 22 = .ok (.iload_n 3, 1) := by decide +kernel
theorem dX6_task_23 : decode cX6_task 23 = .ok (.iconst 1, 1) := by decide +kernel
theorem dX6_task_24 : decode cX6_task 24 = .ok (.aload_n 0, 1) := by decide +kernel
theorem dX6_task_25 : decode cX6_task 25 = .ok (.getfield 38, 3) := by decide +kernel
theorem dX6_task_28 : decode cX6_task 28 = .ok (.iload_n 1, 1) := by decide +kernel
theorem dX6_task_29 : decode cX6_task 29 = .ok (.iaload, 1) := by decide +kernel
theorem dX6_task_30 : decode cX6_task 30 = .ok (.ishl, 1) := by decide +kernel
theorem dX6_task_31 : decode cX6_task 31 = .ok (.if_icmp .lt 6, 3) := by decide +kernel
theorem dX6_task_34 : decode cX6_task 34 = .ok (.bipush (-2), 2) := by decide +kernel
theorem dX6_task_36 : decode cX6_task 36 = .ok (.ireturn, 1) := by decide +kernel
theorem dX6_task_37 : decode cX6_task 37 = .ok (.aload_n 0, 1) := by decide +kernel
theorem dX6_task_38 : decode cX6_task 38 = .ok (.getfield 38, 3) := by decide +kernel
theorem dX6_task_41 : decode cX6_task 41 = .ok (.iload_n 1, 1) := by decide +kernel
theorem dX6_task_42 : decode cX6_task 42 = .ok (.iaload, 1) := by decide +kernel
theorem dX6_task_43 : decode cX6_task 43 = .ok (.bipush 6, 2) := by decide +kernel
theorem dX6_task_45 : decode cX6_task 45 = .ok (.if_icmp .ne 6, 3) := by decide +kernel
theorem dX6_task_48 : decode cX6_task 48 = .ok (.bipush (-3), 2) := by decide +kernel
theorem dX6_task_50 : decode cX6_task 50 = .ok (.ireturn, 1) := by decide +kernel
theorem dX6_task_51 : decode cX6_task 51 = .ok (.aload_n 0, 1) := by decide +kernel
theorem dX6_task_52 : decode cX6_task 52 = .ok (.getfield 38, 3) := by decide +kernel
theorem dX6_task_55 : decode cX6_task 55 = .ok (.iload_n 1, 1) := by decide +kernel
theorem dX6_task_56 : decode cX6_task 56 = .ok (.iaload, 1) := by decide +kernel
theorem dX6_task_57 : decode cX6_task 57 = .ok (.istore 4, 2) := by decide +kernel
theorem dX6_task_59 : decode cX6_task 59 = .ok (.aload_n 0, 1) := by decide +kernel
theorem dX6_task_60 : decode cX6_task 60 = .ok (.getfield 41, 3) := by decide +kernel
theorem dX6_task_63 : decode cX6_task 63 = .ok (.bipush 6, 2) := by decide +kernel
theorem dX6_task_65 : decode cX6_task 65 = .ok (.iload_n 1, 1) := by decide +kernel
theorem dX6_task_66 : decode cX6_task 66 = .ok (.imul, 1) := by decide +kernel
theorem dX6_task_67 : decode cX6_task 67 = .ok (.iload 4, 2) := by decide +kernel
theorem dX6_task_69 : decode cX6_task 69 = .ok (.iadd, 1) := by decide +kernel
theorem dX6_task_70 : decode cX6_task 70 = .ok (.iload_n 2, 1) := by decide +kernel
theorem dX6_task_71 : decode cX6_task 71 = .ok (.iastore, 1) := by decide +kernel
theorem dX6_task_72 : decode cX6_task 72 = .ok (.aload_n 0, 1) := by decide +kernel
theorem dX6_task_73 : decode cX6_task 73 = .ok (.getfield 44, 3) := by decide +kernel
theorem dX6_task_76 : decode cX6_task 76 = .ok (.bipush 6, 2) := by decide +kernel
theorem dX6_task_78 : decode cX6_task 78 = .ok (.iload_n 1, 1) := by decide +kernel
theorem dX6_task_79 : decode cX6_task 79 = .ok (.imul, 1) := by decide +kernel
theorem dX6_task_80 : decode cX6_task 80 = .ok (.iload 4, 2) := by decide +kernel
theorem dX6_task_82 : decode cX6_task 82 = .ok (.iadd, 1) := by decide +kernel
theorem dX6_task_83 : decode cX6_task 83 = .ok (.iload_n 3, 1) := by decide +kernel
theorem dX6_task_84 : decode cX6_task 84 = .ok (.iastore, 1) := by decide +kernel
theorem dX6_task_85 : decode cX6_task 85 = .ok (.aload_n 0, 1) := by decide +kernel
theorem dX6_task_86 : decode cX6_task 86 = .ok (.getfield 38, 3) := by decide +kernel
theorem dX6_task_89 : decode cX6_task 89 = .ok (.iload_n 1, 1) := by decide +kernel
theorem dX6_task_90 : decode cX6_task 90 = .ok (.dup2, 1) := by decide +kernel
theorem dX6_task_91 : decode cX6_task 91 = .ok (.iaload, 1) := by decide +kernel
theorem dX6_task_92 : decode cX6_task 92 = .ok (.iconst 1, 1) := by decide +kernel
theorem dX6_task_93 : decode cX6_task 93 = .ok (.iadd, 1) := by decide +kernel
theorem dX6_task_94 : decode cX6_task 94 = .ok (.iastore, 1) := by decide +kernel
theorem dX6_task_95 : decode cX6_task 95 = .ok (.iload 4, 2) := by decide +kernel
theorem dX6_task_97 : decode cX6_task 97 = .ok (.ireturn, 1) := by decide +kernel
theorem dX6_arePair_0 : decode cX6_arePair 0 = .ok (.aload_n 0, 1) := by decide +kernel
theorem dX6_arePair_1 : decode cX6_arePair 1 = .ok (.iload_n 1, 1) := by decide +kernel
theorem dX6_arePair_2 : decode cX6_arePair 2 = .ok (.invokevirtual 148, 3) := by decide +kernel
theorem dX6_arePair_5 : decode cX6_arePair 5 = .ok (.ifCond .eq 44, 3) := by decide +kernel
theorem dX6_arePair_8 : decode cX6_arePair 8 = .ok (.iload_n 2, 1) := by decide +kernel
theorem dX6_arePair_9 : decode cX6_arePair 9 = .ok (.iload_n 3, 1) := by decide +kernel
theorem dX6_arePair_10 : decode cX6_arePair 10 = .ok (.if_icmp .eq 39, 3) := by decide +kernel
theorem dX6_arePair_13 : decode cX6_arePair 13 = .ok (.iload_n 2, 1) := by decide +kernel
theorem dX6_arePair_14 : decode cX6_arePair 14 = .ok (.iconst 0, 1) := by decide +kernel
theorem dX6_arePair_15 : decode cX6_arePair 15 = .ok (.aload_n 0, 1) := by decide +kernel
theorem dX6_arePair_16 : decode cX6_arePair 16 = .ok (.getfield 38, 3) := by decide +kernel
theorem dX6_arePair_19 : decode cX6_arePair 19 = .ok (.iload_n 1, 1) := by decide +kernel
theorem dX6_arePair_20 : decode cX6_arePair 20 = .ok (.iaload, 1) := by decide +kernel
theorem dX6_arePair_21 : decode cX6_arePair 21 = .ok (.iconst 1, 1) := by decide +kernel
theorem dX6_arePair_22 : decode cX6_arePair 22 = .ok (.isub, 1) := by decide +kernel
theorem dX6_arePair_23 : decode cX6_arePair 23 = .ok (.invokestatic 76, 3) := by decide +kernel
theorem dX6_arePair_26 : decode cX6_arePair 26 = .ok (.ifCond .eq 23, 3) := by decide +kernel
theorem dX6_arePair_29 : decode cX6_arePair 29 = .ok (.iload_n 3, 1) := by decide +kernel
theorem dX6_arePair_30 : decode cX6_arePair 30 = .ok (.iconst 0, 1) := by decide +kernel
theorem dX6_arePair_31 : decode cX6_arePair 31 = .ok (.aload_n 0, 1) := by decide +kernel
theorem dX6_arePair_32 : decode cX6_arePair 32 = .ok (.getfield 38, 3) := by decide +kernel
theorem dX6_arePair_35 : decode cX6_arePair 35 = .ok (.iload_n 1, 1) := by decide +kernel
theorem dX6_arePair_36 : decode cX6_arePair 36 = .ok (.iaload, 1) := by decide +kernel
theorem dX6_arePair_37 : decode cX6_arePair 37 = .ok (.iconst 1, 1) := by decide +kernel
theorem dX6_arePair_38 : decode cX6_arePair 38 = .ok (.isub, 1) := by decide +kernel
theorem dX6_arePair_39 : decode cX6_arePair 39 = .ok (.invokestatic 76, 3) := by decide +kernel
theorem dX6_arePair_42 : decode cX6_arePair 42 = .ok (.ifCond .eq 7, 3) := by decide +kernel
theorem dX6_arePair_45 : decode cX6_arePair 45 = .ok (.iconst 1, 1) := by decide +kernel
theorem dX6_arePair_46 : decode cX6_arePair 46 = .ok (.goto 4, 3) := by decide +kernel
theorem dX6_arePair_49 : decode cX6_arePair 49 = .ok (.iconst 0, 1) := by decide +kernel
theorem dX6_arePair_50 : decode cX6_arePair 50 = .ok (.ireturn, 1) := by decide +kernel
theorem dX6_pair_0 : decode cX6_pair 0 = .ok (.bipush 36, 2) := by decide +kernel
theorem dX6_pair_2 : decode cX6_pair 2 = .ok (.iload_n 0, 1) := by decide +kernel
theorem dX6_pair_3 : decode cX6_pair 3 = .ok (.imul, 1) := by decide +kernel
theorem dX6_pair_4 : decode cX6_pair 4 = .ok (.bipush 6, 2) := by decide +kernel
theorem dX6_pair_6 : decode cX6_pair 6 = .ok (.iload_n 1, 1) := by decide +kernel
theorem dX6_pair_7 : decode cX6_pair 7 = .ok (.iload_n 2, 1) := by decide +kernel
theorem dX6_pair_8 : decode cX6_pair 8 = .ok (.invokestatic 151, 3) := by decide +kernel
theorem dX6_pair_11 : decode cX6_pair 11 = .ok (.imul, 1) := by decide +kernel
theorem dX6_pair_12 : decode cX6_pair 12 = .ok (.iadd, 1) := by decide +kernel
theorem dX6_pair_13 : decode cX6_pair 13 = .ok (.iload_n 1, 1) := by decide +kernel
theorem dX6_pair_14 : decode cX6_pair 14 = .ok (.iload_n 2, 1) := by decide +kernel
theorem dX6_pair_15 : decode cX6_pair 15 = .ok (.invokestatic 136, 3) := by decide +kernel
theorem dX6_pair_18 : decode cX6_pair 18 = .ok (.iadd, 1) := by decide +kernel
theorem dX6_pair_19 : decode cX6_pair 19 = .ok (.ireturn, 1) := by decide +kernel
theorem dX6_apart_0 : decode cX6_apart 0 = .ok (.aload_n 0, 1) := by decide +kernel
theorem dX6_apart_1 : decode cX6_apart 1 = .ok (.iload_n 1, 1) := by decide +kernel
theorem dX6_apart_2 : decode cX6_apart 2 = .ok (.iload_n 2, 1) := by decide +kernel
theorem dX6_apart_3 : decode cX6_apart 3 = .ok (.iload_n 3, 1) := by decide +kernel
theorem dX6_apart_4 : decode cX6_apart 4 = .ok (.invokevirtual 154, 3) := by decide +kernel
theorem dX6_apart_7 : decode cX6_apart 7 = .ok (.ifCond .ne 6, 3) := by decide +kernel
theorem dX6_apart_10 : decode cX6_apart 10 = .ok (.bipush (-2), 2) := by decide +kernel
theorem dX6_apart_12 : decode cX6_apart 12 = .ok (.ireturn, 1) := by decide +kernel
theorem dX6_apart_13 : decode cX6_apart 13 = .ok (.aload_n 0, 1) := by decide +kernel
theorem dX6_apart_14 : decode cX6_apart 14 = .ok (.getfield 47, 3) := by decide +kernel
theorem dX6_apart_17 : decode cX6_apart 17 = .ok (.iload_n 1, 1) := by decide +kernel
theorem dX6_apart_18 : decode cX6_apart 18 = .ok (.iload_n 2, 1) := by decide +kernel
theorem dX6_apart_19 : decode cX6_apart 19 = .ok (.iload_n 3, 1) := by decide +kernel
theorem dX6_apart_20 : decode cX6_apart 20 = .ok (.invokestatic 157, 3) := by decide +kernel
theorem dX6_apart_23 : decode cX6_apart 23 = .ok (.baload, 1) := by decide +kernel
theorem dX6_apart_24 : decode cX6_apart 24 = .ok (.istore 4, 2) := by decide +kernel
theorem dX6_apart_26 : decode cX6_apart 26 = .ok (.aload_n 0, 1) := by decide +kernel
theorem dX6_apart_27 : decode cX6_apart 27 = .ok (.getfield 47, 3) := by decide +kernel
theorem dX6_apart_30 : decode cX6_apart 30 = .ok (.iload_n 1, 1) := by decide +kernel
theorem dX6_apart_31 : decode cX6_apart 31 = .ok (.iload_n 2, 1) := by decide +kernel
theorem dX6_apart_32 : decode cX6_apart 32 = .ok (.iload_n 3, 1) := by decide +kernel
theorem dX6_apart_33 : decode cX6_apart 33 = .ok (.invokestatic 157, 3) := by decide +kernel
theorem dX6_apart_36 : decode cX6_apart 36 = .ok (.iconst 1, 1) := by decide +kernel
theorem dX6_apart_37 : decode cX6_apart 37 = .ok (.bastore, 1) := by decide +kernel
theorem dX6_apart_38 : decode cX6_apart 38 = .ok (.iload 4, 2) := by decide +kernel
theorem dX6_apart_40 : decode cX6_apart 40 = .ok (.ifCond .eq 7, 3) := by decide +kernel
theorem dX6_apart_43 : decode cX6_apart 43 = .ok (.iconst 0, 1) := by decide +kernel
theorem dX6_apart_44 : decode cX6_apart 44 = .ok (.goto 4, 3) := by decide +kernel
theorem dX6_apart_47 : decode cX6_apart 47 = .ok (.iconst 1, 1) := by decide +kernel
theorem dX6_apart_48 : decode cX6_apart 48 = .ok (.ireturn, 1) := by decide +kernel
theorem dX6_bound_0 : decode cX6_bound 0 = .ok (.aload_n 0, 1) := by decide +kernel
theorem dX6_bound_1 : decode cX6_bound 1 = .ok (.iload_n 1, 1) := by decide +kernel
theorem dX6_bound_2 : decode cX6_bound 2 = .ok (.iload_n 2, 1) := by decide +kernel
theorem dX6_bound_3 : decode cX6_bound 3 = .ok (.iload_n 3, 1) := by decide +kernel
theorem dX6_bound_4 : decode cX6_bound 4 = .ok (.invokevirtual 154, 3) := by decide +kernel
theorem dX6_bound_7 : decode cX6_bound 7 = .ok (.ifCond .ne 6, 3) := by decide +kernel
theorem dX6_bound_10 : decode cX6_bound 10 = .ok (.bipush (-2), 2) := by decide +kernel
theorem dX6_bound_12 : decode cX6_bound 12 = .ok (.ireturn, 1) := by decide +kernel
theorem dX6_bound_13 : decode cX6_bound 13 = .ok (.aload_n 0, 1) := by decide +kernel
theorem dX6_bound_14 : decode cX6_bound 14 = .ok (.getfield 50, 3) := by decide +kernel
theorem dX6_bound_17 : decode cX6_bound 17 = .ok (.iload_n 1, 1) := by decide +kernel
theorem dX6_bound_18 : decode cX6_bound 18 = .ok (.iload_n 2, 1) := by decide +kernel
theorem dX6_bound_19 : decode cX6_bound 19 = .ok (.iload_n 3, 1) := by decide +kernel
theorem dX6_bound_20 : decode cX6_bound 20 = .ok (.invokestatic 157, 3) := by decide +kernel
theorem dX6_bound_23 : decode cX6_bound 23 = .ok (.baload, 1) := by decide +kernel
theorem dX6_bound_24 : decode cX6_bound 24 = .ok (.istore 4, 2) := by decide +kernel
theorem dX6_bound_26 : decode cX6_bound 26 = .ok (.aload_n 0, 1) := by decide +kernel
theorem dX6_bound_27 : decode cX6_bound 27 = .ok (.getfield 50, 3) := by decide +kernel
theorem dX6_bound_30 : decode cX6_bound 30 = .ok (.iload_n 1, 1) := by decide +kernel
theorem dX6_bound_31 : decode cX6_bound 31 = .ok (.iload_n 2, 1) := by decide +kernel
theorem dX6_bound_32 : decode cX6_bound 32 = .ok (.iload_n 3, 1) := by decide +kernel
theorem dX6_bound_33 : decode cX6_bound 33 = .ok (.invokestatic 157, 3) := by decide +kernel
theorem dX6_bound_36 : decode cX6_bound 36 = .ok (.iconst 1, 1) := by decide +kernel
theorem dX6_bound_37 : decode cX6_bound 37 = .ok (.bastore, 1) := by decide +kernel
theorem dX6_bound_38 : decode cX6_bound 38 = .ok (.iload 4, 2) := by decide +kernel
theorem dX6_bound_40 : decode cX6_bound 40 = .ok (.ifCond .eq 7, 3) := by decide +kernel
theorem dX6_bound_43 : decode cX6_bound 43 = .ok (.iconst 0, 1) := by decide +kernel
theorem dX6_bound_44 : decode cX6_bound 44 = .ok (.goto 4, 3) := by decide +kernel
theorem dX6_bound_47 : decode cX6_bound 47 = .ok (.iconst 1, 1) := by decide +kernel
theorem dX6_bound_48 : decode cX6_bound 48 = .ok (.ireturn, 1) := by decide +kernel
theorem dX6_most_0 : decode cX6_most 0 = .ok (.aload_n 0, 1) := by decide +kernel
theorem dX6_most_1 : decode cX6_most 1 = .ok (.iload_n 1, 1) := by decide +kernel
theorem dX6_most_2 : decode cX6_most 2 = .ok (.invokevirtual 148, 3) := by decide +kernel
theorem dX6_most_5 : decode cX6_most 5 = .ok (.ifCond .eq 13, 3) := by decide +kernel
theorem dX6_most_8 : decode cX6_most 8 = .ok (.iload_n 2, 1) := by decide +kernel
theorem dX6_most_9 : decode cX6_most 9 = .ok (.iconst 1, 1) := by decide +kernel
theorem dX6_most_10 : decode cX6_most 10 = .ok (.bipush 6, 2) := by decide +kernel
theorem dX6_most_12 : decode cX6_most 12 = .ok (.invokestatic 76, 3) := by decide +kernel
theorem dX6_most_15 : decode cX6_most 15 = .ok (.ifCond .ne 6, 3) := by decide +kernel
theorem dX6_most_18 : decode cX6_most 18 = .ok (.bipush (-2), 2) := by decide +kernel
theorem dX6_most_20 : decode cX6_most 20 = .ok (.ireturn, 1) := by decide +kernel
theorem dX6_most_21 : decode cX6_most 21 = .ok (.aload_n 0, 1) := by decide +kernel
theorem dX6_most_22 : decode cX6_most 22 = .ok (.getfield 53, 3) := by decide +kernel
theorem dX6_most_25 : decode cX6_most 25 = .ok (.iload_n 1, 1) := by decide +kernel
theorem dX6_most_26 : decode cX6_most 26 = .ok (.iaload, 1) := by decide +kernel
theorem dX6_most_27 : decode cX6_most 27 = .ok (.istore_n 3, 1) := by decide +kernel
theorem dX6_most_28 : decode cX6_most 28 = .ok (.aload_n 0, 1) := by decide +kernel
theorem dX6_most_29 : decode cX6_most 29 = .ok (.getfield 53, 3) := by decide +kernel
theorem dX6_most_32 : decode cX6_most 32 = .ok (.iload_n 1, 1) := by decide +kernel
theorem dX6_most_33 : decode cX6_most 33 = .ok (.iload_n 2, 1) := by decide +kernel
theorem dX6_most_34 : decode cX6_most 34 = .ok (.iastore, 1) := by decide +kernel
theorem dX6_most_35 : decode cX6_most 35 = .ok (.iload_n 3, 1) := by decide +kernel
theorem dX6_most_36 : decode cX6_most 36 = .ok (.ireturn, 1) := by decide +kernel
theorem dX6_open_0 : decode cX6_open 0 = .ok (.iload_n 1, 1) := by decide +kernel
theorem dX6_open_1 : decode cX6_open 1 = .ok (.iconst 0, 1) := by decide +kernel
theorem dX6_open_2 : decode cX6_open 2 = .ok (.aload_n 0, 1) := by decide +kernel
theorem dX6_open_3 : decode cX6_open 3 = .ok (.getfield 142, 3) := by decide +kernel
theorem dX6_open_6 : decode cX6_open 6 = .ok (.iconst 1, 1) := by decide +kernel
theorem dX6_open_7 : decode cX6_open 7 = .ok (.isub, 1) := by decide +kernel
theorem dX6_open_8 : decode cX6_open 8 = .ok (.invokestatic 76, 3) := by decide +kernel
theorem dX6_open_11 : decode cX6_open 11 = .ok (.ifCond .eq 12, 3) := by decide +kernel
theorem dX6_open_14 : decode cX6_open 14 = .ok (.aload_n 0, 1) := by decide +kernel
theorem dX6_open_15 : decode cX6_open 15 = .ok (.getfield 38, 3) := by decide +kernel
theorem dX6_open_18 : decode cX6_open 18 = .ok (.iload_n 1, 1) := by decide +kernel
theorem dX6_open_19 : decode cX6_open 19 = .ok (.iaload, 1) := by decide +kernel
theorem dX6_open_20 : decode cX6_open 20 = .ok (.ifCond .ne 6, 3) := by decide +kernel
theorem dX6_open_23 : decode cX6_open 23 = .ok (.bipush (-2), 2) := by decide +kernel
theorem dX6_open_25 : decode cX6_open 25 = .ok (.ireturn, 1) := by decide +kernel
theorem dX6_open_26 : decode cX6_open 26 = .ok (.aload_n 0, 1) := by decide +kernel
theorem dX6_open_27 : decode cX6_open 27 = .ok (.getfield 145, 3) := by decide +kernel
theorem dX6_open_30 : decode cX6_open 30 = .ok (.bipush 16, 2) := by decide +kernel
theorem dX6_open_32 : decode cX6_open 32 = .ok (.if_icmp .ne 6, 3) := by decide +kernel
theorem dX6_open_35 : decode cX6_open 35 = .ok (.bipush (-3), 2) := by decide +kernel
theorem dX6_open_37 : decode cX6_open 37 = .ok (.ireturn, 1) := by decide +kernel
theorem dX6_open_38 : decode cX6_open 38 = .ok (.aload_n 0, 1) := by decide +kernel
theorem dX6_open_39 : decode cX6_open 39 = .ok (.getfield 56, 3) := by decide +kernel
theorem dX6_open_42 : decode cX6_open 42 = .ok (.aload_n 0, 1) := by decide +kernel
theorem dX6_open_43 : decode cX6_open 43 = .ok (.getfield 145, 3) := by decide +kernel
theorem dX6_open_46 : decode cX6_open 46 = .ok (.iload_n 1, 1) := by decide +kernel
theorem dX6_open_47 : decode cX6_open 47 = .ok (.iastore, 1) := by decide +kernel
theorem dX6_open_48 : decode cX6_open 48 = .ok (.iconst 0, 1) := by decide +kernel
theorem dX6_open_49 : decode cX6_open 49 = .ok (.istore_n 2, 1) := by decide +kernel
theorem dX6_open_50 : decode cX6_open 50 = .ok (.iload_n 2, 1) := by decide +kernel
theorem dX6_open_51 : decode cX6_open 51 = .ok (.bipush 6, 2) := by decide +kernel
theorem dX6_open_53 : decode cX6_open 53 = .ok (.if_icmp .ge 24, 3) := by decide +kernel
theorem dX6_open_56 : decode cX6_open 56 = .ok (.aload_n 0, 1) := by decide +kernel
theorem dX6_open_57 : decode cX6_open 57 = .ok (.getfield 59, 3) := by decide +kernel
theorem dX6_open_60 : decode cX6_open 60 = .ok (.bipush 6, 2) := by decide +kernel
theorem dX6_open_62 : decode cX6_open 62 = .ok (.aload_n 0, 1) := by decide +kernel
theorem dX6_open_63 : decode cX6_open 63 = .ok (.getfield 145, 3) := by decide +kernel
theorem dX6_open_66 : decode cX6_open 66 = .ok (.imul, 1) := by decide +kernel
theorem dX6_open_67 : decode cX6_open 67 = .ok (.iload_n 2, 1) := by decide +kernel
theorem dX6_open_68 : decode cX6_open 68 = .ok (.iadd, 1) := by decide +kernel
theorem dX6_open_69 : decode cX6_open 69 = .ok (.iconst (-1), 1) := by decide +kernel
theorem dX6_open_70 : decode cX6_open 70 = .ok (.iastore, 1) := by decide +kernel
theorem dX6_open_71 : decode cX6_open 71 = .ok (.iinc 2 1, 3) := by decide +kernel
theorem dX6_open_74 : decode cX6_open 74 = .ok (.goto (-24), 3) := by decide +kernel
theorem dX6_open_77 : decode cX6_open 77 = .ok (.aload_n 0, 1) := by decide +kernel
theorem dX6_open_78 : decode cX6_open 78 = .ok (.dup, 1) := by decide +kernel
theorem dX6_open_79 : decode cX6_open 79 = .ok (.getfield 145, 3) := by decide +kernel
theorem dX6_open_82 : decode cX6_open 82 = .ok (.iconst 1, 1) := by decide +kernel
theorem dX6_open_83 : decode cX6_open 83 = .ok (.iadd, 1) := by decide +kernel
theorem dX6_open_84 : decode cX6_open 84 = .ok (.putfield 145, 3) := by decide +kernel
theorem dX6_open_87 : decode cX6_open 87 = .ok (.aload_n 0, 1) := by decide +kernel
theorem dX6_open_88 : decode cX6_open 88 = .ok (.getfield 145, 3) := by decide +kernel
theorem dX6_open_91 : decode cX6_open 91 = .ok (.iconst 1, 1) := by decide +kernel
theorem dX6_open_92 : decode cX6_open 92 = .ok (.isub, 1) := by decide +kernel
theorem dX6_open_93 : decode cX6_open 93 = .ok (.ireturn, 1) := by decide +kernel
theorem dX6_isTask_0 : decode cX6_isTask 0 = .ok (.iload_n 2, 1) := by decide +kernel
theorem dX6_isTask_1 : decode cX6_isTask 1 = .ok (.iconst 0, 1) := by decide +kernel
theorem dX6_isTask_2 : decode cX6_isTask 2 = .ok (.aload_n 0, 1) := by decide +kernel
theorem dX6_isTask_3 : decode cX6_isTask 3 = .ok (.getfield 145, 3) := by decide +kernel
theorem dX6_isTask_6 : decode cX6_isTask 6 = .ok (.iconst 1, 1) := by decide +kernel
theorem dX6_isTask_7 : decode cX6_isTask 7 = .ok (.isub, 1) := by decide +kernel
theorem dX6_isTask_8 : decode cX6_isTask 8 = .ok (.invokestatic 76, 3) := by decide +kernel
theorem dX6_isTask_11 : decode cX6_isTask 11 = .ok (.ifCond .eq 28, 3) := by decide +kernel
theorem dX6_isTask_14 : decode cX6_isTask 14 = .ok (.iload_n 1, 1) := by decide +kernel
theorem dX6_isTask_15 : decode cX6_isTask 15 = .ok (.iconst 0, 1) := by decide +kernel
theorem dX6_isTask_16 : decode cX6_isTask 16 = .ok (.aload_n 0, 1) := by decide +kernel
theorem dX6_isTask_17 : decode cX6_isTask 17 = .ok (.getfield 38, 3) := by decide +kernel
theorem dX6_isTask_20 : decode cX6_isTask 20 = .ok (.aload_n 0, 1) := by decide +kernel
theorem dX6_isTask_21 : decode cX6_isTask 21 = .ok (.getfield 56, 3) := by decide +kernel
theorem dX6_isTask_24 : decode cX6_isTask 24 = .ok (.iload_n 2, 1) := by decide +kernel
theorem dX6_isTask_25 : decode cX6_isTask 25 = .ok (.iaload, 1) := by decide +kernel
theorem dX6_isTask_26 : decode cX6_isTask 26 = .ok (.iaload, 1) := by decide +kernel
theorem dX6_isTask_27 : decode cX6_isTask 27 = .ok (.iconst 1, 1) := by decide +kernel
theorem dX6_isTask_28 : decode cX6_isTask 28 = .ok (.isub, 1) := by decide +kernel
theorem dX6_isTask_29 : decode cX6_isTask 29 = .ok (.invokestatic 76, 3) := by decide +kernel
theorem dX6_isTask_32 : decode cX6_isTask 32 = .ok (.ifCond .eq 7, 3) := by decide +kernel
theorem dX6_isTask_35 : decode cX6_isTask 35 = .ok (.iconst 1, 1) := by decide +kernel
theorem dX6_isTask_36 : decode cX6_isTask 36 = .ok (.goto 4, 3) := by decide +kernel
theorem dX6_isTask_39 : decode cX6_isTask 39 = .ok (.iconst 0, 1) := by decide +kernel
theorem dX6_isTask_40 : decode cX6_isTask 40 = .ok (.ireturn, 1) := by decide +kernel
theorem dX6_isFit_0 : decode cX6_isFit 0 = .ok (.iconst 0, 1) := by decide +kernel
theorem dX6_isFit_1 : decode cX6_isFit 1 = .ok (.istore_n 3, 1) := by decide +kernel
theorem dX6_isFit_2 : decode cX6_isFit 2 = .ok (.iload_n 3, 1) := by decide +kernel
theorem dX6_isFit_3 : decode cX6_isFit 3 = .ok (.iload_n 2, 1) := by decide +kernel
theorem dX6_isFit_4 : decode cX6_isFit 4 = .ok (.if_icmp .ge 71, 3) := by decide +kernel
theorem dX6_isFit_7 : decode cX6_isFit 7 = .ok (.aload_n 0, 1) := by decide +kernel
theorem dX6_isFit_8 : decode cX6_isFit 8 = .ok (.getfield 69, 3) := by decide +kernel
theorem dX6_isFit_11 : decode cX6_isFit 11 = .ok (.iload_n 3, 1) := by decide +kernel
theorem dX6_isFit_12 : decode cX6_isFit 12 = .ok (.iaload, 1) := by decide +kernel
theorem dX6_isFit_13 : decode cX6_isFit 13 = .ok (.aload_n 0, 1) := by decide +kernel
theorem dX6_isFit_14 : decode cX6_isFit 14 = .ok (.getfield 69, 3) := by decide +kernel
theorem dX6_isFit_17 : decode cX6_isFit 17 = .ok (.iload_n 2, 1) := by decide +kernel
theorem dX6_isFit_18 : decode cX6_isFit 18 = .ok (.iaload, 1) := by decide +kernel
theorem dX6_isFit_19 : decode cX6_isFit 19 = .ok (.if_icmp .ne 7, 3) := by decide +kernel
theorem dX6_isFit_22 : decode cX6_isFit 22 = .ok (.iconst 1, 1) := by decide +kernel
theorem dX6_isFit_23 : decode cX6_isFit 23 = .ok (.goto 4, 3) := by decide +kernel
theorem dX6_isFit_26 : decode cX6_isFit 26 = .ok (.iconst 0, 1) := by decide +kernel
theorem dX6_isFit_27 : decode cX6_isFit 27 = .ok (.istore 4, 2) := by decide +kernel
theorem dX6_isFit_29 : decode cX6_isFit 29 = .ok (.aload_n 0, 1) := by decide +kernel
theorem dX6_isFit_30 : decode cX6_isFit 30 = .ok (.getfield 47, 3) := by decide +kernel
theorem dX6_isFit_33 : decode cX6_isFit 33 = .ok (.iload_n 1, 1) := by decide +kernel
theorem dX6_isFit_34 : decode cX6_isFit 34 = .ok (.iload_n 3, 1) := by decide +kernel
theorem dX6_isFit_35 : decode cX6_isFit 35 = .ok (.iload_n 2, 1) := by decide +kernel
theorem dX6_isFit_36 : decode cX6_isFit 36 = .ok (.invokestatic 157, 3) := by decide +kernel
theorem dX6_isFit_39 : decode cX6_isFit 39 = .ok (.baload, 1) := by decide +kernel
theorem dX6_isFit_40 : decode cX6_isFit 40 = .ok (.ifCond .eq 8, 3) := by decide +kernel
theorem dX6_isFit_43 : decode cX6_isFit 43 = .ok (.iload 4, 2) := by decide +kernel
theorem dX6_isFit_45 : decode cX6_isFit 45 = .ok (.ifCond .ne 22, 3) := by decide +kernel
theorem dX6_isFit_48 : decode cX6_isFit 48 = .ok (.aload_n 0, 1) := by decide +kernel
theorem dX6_isFit_49 : decode cX6_isFit 49 = .ok (.getfield 50, 3) := by decide +kernel
theorem dX6_isFit_52 : decode cX6_isFit 52 = .ok (.iload_n 1, 1) := by decide +kernel
theorem dX6_isFit_53 : decode cX6_isFit 53 = .ok (.iload_n 3, 1) := by decide +kernel
theorem dX6_isFit_54 : decode cX6_isFit 54 = .ok (.iload_n 2, 1) := by decide +kernel
theorem dX6_isFit_55 : decode cX6_isFit 55 = .ok (.invokestatic 157, 3) := by decide +kernel
theorem dX6_isFit_58 : decode cX6_isFit 58 = .ok (.baload, 1) := by decide +kernel
theorem dX6_isFit_59 : decode cX6_isFit 59 = .ok (.ifCond .eq 10, 3) := by decide +kernel
theorem dX6_isFit_62 : decode cX6_isFit 62 = .ok (.iload 4, 2) := by decide +kernel
theorem dX6_isFit_64 : decode cX6_isFit 64 = .ok (.ifCond .ne 5, 3) := by decide +kernel
theorem dX6_isFit_67 : decode cX6_isFit 67 = .ok (.iconst 0, 1) := by decide +kernel
theorem dX6_isFit_68 : decode cX6_isFit 68 = .ok (.ireturn, 1) := by decide +kernel
theorem dX6_isFit_69 : decode cX6_isFit 69 = .ok (.iinc 3 1, 3) := by decide +kernel
theorem dX6_isFit_72 : decode cX6_isFit 72 = .ok (.goto (-70), 3) := by decide +kernel
theorem dX6_isFit_75 : decode cX6_isFit 75 = .ok (.iconst 0, 1) := by decide +kernel
theorem dX6_isFit_76 : decode cX6_isFit 76 = .ok (.istore_n 3, 1) := by decide +kernel
theorem dX6_isFit_77 : decode cX6_isFit 77 = .ok (.iconst 0, 1) := by decide +kernel
theorem dX6_isFit_78 : decode cX6_isFit 78 = .ok (.istore 4, 2) := by decide +kernel
theorem dX6_isFit_80 : decode cX6_isFit 80 = .ok (.iload 4, 2) := by decide +kernel
theorem dX6_isFit_82 : decode cX6_isFit 82 = .ok (.iload_n 2, 1) := by decide +kernel
theorem dX6_isFit_83 : decode cX6_isFit 83 = .ok (.if_icmp .gt 33, 3) := by decide +kernel
theorem dX6_isFit_86 : decode cX6_isFit 86 = .ok (.aload_n 0, 1) := by decide +kernel
theorem dX6_isFit_87 : decode cX6_isFit 87 = .ok (.getfield 69, 3) := by decide +kernel
theorem dX6_isFit_90 : decode cX6_isFit 90 = .ok (.iload 4, 2) := by decide +kernel
theorem dX6_isFit_92 : decode cX6_isFit 92 = .ok (.iaload, 1) := by decide +kernel
theorem dX6_isFit_93 : decode cX6_isFit 93 = .ok (.aload_n 0, 1) := by decide +kernel
theorem dX6_isFit_94 : decode cX6_isFit 94 = .ok (.getfield 69, 3) := by decide +kernel
theorem dX6_isFit_97 : decode cX6_isFit 97 = .ok (.iload_n 2, 1) := by decide +kernel
theorem dX6_isFit_98 : decode cX6_isFit 98 = .ok (.iaload, 1) := by decide +kernel
theorem dX6_isFit_99 : decode cX6_isFit 99 = .ok (.if_icmp .ne 9, 3) := by decide +kernel
theorem dX6_isFit_102 : decode cX6_isFit 102 = .ok (.iload_n 3, 1) := by decide +kernel
theorem dX6_isFit_103 : decode cX6_isFit 103 = .ok (.iconst 1, 1) := by decide +kernel
theorem dX6_isFit_104 : decode cX6_isFit 104 = .ok (.iadd, 1) := by decide +kernel
theorem dX6_isFit_105 : decode cX6_isFit 105 = .ok (.goto 4, 3) := by decide +kernel
theorem dX6_isFit_108 : decode cX6_isFit 108 = .ok (.iload_n 3, 1) := by decide +kernel
theorem dX6_isFit_109 : decode cX6_isFit 109 = .ok (.istore_n 3, 1) := by decide +kernel
theorem dX6_isFit_110 : decode cX6_isFit 110 = .ok (.iinc 4 1, 3) := by decide +kernel
theorem dX6_isFit_113 : decode cX6_isFit 113 = .ok (.goto (-33), 3) := by decide +kernel
theorem dX6_isFit_116 : decode cX6_isFit 116 = .ok (.iload_n 3, 1) := by decide +kernel
theorem dX6_isFit_117 : decode cX6_isFit 117 = .ok (.aload_n 0, 1) := by decide +kernel
theorem dX6_isFit_118 : decode cX6_isFit 118 = .ok (.getfield 53, 3) := by decide +kernel
theorem dX6_isFit_121 : decode cX6_isFit 121 = .ok (.iload_n 1, 1) := by decide +kernel
theorem dX6_isFit_122 : decode cX6_isFit 122 = .ok (.iaload, 1) := by decide +kernel
theorem dX6_isFit_123 : decode cX6_isFit 123 = .ok (.if_icmp .gt 7, 3) := by decide +kernel
theorem dX6_isFit_126 : decode cX6_isFit 126 = .ok (.iconst 1, 1) := by decide +kernel
theorem dX6_isFit_127 : decode cX6_isFit 127 = .ok (.goto 4, 3) := by decide +kernel
theorem dX6_isFit_130 : decode cX6_isFit 130 = .ok (.iconst 0, 1) := by decide +kernel
theorem dX6_isFit_131 : decode cX6_isFit 131 = .ok (.ireturn, 1) := by decide +kernel
theorem dX6_canBe_0 : decode cX6_canBe 0 = .ok (.aload_n 0, 1) := by decide +kernel
theorem dX6_canBe_1 : decode cX6_canBe 1 = .ok (.getfield 56, 3) := by decide +kernel
theorem dX6_canBe_4 : decode cX6_canBe 4 = .ok (.iload_n 1, 1) := by decide +kernel
theorem dX6_canBe_5 : decode cX6_canBe 5 = .ok (.iaload, 1) := by decide +kernel
theorem dX6_canBe_6 : decode cX6_canBe 6 = .ok (.istore_n 2, 1) := by decide +kernel
theorem dX6_canBe_7 : decode cX6_canBe 7 = .ok (.aload_n 0, 1) := by decide +kernel
theorem dX6_canBe_8 : decode cX6_canBe 8 = .ok (.getfield 38, 3) := by decide +kernel
theorem dX6_canBe_11 : decode cX6_canBe 11 = .ok (.iload_n 2, 1) := by decide +kernel
theorem dX6_canBe_12 : decode cX6_canBe 12 = .ok (.iaload, 1) := by decide +kernel
theorem dX6_canBe_13 : decode cX6_canBe 13 = .ok (.istore_n 3, 1) := by decide +kernel
theorem dX6_canBe_14 : decode cX6_canBe 14 = .ok (.iconst 0, 1) := by decide +kernel
theorem dX6_canBe_15 : decode cX6_canBe 15 = .ok (.istore 4, 2) := by decide +kernel
theorem dX6_canBe_17 : decode cX6_canBe 17 = .ok (.iconst 0, 1) := by decide +kernel
theorem dX6_canBe_18 : decode cX6_canBe 18 = .ok (.istore 5, 2) := by decide +kernel
theorem dX6_canBe_20 : decode cX6_canBe 20 = .ok (.aload_n 0, 1) := by decide +kernel
theorem dX6_canBe_21 : decode cX6_canBe 21 = .ok (.getfield 69, 3) := by decide +kernel
theorem dX6_canBe_24 : decode cX6_canBe 24 = .ok (.iconst 0, 1) := by decide +kernel
theorem dX6_canBe_25 : decode cX6_canBe 25 = .ok (.iconst (-1), 1) := by decide +kernel
theorem dX6_canBe_26 : decode cX6_canBe 26 = .ok (.iastore, 1) := by decide +kernel
theorem dX6_canBe_27 : decode cX6_canBe 27 = .ok (.iload 4, 2) := by decide +kernel
theorem dX6_canBe_29 : decode cX6_canBe 29 = .ok (.ifCond .lt 194, 3) := by decide +kernel
theorem dX6_canBe_32 : decode cX6_canBe 32 = .ok (.iload 4, 2) := by decide +kernel
theorem dX6_canBe_34 : decode cX6_canBe 34 = .ok (.iload_n 3, 1) := by decide +kernel
theorem dX6_canBe_35 : decode cX6_canBe 35 = .ok (.if_icmp .ge 188, 3) := by decide +kernel
theorem dX6_canBe_38 : decode cX6_canBe 38 = .ok (.aload_n 0, 1) := by decide +kernel
theorem dX6_canBe_39 : decode cX6_canBe 39 = .ok (.getfield 59, 3) := by decide +kernel
theorem dX6_canBe_42 : decode cX6_canBe 42 = .ok (.bipush 6, 2) := by decide +kernel
theorem dX6_canBe_44 : decode cX6_canBe 44 = .ok (.iload_n 1, 1) := by decide +kernel
theorem dX6_canBe_45 : decode cX6_canBe 45 = .ok (.imul, 1) := by decide +kernel
theorem dX6_canBe_46 : decode cX6_canBe 46 = .ok (.iload 4, 2) := by decide +kernel
theorem dX6_canBe_48 : decode cX6_canBe 48 = .ok (.iadd, 1) := by decide +kernel
theorem dX6_canBe_49 : decode cX6_canBe 49 = .ok (.iaload, 1) := by decide +kernel
theorem dX6_canBe_50 : decode cX6_canBe 50 = .ok (.istore 6, 2) := by decide +kernel
theorem dX6_canBe_52 : decode cX6_canBe 52 = .ok (.iload 6, 2) := by decide +kernel
theorem dX6_canBe_54 : decode cX6_canBe 54 = .ok (.ifCond .lt 42, 3) := by decide +kernel
theorem dX6_canBe_57 : decode cX6_canBe 57 = .ok (.aload_n 0, 1) := by decide +kernel
theorem dX6_canBe_58 : decode cX6_canBe 58 = .ok (.getfield 69, 3) := by decide +kernel
theorem dX6_canBe_61 : decode cX6_canBe 61 = .ok (.iload 4, 2) := by decide +kernel
theorem dX6_canBe_63 : decode cX6_canBe 63 = .ok (.iaload, 1) := by decide +kernel
theorem dX6_canBe_64 : decode cX6_canBe 64 = .ok (.ifCond .ge 7, 3) := by decide +kernel
theorem dX6_canBe_67 : decode cX6_canBe 67 = .ok (.iconst 1, 1) := by decide +kernel
theorem dX6_canBe_68 : decode cX6_canBe 68 = .ok (.goto 4, 3) := by decide +kernel
theorem dX6_canBe_71 : decode cX6_canBe 71 = .ok (.iconst 0, 1) := by decide +kernel
theorem dX6_canBe_72 : decode cX6_canBe 72 = .ok (.istore 5, 2) := by decide +kernel
theorem dX6_canBe_74 : decode cX6_canBe 74 = .ok (.aload_n 0, 1) := by decide +kernel
theorem dX6_canBe_75 : decode cX6_canBe 75 = .ok (.getfield 69, 3) := by decide +kernel
theorem dX6_canBe_78 : decode cX6_canBe 78 = .ok (.iload 4, 2) := by decide +kernel
theorem dX6_canBe_80 : decode cX6_canBe 80 = .ok (.iload 5, 2) := by decide +kernel
theorem dX6_canBe_82 : decode cX6_canBe 82 = .ok (.ifCond .eq 8, 3) := by decide +kernel
theorem dX6_canBe_85 : decode cX6_canBe 85 = .ok (.iload 6, 2) := by decide +kernel
theorem dX6_canBe_87 : decode cX6_canBe 87 = .ok (.goto 5, 3) := by decide +kernel
theorem dX6_canBe_90 : decode cX6_canBe 90 = .ok (.bipush 12, 2) := by decide +kernel
theorem dX6_canBe_92 : decode cX6_canBe 92 = .ok (.iastore, 1) := by decide +kernel
theorem dX6_canBe_93 : decode cX6_canBe 93 = .ok (.goto 89, 3) := by decide +kernel
theorem dX6_canBe_96 : decode cX6_canBe 96 = .ok (.aload_n 0, 1) := by decide +kernel
theorem dX6_canBe_97 : decode cX6_canBe 97 = .ok (.getfield 69, 3) := by decide +kernel
theorem dX6_canBe_100 : decode cX6_canBe 100 = .ok (.iload 4, 2) := by decide +kernel
theorem dX6_canBe_102 : decode cX6_canBe 102 = .ok (.dup2, 1) := by decide +kernel
theorem dX6_canBe_103 : decode cX6_canBe 103 = .ok (.iaload, 1) := by decide +kernel
theorem dX6_canBe_104 : decode cX6_canBe 104 = .ok (.iconst 1, 1) := by decide +kernel
theorem dX6_canBe_105 : decode cX6_canBe 105 = .ok (.iadd, 1) := by decide +kernel
theorem dX6_canBe_106 : decode cX6_canBe 106 = .ok (.iastore, 1) := by decide +kernel
theorem dX6_canBe_107 : decode cX6_canBe 107 = .ok (.aload_n 0, 1) := by decide +kernel
theorem dX6_canBe_108 : decode cX6_canBe 108 = .ok (.getfield 69, 3) := by decide +kernel
theorem dX6_canBe_111 : decode cX6_canBe 111 = .ok (.iload 4, 2) := by decide +kernel
theorem dX6_canBe_113 : decode cX6_canBe 113 = .ok (.iaload, 1) := by decide +kernel
theorem dX6_canBe_114 : decode cX6_canBe 114 = .ok (.bipush 12, 2) := by decide +kernel
theorem dX6_canBe_116 : decode cX6_canBe 116 = .ok (.if_icmp .ge 47, 3) := by decide +kernel
theorem dX6_canBe_119 : decode cX6_canBe 119 = .ok (.aload_n 0, 1) := by decide +kernel
theorem dX6_canBe_120 : decode cX6_canBe 120 = .ok (.getfield 7, 3) := by decide +kernel
theorem dX6_canBe_123 : decode cX6_canBe 123 = .ok (.aload_n 0, 1) := by decide +kernel
theorem dX6_canBe_124 : decode cX6_canBe 124 = .ok (.getfield 69, 3) := by decide +kernel
theorem dX6_canBe_127 : decode cX6_canBe 127 = .ok (.iload 4, 2) := by decide +kernel
theorem dX6_canBe_129 : decode cX6_canBe 129 = .ok (.iaload, 1) := by decide +kernel
theorem dX6_canBe_130 : decode cX6_canBe 130 = .ok (.iaload, 1) := by decide +kernel
theorem dX6_canBe_131 : decode cX6_canBe 131 = .ok (.aload_n 0, 1) := by decide +kernel
theorem dX6_canBe_132 : decode cX6_canBe 132 = .ok (.getfield 41, 3) := by decide +kernel
theorem dX6_canBe_135 : decode cX6_canBe 135 = .ok (.bipush 6, 2) := by decide +kernel
theorem dX6_canBe_137 : decode cX6_canBe 137 = .ok (.iload_n 2, 1) := by decide +kernel
theorem dX6_canBe_138 : decode cX6_canBe 138 = .ok (.imul, 1) := by decide +kernel
theorem dX6_canBe_139 : decode cX6_canBe 139 = .ok (.iload 4, 2) := by decide +kernel
theorem dX6_canBe_141 : decode cX6_canBe 141 = .ok (.iadd, 1) := by decide +kernel
theorem dX6_canBe_142 : decode cX6_canBe 142 = .ok (.iaload, 1) := by decide +kernel
theorem dX6_canBe_143 : decode cX6_canBe 143 = .ok (.ishr, 1) := by decide +kernel
theorem dX6_canBe_144 : decode cX6_canBe 144 = .ok (.iconst 1, 1) := by decide +kernel
theorem dX6_canBe_145 : decode cX6_canBe 145 = .ok (.iand, 1) := by decide +kernel
theorem dX6_canBe_146 : decode cX6_canBe 146 = .ok (.ifCond .ne 17, 3) := by decide +kernel
theorem dX6_canBe_149 : decode cX6_canBe 149 = .ok (.aload_n 0, 1) := by decide +kernel
theorem dX6_canBe_150 : decode cX6_canBe 150 = .ok (.getfield 69, 3) := by decide +kernel
theorem dX6_canBe_153 : decode cX6_canBe 153 = .ok (.iload 4, 2) := by decide +kernel
theorem dX6_canBe_155 : decode cX6_canBe 155 = .ok (.dup2, 1) := by decide +kernel
theorem dX6_canBe_156 : decode cX6_canBe 156 = .ok (.iaload, 1) := by decide +kernel
theorem dX6_canBe_157 : decode cX6_canBe 157 = .ok (.iconst 1, 1) := by decide +kernel
theorem dX6_canBe_158 : decode cX6_canBe 158 = .ok (.iadd, 1) := by decide +kernel
theorem dX6_canBe_159 : decode cX6_canBe 159 = .ok (.iastore, 1) := by decide +kernel
theorem dX6_canBe_160 : decode cX6_canBe 160 = .ok (.goto (-53), 3) := by decide +kernel
theorem dX6_canBe_163 : decode cX6_canBe 163 = .ok (.aload_n 0, 1) := by decide +kernel
theorem dX6_canBe_164 : decode cX6_canBe 164 = .ok (.getfield 69, 3) := by decide +kernel
theorem dX6_canBe_167 : decode cX6_canBe 167 = .ok (.iload 4, 2) := by decide +kernel
theorem dX6_canBe_169 : decode cX6_canBe 169 = .ok (.iaload, 1) := by decide +kernel
theorem dX6_canBe_170 : decode cX6_canBe 170 = .ok (.bipush 12, 2) := by decide +kernel
theorem dX6_canBe_172 : decode cX6_canBe 172 = .ok (.if_icmp .ge 7, 3) := by decide +kernel
theorem dX6_canBe_175 : decode cX6_canBe 175 = .ok (.iconst 1, 1) := by decide +kernel
theorem dX6_canBe_176 : decode cX6_canBe 176 = .ok (.goto 4, 3) := by decide +kernel
theorem dX6_canBe_179 : decode cX6_canBe 179 = .ok (.iconst 0, 1) := by decide +kernel
theorem dX6_canBe_180 : decode cX6_canBe 180 = .ok (.istore 5, 2) := by decide +kernel
theorem dX6_canBe_182 : decode cX6_canBe 182 = .ok (.iload 5, 2) := by decide +kernel
theorem dX6_canBe_184 : decode cX6_canBe 184 = .ok (.ifCond .ne 9, 3) := by decide +kernel
theorem dX6_canBe_187 : decode cX6_canBe 187 = .ok (.iinc 4 (-1), 3) := by decide +kernel
theorem dX6_canBe_190 : decode cX6_canBe 190 = .ok (.goto 30, 3) := by decide +kernel
theorem dX6_canBe_193 : decode cX6_canBe 193 = .ok (.aload_n 0, 1) := by decide +kernel
theorem dX6_canBe_194 : decode cX6_canBe 194 = .ok (.iload_n 2, 1) := by decide +kernel
theorem dX6_canBe_195 : decode cX6_canBe 195 = .ok (.iload 4, 2) := by decide +kernel
theorem dX6_canBe_197 : decode cX6_canBe 197 = .ok (.invokevirtual 160, 3) := by decide +kernel
theorem dX6_canBe_200 : decode cX6_canBe 200 = .ok (.ifCond .eq 20, 3) := by decide +kernel
theorem dX6_canBe_203 : decode cX6_canBe 203 = .ok (.iinc 4 1, 3) := by decide +kernel
theorem dX6_canBe_206 : decode cX6_canBe 206 = .ok (.iload 4, 2) := by decide +kernel
theorem dX6_canBe_208 : decode cX6_canBe 208 = .ok (.iload_n 3, 1) := by decide +kernel
theorem dX6_canBe_209 : decode cX6_canBe 209 = .ok (.if_icmp .ge 11, 3) := by decide +kernel
theorem dX6_canBe_212 : decode cX6_canBe 212 = .ok (.aload_n 0, 1) := by decide +kernel
theorem dX6_canBe_213 : decode cX6_canBe 213 = .ok (.getfield 69, 3) := by decide +kernel
theorem dX6_canBe_216 : decode cX6_canBe 216 = .ok (.iload 4, 2) := by decide +kernel
theorem dX6_canBe_218 : decode cX6_canBe 218 = .ok (.iconst (-1), 1) := by decide +kernel
theorem dX6_canBe_219 : decode cX6_canBe 219 = .ok (.iastore, 1) := by decide +kernel
theorem dX6_canBe_220 : decode cX6_canBe 220 = .ok (.goto (-193), 3) := by decide +kernel
theorem dX6_canBe_223 : decode cX6_canBe 223 = .ok (.iload 4, 2) := by decide +kernel
theorem dX6_canBe_225 : decode cX6_canBe 225 = .ok (.iload_n 3, 1) := by decide +kernel
theorem dX6_canBe_226 : decode cX6_canBe 226 = .ok (.if_icmp .ne 7, 3) := by decide +kernel
theorem dX6_canBe_229 : decode cX6_canBe 229 = .ok (.iconst 1, 1) := by decide +kernel
theorem dX6_canBe_230 : decode cX6_canBe 230 = .ok (.goto 4, 3) := by decide +kernel
theorem dX6_canBe_233 : decode cX6_canBe 233 = .ok (.iconst 0, 1) := by decide +kernel
theorem dX6_canBe_234 : decode cX6_canBe 234 = .ok (.ireturn, 1) := by decide +kernel
theorem dX6_canEnd_0 : decode cX6_canEnd 0 = .ok (.iload_n 1, 1) := by decide +kernel
theorem dX6_canEnd_1 : decode cX6_canEnd 1 = .ok (.iconst 0, 1) := by decide +kernel
theorem dX6_canEnd_2 : decode cX6_canEnd 2 = .ok (.aload_n 0, 1) := by decide +kernel
theorem dX6_canEnd_3 : decode cX6_canEnd 3 = .ok (.getfield 145, 3) := by decide +kernel
theorem dX6_canEnd_6 : decode cX6_canEnd 6 = .ok (.iconst 1, 1) := by decide +kernel
theorem dX6_canEnd_7 : decode cX6_canEnd 7 = .ok (.isub, 1) := by decide +kernel
theorem dX6_canEnd_8 : decode cX6_canEnd 8 = .ok (.invokestatic 76, 3) := by decide +kernel
theorem dX6_canEnd_11 : decode cX6_canEnd 11 = .ok (.ifCond .eq 19, 3) := by decide +kernel
theorem dX6_canEnd_14 : decode cX6_canEnd 14 = .ok (.aload_n 0, 1) := by decide +kernel
theorem dX6_canEnd_15 : decode cX6_canEnd 15 = .ok (.iload_n 1, 1) := by decide +kernel
theorem dX6_canEnd_16 : decode cX6_canEnd 16 = .ok (.invokevirtual 163, 3) := by decide +kernel
theorem dX6_canEnd_19 : decode cX6_canEnd 19 = .ok (.ifCond .eq 7, 3) := by decide +kernel
theorem dX6_canEnd_22 : decode cX6_canEnd 22 = .ok (.iconst 1, 1) := by decide +kernel
theorem dX6_canEnd_23 : decode cX6_canEnd 23 = .ok (.goto 9, 3) := by decide +kernel
theorem dX6_canEnd_26 : decode cX6_canEnd 26 = .ok (.iconst 0, 1) := by decide +kernel
theorem dX6_canEnd_27 : decode cX6_canEnd 27 = .ok (.goto 5, 3) := by decide +kernel
theorem dX6_canEnd_30 : decode cX6_canEnd 30 = .ok (.bipush (-2), 2) := by decide +kernel
theorem dX6_canEnd_32 : decode cX6_canEnd 32 = .ok (.ireturn, 1) := by decide +kernel
theorem dX6_doer_0 : decode cX6_doer 0 = .ok (.aload_n 0, 1) := by decide +kernel
theorem dX6_doer_1 : decode cX6_doer 1 = .ok (.iload_n 1, 1) := by decide +kernel
theorem dX6_doer_2 : decode cX6_doer 2 = .ok (.iload_n 2, 1) := by decide +kernel
theorem dX6_doer_3 : decode cX6_doer 3 = .ok (.invokevirtual 166, 3) := by decide +kernel
theorem dX6_doer_6 : decode cX6_doer 6 = .ok (.ifCond .eq 17, 3) := by decide +kernel
theorem dX6_doer_9 : decode cX6_doer 9 = .ok (.aload_n 0, 1) := by decide +kernel
theorem dX6_doer_10 : decode cX6_doer 10 = .ok (.getfield 59, 3) := by decide +kernel
theorem dX6_doer_13 : decode cX6_doer 13 = .ok (.bipush 6, 2) := by decide +kernel
theorem dX6_doer_15 : decode cX6_doer 15 = .ok (.iload_n 2, 1) := by decide +kernel
theorem dX6_doer_16 : decode cX6_doer 16 = .ok (.imul, 1) := by decide +kernel
theorem dX6_doer_17 : decode cX6_doer 17 = .ok (.iload_n 1, 1) := by decide +kernel
theorem dX6_doer_18 : decode cX6_doer 18 = .ok (.iadd, 1) := by decide +kernel
theorem dX6_doer_19 : decode cX6_doer 19 = .ok (.iaload, 1) := by decide +kernel
theorem dX6_doer_20 : decode cX6_doer 20 = .ok (.goto 5, 3) := by decide +kernel
theorem dX6_doer_23 : decode cX6_doer 23 = .ok (.bipush (-2), 2) := by decide +kernel
theorem dX6_doer_25 : decode cX6_doer 25 = .ok (.ireturn, 1) := by decide +kernel
theorem dX6_perform_0 : decode cX6_perform 0 = .ok (.aload_n 0, 1) := by decide +kernel
theorem dX6_perform_1 : decode cX6_perform 1 = .ok (.iload_n 1, 1) := by decide +kernel
theorem dX6_perform_2 : decode cX6_perform 2 = .ok (.iload_n 2, 1) := by decide +kernel
theorem dX6_perform_3 : decode cX6_perform 3 = .ok (.invokevirtual 166, 3) := by decide +kernel
theorem dX6_perform_6 : decode cX6_perform 6 = .ok (.ifCond .eq 10, 3) := by decide +kernel
theorem dX6_perform_9 : decode cX6_perform 9 = .ok (.iload_n 3, 1) := by decide +kernel
theorem dX6_perform_10 : decode cX6_perform 10 = .ok (.invokestatic 81, 3) := by decide +kernel
theorem dX6_perform_13 : decode cX6_perform 13 = .ok (.ifCond .ne 6, 3) := by decide +kernel
theorem dX6_perform_16 : decode cX6_perform 16 = .ok (.bipush (-2), 2) := by decide +kernel
theorem dX6_perform_18 : decode cX6_perform 18 = .ok (.ireturn, 1) := by decide +kernel
theorem dX6_perform_19 : decode cX6_perform 19 = .ok (.aload_n 0, 1) := by decide +kernel
theorem dX6_perform_20 : decode cX6_perform 20 = .ok (.getfield 56, 3) := by decide +kernel
theorem dX6_perform_23 : decode cX6_perform 23 = .ok (.iload_n 2, 1) := by decide +kernel
theorem dX6_perform_24 : decode cX6_perform 24 = .ok (.iaload, 1) := by decide +kernel
theorem dX6_perform_25 : decode cX6_perform 25 = .ok (.istore 4, 2) := by decide +kernel
theorem dX6_perform_27 : decode cX6_perform 27 = .ok (.bipush 6, 2) := by decide +kernel
theorem dX6_perform_29 : decode cX6_perform 29 = .ok (.iload_n 2, 1) := by decide +kernel
theorem dX6_perform_30 : decode cX6_perform 30 = .ok (.imul, 1) := by decide +kernel
theorem dX6_perform_31 : decode cX6_perform 31 = .ok (.istore 5, 2) := by decide +kernel
theorem dX6_perform_33 : decode cX6_perform 33 = .ok (.aload_n 0, 1) := by decide +kernel
theorem dX6_perform_34 : decode cX6_perform 34 = .ok (.getfield 38, 3) := by decide +kernel
theorem dX6_perform_37 : decode cX6_perform 37 = .ok (.iload 4, 2) := by decide +kernel
theorem dX6_perform_39 : decode cX6_perform 39 = .ok (.iaload, 1) := by decide +kernel
theorem dX6_perform_40 : decode cX6_perform 40 = .ok (.istore 6, 2) := by decide +kernel
theorem dX6_perform_42 : decode cX6_perform 42 = .ok (.aload_n 0, 1) := by decide +kernel
theorem dX6_perform_43 : decode cX6_perform 43 = .ok (.getfield 59, 3) := by decide +kernel
theorem dX6_perform_46 : decode cX6_perform 46 = .ok (.iload 5, 2) := by decide +kernel
theorem dX6_perform_48 : decode cX6_perform 48 = .ok (.iload_n 1, 1) := by decide +kernel
theorem dX6_perform_49 : decode cX6_perform 49 = .ok (.iadd, 1) := by decide +kernel
theorem dX6_perform_50 : decode cX6_perform 50 = .ok (.iaload, 1) := by decide +kernel
theorem dX6_perform_51 : decode cX6_perform 51 = .ok (.ifCond .lt 6, 3) := by decide +kernel
theorem dX6_perform_54 : decode cX6_perform 54 = .ok (.bipush (-16), 2) := by decide +kernel
theorem dX6_perform_56 : decode cX6_perform 56 = .ok (.ireturn, 1) := by decide +kernel
theorem dX6_perform_57 : decode cX6_perform 57 = .ok (.iconst 0, 1) := by decide +kernel
theorem dX6_perform_58 : decode cX6_perform 58 = .ok (.istore 7, 2) := by decide +kernel
theorem dX6_perform_60 : decode cX6_perform 60 = .ok (.iconst 0, 1) := by decide +kernel
theorem dX6_perform_61 : decode cX6_perform 61 = .ok (.istore 8, 2) := by decide +kernel
theorem dX6_perform_63 : decode cX6_perform 63 = .ok (.iconst 0, 1) := by decide +kernel
theorem dX6_perform_64 : decode cX6_perform 64 = .ok (.istore 9, 2) := by decide +kernel
theorem dX6_perform_66 : decode cX6_perform 66 = .ok (.iconst 0, 1) := by decide +kernel
theorem dX6_perform_67 : decode cX6_perform 67 = .ok (.istore 10, 2) := by decide +kernel
theorem dX6_perform_69 : decode cX6_perform 69 = .ok (.iconst 0, 1) := by decide +kernel
theorem dX6_perform_70 : decode cX6_perform 70 = .ok (.istore 11, 2) := by decide +kernel
theorem dX6_perform_72 : decode cX6_perform 72 = .ok (.iconst 0, 1) := by decide +kernel
theorem dX6_perform_73 : decode cX6_perform 73 = .ok (.istore 12, 2) := by decide +kernel
theorem dX6_perform_75 : decode cX6_perform 75 = .ok (.iload 12, 2) := by decide +kernel
theorem dX6_perform_77 : decode cX6_perform 77 = .ok (.iload 6, 2) := by decide +kernel
theorem dX6_perform_79 : decode cX6_perform 79 = .ok (.if_icmp .ge 177, 3) := by decide +kernel
theorem dX6_perform_82 : decode cX6_perform 82 = .ok (.aload_n 0, 1) := by decide +kernel
theorem dX6_perform_83 : decode cX6_perform 83 = .ok (.getfield 59, 3) := by decide +kernel
theorem dX6_perform_86 : decode cX6_perform 86 = .ok (.iload 5, 2) := by decide +kernel
theorem dX6_perform_88 : decode cX6_perform 88 = .ok (.iload 12, 2) := by decide +kernel
theorem dX6_perform_90 : decode cX6_perform 90 = .ok (.iadd, 1) := by decide +kernel
theorem dX6_perform_91 : decode cX6_perform 91 = .ok (.iaload, 1) := by decide +kernel
theorem dX6_perform_92 : decode cX6_perform 92 = .ok (.istore 13, 2) := by decide +kernel
theorem dX6_perform_94 : decode cX6_perform 94 = .ok (.iload 7, 2) := by decide +kernel
theorem dX6_perform_96 : decode cX6_perform 96 = .ok (.ifCond .ne 29, 3) := by decide +kernel
theorem dX6_perform_99 : decode cX6_perform 99 = .ok (.aload_n 0, 1) := by decide +kernel
theorem dX6_perform_100 : decode cX6_perform 100 = .ok (.getfield 44, 3) := by decide +kernel
theorem dX6_perform_103 : decode cX6_perform 103 = .ok (.bipush 6, 2) := by decide +kernel
theorem dX6_perform_105 : decode cX6_perform 105 = .ok (.iload 4, 2) := by decide +kernel
theorem dX6_perform_107 : decode cX6_perform 107 = .ok (.imul, 1) := by decide +kernel
theorem dX6_perform_108 : decode cX6_perform 108 = .ok (.iload_n 1, 1) := by decide +kernel
theorem dX6_perform_109 : decode cX6_perform 109 = .ok (.iadd, 1) := by decide +kernel
theorem dX6_perform_110 : decode cX6_perform 110 = .ok (.iaload, 1) := by decide +kernel
theorem dX6_perform_111 : decode cX6_perform 111 = .ok (.iload 12, 2) := by decide +kernel
theorem dX6_perform_113 : decode cX6_perform 113 = .ok (.ishr, 1) := by decide +kernel
theorem dX6_perform_114 : decode cX6_perform 114 = .ok (.iconst 1, 1) := by decide +kernel
theorem dX6_perform_115 : decode cX6_perform 115 = .ok (.iand, 1) := by decide +kernel
theorem dX6_perform_116 : decode cX6_perform 116 = .ok (.iconst 1, 1) := by decide +kernel
theorem dX6_perform_117 : decode cX6_perform 117 = .ok (.if_icmp .ne 12, 3) := by decide +kernel
theorem dX6_perform_120 : decode cX6_perform 120 = .ok (.iload 13, 2) := by decide +kernel
theorem dX6_perform_122 : decode cX6_perform 122 = .ok (.ifCond .ge 7, 3) := by decide +kernel
theorem dX6_perform_125 : decode cX6_perform 125 = .ok (.iconst 1, 1) := by decide +kernel
theorem dX6_perform_126 : decode cX6_perform 126 = .ok (.goto 4, 3) := by decide +kernel
theorem dX6_perform_129 : decode cX6_perform 129 = .ok (.iconst 0, 1) := by decide +kernel
theorem dX6_perform_130 : decode cX6_perform 130 = .ok (.istore 7, 2) := by decide +kernel
theorem dX6_perform_132 : decode cX6_perform 132 = .ok (.iload 8, 2) := by decide +kernel
theorem dX6_perform_134 : decode cX6_perform 134 = .ok (.ifCond .ne 31, 3) := by decide +kernel
theorem dX6_perform_137 : decode cX6_perform 137 = .ok (.iload 12, 2) := by decide +kernel
theorem dX6_perform_139 : decode cX6_perform 139 = .ok (.iload_n 1, 1) := by decide +kernel
theorem dX6_perform_140 : decode cX6_perform 140 = .ok (.if_icmp .eq 29, 3) := by decide +kernel
theorem dX6_perform_143 : decode cX6_perform 143 = .ok (.iload 13, 2) := by decide +kernel
theorem dX6_perform_145 : decode cX6_perform 145 = .ok (.iload_n 3, 1) := by decide +kernel
theorem dX6_perform_146 : decode cX6_perform 146 = .ok (.if_icmp .ne 23, 3) := by decide +kernel
theorem dX6_perform_149 : decode cX6_perform 149 = .ok (.aload_n 0, 1) := by decide +kernel
theorem dX6_perform_150 : decode cX6_perform 150 = .ok (.getfield 47, 3) := by decide +kernel
theorem dX6_perform_153 : decode cX6_perform 153 = .ok (.iload 4, 2) := by decide +kernel
theorem dX6_perform_155 : decode cX6_perform 155 = .ok (.iload 12, 2) := by decide +kernel
theorem dX6_perform_157 : decode cX6_perform 157 = .ok (.iload_n 1, 1) := by decide +kernel
theorem dX6_perform_158 : decode cX6_perform 158 = .ok (.invokestatic 157, 3) := by decide +kernel
theorem dX6_perform_161 : decode cX6_perform 161 = .ok (.baload, 1) := by decide +kernel
theorem dX6_perform_162 : decode cX6_perform 162 = .ok (.ifCond .eq 7, 3) := by decide +kernel
theorem dX6_perform_165 : decode cX6_perform 165 = .ok (.iconst 1, 1) := by decide +kernel
theorem dX6_perform_166 : decode cX6_perform 166 = .ok (.goto 4, 3) := by decide +kernel
theorem dX6_perform_169 : decode cX6_perform 169 = .ok (.iconst 0, 1) := by decide +kernel
theorem dX6_perform_170 : decode cX6_perform 170 = .ok (.istore 8, 2) := by decide +kernel
theorem dX6_perform_172 : decode cX6_perform 172 = .ok (.iload 9, 2) := by decide +kernel
theorem dX6_perform_174 : decode cX6_perform 174 = .ok (.ifCond .ne 36, 3) := by decide +kernel
theorem dX6_perform_177 : decode cX6_perform 177 = .ok (.iload 12, 2) := by decide +kernel
theorem dX6_perform_179 : decode cX6_perform 179 = .ok (.iload_n 1, 1) := by decide +kernel
theorem dX6_perform_180 : decode cX6_perform 180 = .ok (.if_icmp .eq 34, 3) := by decide +kernel
theorem dX6_perform_183 : decode cX6_perform 183 = .ok (.iload 13, 2) := by decide +kernel
theorem dX6_perform_185 : decode cX6_perform 185 = .ok (.ifCond .lt 29, 3) := by decide +kernel
theorem dX6_perform_188 : decode cX6_perform 188 = .ok (.iload 13, 2) := by decide +kernel
theorem dX6_perform_190 : decode cX6_perform 190 = .ok (.iload_n 3, 1) := by decide +kernel
theorem dX6_perform_191 : decode cX6_perform 191 = .ok (.if_icmp .eq 23, 3) := by decide +kernel
theorem dX6_perform_194 : decode cX6_perform 194 = .ok (.aload_n 0, 1) := by decide +kernel
theorem dX6_perform_195 : decode cX6_perform 195 = .ok (.getfield 50, 3) := by decide +kernel
theorem dX6_perform_198 : decode cX6_perform 198 = .ok (.iload 4, 2) := by decide +kernel
theorem dX6_perform_200 : decode cX6_perform 200 = .ok (.iload 12, 2) := by decide +kernel
theorem dX6_perform_202 : decode cX6_perform 202 = .ok (.iload_n 1, 1) := by decide +kernel
theorem dX6_perform_203 : decode cX6_perform 203 = .ok (.invokestatic 157, 3) := by decide +kernel
theorem dX6_perform_206 : decode cX6_perform 206 = .ok (.baload, 1) := by decide +kernel
theorem dX6_perform_207 : decode cX6_perform 207 = .ok (.ifCond .eq 7, 3) := by decide +kernel
theorem dX6_perform_210 : decode cX6_perform 210 = .ok (.iconst 1, 1) := by decide +kernel
theorem dX6_perform_211 : decode cX6_perform 211 = .ok (.goto 4, 3) := by decide +kernel
theorem dX6_perform_214 : decode cX6_perform 214 = .ok (.iconst 0, 1) := by decide +kernel
theorem dX6_perform_215 : decode cX6_perform 215 = .ok (.istore 9, 2) := by decide +kernel
theorem dX6_perform_217 : decode cX6_perform 217 = .ok (.iload 13, 2) := by decide +kernel
theorem dX6_perform_219 : decode cX6_perform 219 = .ok (.iload_n 3, 1) := by decide +kernel
theorem dX6_perform_220 : decode cX6_perform 220 = .ok (.if_icmp .ne 10, 3) := by decide +kernel
theorem dX6_perform_223 : decode cX6_perform 223 = .ok (.iload 10, 2) := by decide +kernel
theorem dX6_perform_225 : decode cX6_perform 225 = .ok (.iconst 1, 1) := by decide +kernel
theorem dX6_perform_226 : decode cX6_perform 226 = .ok (.iadd, 1) := by decide +kernel
theorem dX6_perform_227 : decode cX6_perform 227 = .ok (.goto 5, 3) := by decide +kernel
theorem dX6_perform_230 : decode cX6_perform 230 = .ok (.iload 10, 2) := by decide +kernel
theorem dX6_perform_232 : decode cX6_perform 232 = .ok (.istore 10, 2) := by decide +kernel
theorem dX6_perform_234 : decode cX6_perform 234 = .ok (.iload 13, 2) := by decide +kernel
theorem dX6_perform_236 : decode cX6_perform 236 = .ok (.ifCond .ge 10, 3) := by decide +kernel
theorem dX6_perform_239 : decode cX6_perform 239 = .ok (.iload 11, 2) := by decide +kernel
theorem dX6_perform_241 : decode cX6_perform 241 = .ok (.iconst 1, 1) := by decide +kernel
theorem dX6_perform_242 : decode cX6_perform 242 = .ok (.iadd, 1) := by decide +kernel
theorem dX6_perform_243 : decode cX6_perform 243 = .ok (.goto 5, 3) := by decide +kernel
theorem dX6_perform_246 : decode cX6_perform 246 = .ok (.iload 11, 2) := by decide +kernel
theorem dX6_perform_248 : decode cX6_perform 248 = .ok (.istore 11, 2) := by decide +kernel
theorem dX6_perform_250 : decode cX6_perform 250 = .ok (.iinc 12 1, 3) := by decide +kernel
theorem dX6_perform_253 : decode cX6_perform 253 = .ok (.goto (-178), 3) := by decide +kernel
theorem dX6_perform_256 : decode cX6_perform 256 = .ok (.iload 7, 2) := by decide +kernel
theorem dX6_perform_258 : decode cX6_perform 258 = .ok (.ifCond .eq 6, 3) := by decide +kernel
theorem dX6_perform_261 : decode cX6_perform 261 = .ok (.bipush (-17), 2) := by decide +kernel
theorem dX6_perform_263 : decode cX6_perform 263 = .ok (.ireturn, 1) := by decide +kernel
theorem dX6_perform_264 : decode cX6_perform 264 = .ok (.aload_n 0, 1) := by decide +kernel
theorem dX6_perform_265 : decode cX6_perform 265 = .ok (.getfield 7, 3) := by decide +kernel
theorem dX6_perform_268 : decode cX6_perform 268 = .ok (.iload_n 3, 1) := by decide +kernel
theorem dX6_perform_269 : decode cX6_perform 269 = .ok (.iaload, 1) := by decide +kernel
theorem dX6_perform_270 : decode cX6_perform 270 = .ok (.aload_n 0, 1) := by decide +kernel
theorem dX6_perform_271 : decode cX6_perform 271 = .ok (.getfield 41, 3) := by decide +kernel
theorem dX6_perform_274 : decode cX6_perform 274 = .ok (.bipush 6, 2) := by decide +kernel
theorem dX6_perform_276 : decode cX6_perform 276 = .ok (.iload 4, 2) := by decide +kernel
theorem dX6_perform_278 : decode cX6_perform 278 = .ok (.imul, 1) := by decide +kernel
theorem dX6_perform_279 : decode cX6_perform 279 = .ok (.iload_n 1, 1) := by decide +kernel
theorem dX6_perform_280 : decode cX6_perform 280 = .ok (.iadd, 1) := by decide +kernel
theorem dX6_perform_281 : decode cX6_perform 281 = .ok (.iaload, 1) := by decide +kernel
theorem dX6_perform_282 : decode cX6_perform 282 = .ok (.ishr, 1) := by decide +kernel
theorem dX6_perform_283 : decode cX6_perform 283 = .ok (.iconst 1, 1) := by decide +kernel
theorem dX6_perform_284 : decode cX6_perform 284 = .ok (.iand, 1) := by decide +kernel
theorem dX6_perform_285 : decode cX6_perform 285 = .ok (.ifCond .ne 6, 3) := by decide +kernel
theorem dX6_perform_288 : decode cX6_perform 288 = .ok (.bipush (-18), 2) := by decide +kernel
theorem dX6_perform_290 : decode cX6_perform 290 = .ok (.ireturn, 1) := by decide +kernel
theorem dX6_perform_291 : decode cX6_perform 291 = .ok (.iload 8, 2) := by decide +kernel
theorem dX6_perform_293 : decode cX6_perform 293 = .ok (.ifCond .eq 6, 3) := by decide +kernel
theorem dX6_perform_296 : decode cX6_perform 296 = .ok (.bipush (-19), 2) := by decide +kernel
theorem dX6_perform_298 : decode cX6_perform 298 = .ok (.ireturn, 1) := by decide +kernel
theorem dX6_perform_299 : decode cX6_perform 299 = .ok (.iload 9, 2) := by decide +kernel
theorem dX6_perform_301 : decode cX6_perform 301 = .ok (.ifCond .eq 6, 3) := by decide +kernel
theorem dX6_perform_304 : decode cX6_perform 304 = .ok (.bipush (-20), 2) := by decide +kernel
theorem dX6_perform_306 : decode cX6_perform 306 = .ok (.ireturn, 1) := by decide +kernel
theorem dX6_perform_307 : decode cX6_perform 307 = .ok (.iload 10, 2) := by decide +kernel
theorem dX6_perform_309 : decode cX6_perform 309 = .ok (.iconst 1, 1) := by decide +kernel
theorem dX6_perform_310 : decode cX6_perform 310 = .ok (.iadd, 1) := by decide +kernel
theorem dX6_perform_311 : decode cX6_perform 311 = .ok (.aload_n 0, 1) := by decide +kernel
theorem dX6_perform_312 : decode cX6_perform 312 = .ok (.getfield 53, 3) := by decide +kernel
theorem dX6_perform_315 : decode cX6_perform 315 = .ok (.iload 4, 2) := by decide +kernel
theorem dX6_perform_317 : decode cX6_perform 317 = .ok (.iaload, 1) := by decide +kernel
theorem dX6_perform_318 : decode cX6_perform 318 = .ok (.if_icmp .le 6, 3) := by decide +kernel
theorem dX6_perform_321 : decode cX6_perform 321 = .ok (.bipush (-21), 2) := by decide +kernel
theorem dX6_perform_323 : decode cX6_perform 323 = .ok (.ireturn, 1) := by decide +kernel
theorem dX6_perform_324 : decode cX6_perform 324 = .ok (.aload_n 0, 1) := by decide +kernel
theorem dX6_perform_325 : decode cX6_perform 325 = .ok (.iload_n 2, 1) := by decide +kernel
theorem dX6_perform_326 : decode cX6_perform 326 = .ok (.invokevirtual 163, 3) := by decide +kernel
theorem dX6_perform_329 : decode cX6_perform 329 = .ok (.istore 12, 2) := by decide +kernel
theorem dX6_perform_331 : decode cX6_perform 331 = .ok (.aload_n 0, 1) := by decide +kernel
theorem dX6_perform_332 : decode cX6_perform 332 = .ok (.getfield 59, 3) := by decide +kernel
theorem dX6_perform_335 : decode cX6_perform 335 = .ok (.iload 5, 2) := by decide +kernel
theorem dX6_perform_337 : decode cX6_perform 337 = .ok (.iload_n 1, 1) := by decide +kernel
theorem dX6_perform_338 : decode cX6_perform 338 = .ok (.iadd, 1) := by decide +kernel
theorem dX6_perform_339 : decode cX6_perform 339 = .ok (.iload_n 3, 1) := by decide +kernel
theorem dX6_perform_340 : decode cX6_perform 340 = .ok (.iastore, 1) := by decide +kernel
theorem dX6_perform_341 : decode cX6_perform 341 = .ok (.aload_n 0, 1) := by decide +kernel
theorem dX6_perform_342 : decode cX6_perform 342 = .ok (.iload_n 2, 1) := by decide +kernel
theorem dX6_perform_343 : decode cX6_perform 343 = .ok (.invokevirtual 163, 3) := by decide +kernel
theorem dX6_perform_346 : decode cX6_perform 346 = .ok (.istore 13, 2) := by decide +kernel
theorem dX6_perform_348 : decode cX6_perform 348 = .ok (.iload 12, 2) := by decide +kernel
theorem dX6_perform_350 : decode cX6_perform 350 = .ok (.ifCond .eq 8, 3) := by decide +kernel
theorem dX6_perform_353 : decode cX6_perform 353 = .ok (.iload 13, 2) := by decide +kernel
theorem dX6_perform_355 : decode cX6_perform 355 = .ok (.ifCond .eq 13, 3) := by decide +kernel
theorem dX6_perform_358 : decode cX6_perform 358 = .ok (.aload_n 0, 1) := by decide +kernel
theorem dX6_perform_359 : decode cX6_perform 359 = .ok (.getfield 101, 3) := by decide +kernel
theorem dX6_perform_362 : decode cX6_perform 362 = .ok (.sipush 240, 3) := by decide +kernel
theorem dX6_perform_365 : decode cX6_perform 365 = .ok (.if_icmp .ne 31, 3) := by decide +kernel
theorem dX6_perform_368 : decode cX6_perform 368 = .ok (.aload_n 0, 1) := by decide +kernel
theorem dX6_perform_369 : decode cX6_perform 369 = .ok (.getfield 59, 3) := by decide +kernel
theorem dX6_perform_372 : decode cX6_perform 372 = .ok (.iload 5, 2) := by decide +kernel
theorem dX6_perform_374 : decode cX6_perform 374 = .ok (.iload_n 1, 1) := by decide +kernel
theorem dX6_perform_375 : decode cX6_perform 375 = .ok (.iadd, 1) := by decide +kernel
theorem dX6_perform_376 : decode cX6_perform 376 = .ok (.iconst (-1), 1) := by decide +kernel
theorem dX6_perform_377 : decode cX6_perform 377 = .ok (.iastore, 1) := by decide +kernel
theorem dX6_perform_378 : decode cX6_perform 378 = .ok (.iload 12, 2) := by decide +kernel
theorem dX6_perform_380 : decode cX6_perform 380 = .ok (.ifCond .eq 13, 3) := by decide +kernel
theorem dX6_perform_383 : decode cX6_perform 383 = .ok (.iload 13, 2) := by decide +kernel
theorem dX6_perform_385 : decode cX6_perform 385 = .ok (.ifCond .ne 8, 3) := by decide +kernel
theorem dX6_perform_388 : decode cX6_perform 388 = .ok (.bipush (-22), 2) := by decide +kernel
theorem dX6_perform_390 : decode cX6_perform 390 = .ok (.goto 5, 3) := by decide +kernel
theorem dX6_perform_393 : decode cX6_perform 393 = .ok (.bipush (-3), 2) := by decide +kernel
theorem dX6_perform_395 : decode cX6_perform 395 = .ok (.ireturn, 1) := by decide +kernel
theorem dX6_perform_396 : decode cX6_perform 396 = .ok (.aload_n 0, 1) := by decide +kernel
theorem dX6_perform_397 : decode cX6_perform 397 = .ok (.iconst 5, 1) := by decide +kernel
theorem dX6_perform_398 : decode cX6_perform 398 = .ok (.iload_n 3, 1) := by decide +kernel
theorem dX6_perform_399 : decode cX6_perform 399 = .ok (.bipush 8, 2) := by decide +kernel
theorem dX6_perform_401 : decode cX6_perform 401 = .ok (.iload_n 2, 1) := by decide +kernel
theorem dX6_perform_402 : decode cX6_perform 402 = .ok (.imul, 1) := by decide +kernel
theorem dX6_perform_403 : decode cX6_perform 403 = .ok (.iload_n 1, 1) := by decide +kernel
theorem dX6_perform_404 : decode cX6_perform 404 = .ok (.iadd, 1) := by decide +kernel
theorem dX6_perform_405 : decode cX6_perform 405 = .ok (.iconst 0, 1) := by decide +kernel
theorem dX6_perform_406 : decode cX6_perform 406 = .ok (.invokevirtual 125, 3) := by decide +kernel
theorem dX6_perform_409 : decode cX6_perform 409 = .ok (.iload 11, 2) := by decide +kernel
theorem dX6_perform_411 : decode cX6_perform 411 = .ok (.iconst 1, 1) := by decide +kernel
theorem dX6_perform_412 : decode cX6_perform 412 = .ok (.isub, 1) := by decide +kernel
theorem dX6_perform_413 : decode cX6_perform 413 = .ok (.ireturn, 1) := by decide +kernel
theorem dX6_told_0 : decode cX6_told 0 = .ok (.iload_n 1, 1) := by decide +kernel
theorem dX6_told_1 : decode cX6_told 1 = .ok (.invokestatic 81, 3) := by decide +kernel
theorem dX6_told_4 : decode cX6_told 4 = .ok (.ifCond .eq 12, 3) := by decide +kernel
theorem dX6_told_7 : decode cX6_told 7 = .ok (.iload_n 2, 1) := by decide +kernel
theorem dX6_told_8 : decode cX6_told 8 = .ok (.iconst 0, 1) := by decide +kernel
theorem dX6_told_9 : decode cX6_told 9 = .ok (.iconst 3, 1) := by decide +kernel
theorem dX6_told_10 : decode cX6_told 10 = .ok (.invokestatic 76, 3) := by decide +kernel
theorem dX6_told_13 : decode cX6_told 13 = .ok (.ifCond .ne 6, 3) := by decide +kernel
theorem dX6_told_16 : decode cX6_told 16 = .ok (.bipush (-2), 2) := by decide +kernel
theorem dX6_told_18 : decode cX6_told 18 = .ok (.ireturn, 1) := by decide +kernel
theorem dX6_told_19 : decode cX6_told 19 = .ok (.iload_n 2, 1) := by decide +kernel
theorem dX6_told_20 : decode cX6_told 20 = .ok (.ifCond .ne 12, 3) := by decide +kernel
theorem dX6_told_23 : decode cX6_told 23 = .ok (.aload_n 0, 1) := by decide +kernel
theorem dX6_told_24 : decode cX6_told 24 = .ok (.getfield 7, 3) := by decide +kernel
theorem dX6_told_27 : decode cX6_told 27 = .ok (.iload_n 1, 1) := by decide +kernel
theorem dX6_told_28 : decode cX6_told 28 = .ok (.iaload, 1) := by decide +kernel
theorem dX6_told_29 : decode cX6_told 29 = .ok (.goto 36, 3) := by decide +kernel
theorem dX6_told_32 : decode cX6_told 32 = .ok (.iload_n 2, 1) := by decide +kernel
theorem dX6_told_33 : decode cX6_told 33 = .ok (.iconst 1, 1) := by decide +kernel
theorem dX6_told_34 : decode cX6_told 34 = .ok (.if_icmp .ne 12, 3) := by decide +kernel
theorem dX6_told_37 : decode cX6_told 37 = .ok (.aload_n 0, 1) := by decide +kernel
theorem dX6_told_38 : decode cX6_told 38 = .ok (.getfield 13, 3) := by decide +kernel
theorem dX6_told_41 : decode cX6_told 41 = .ok (.iload_n 1, 1) := by decide +kernel
theorem dX6_told_42 : decode cX6_told 42 = .ok (.iaload, 1) := by decide +kernel
theorem dX6_told_43 : decode cX6_told 43 = .ok (.goto 22, 3) := by decide +kernel
theorem dX6_told_46 : decode cX6_told 46 = .ok (.iload_n 2, 1) := by decide +kernel
theorem dX6_told_47 : decode cX6_told 47 = .ok (.iconst 2, 1) := by decide +kernel
theorem dX6_told_48 : decode cX6_told 48 = .ok (.if_icmp .ne 12, 3) := by decide +kernel
theorem dX6_told_51 : decode cX6_told 51 = .ok (.aload_n 0, 1) := by decide +kernel
theorem dX6_told_52 : decode cX6_told 52 = .ok (.getfield 16, 3) := by decide +kernel
theorem dX6_told_55 : decode cX6_told 55 = .ok (.iload_n 1, 1) := by decide +kernel
theorem dX6_told_56 : decode cX6_told 56 = .ok (.iaload, 1) := by decide +kernel
theorem dX6_told_57 : decode cX6_told 57 = .ok (.goto 8, 3) := by decide +kernel
theorem dX6_told_60 : decode cX6_told 60 = .ok (.aload_n 0, 1) := by decide +kernel
theorem dX6_told_61 : decode cX6_told 61 = .ok (.iload_n 1, 1) := by decide +kernel
theorem dX6_told_62 : decode cX6_told 62 = .ok (.invokevirtual 129, 3) := by decide +kernel
theorem dX6_told_65 : decode cX6_told 65 = .ok (.ireturn, 1) := by decide +kernel
theorem dX6_glassTold_0 : decode cX6_glassTold 0 = .ok (.iload_n 1, 1) := by decide +kernel
theorem dX6_glassTold_1 : decode cX6_glassTold 1 = .ok (.iconst 0, 1) := by decide +kernel
theorem dX6_glassTold_2 : decode cX6_glassTold 2 = .ok (.aload_n 0, 1) := by decide +kernel
theorem dX6_glassTold_3 : decode cX6_glassTold 3 = .ok (.getfield 111, 3) := by decide +kernel
theorem dX6_glassTold_6 : decode cX6_glassTold 6 = .ok (.iconst 1, 1) := by decide +kernel
theorem dX6_glassTold_7 : decode cX6_glassTold 7 = .ok (.isub, 1) := by decide +kernel
theorem dX6_glassTold_8 : decode cX6_glassTold 8 = .ok (.invokestatic 76, 3) := by decide +kernel
theorem dX6_glassTold_11 : decode cX6_glassTold 11 = .ok (.ifCond .eq 12, 3) := by decide +kernel
theorem dX6_glassTold_14 : decode cX6_glassTold 14 = .ok (.iload_n 2, 1) := by decide +kernel
theorem dX6_glassTold_15 : decode cX6_glassTold 15 = .ok (.iconst 0, 1) := by decide +kernel
theorem dX6_glassTold_16 : decode cX6_glassTold 16 = .ok (.iconst 4, 1) := by decide +kernel
theorem dX6_glassTold_17 : decode cX6_glassTold 17 = .ok (.invokestatic 76, 3) := by decide +kernel
theorem dX6_glassTold_20 : decode cX6_glassTold 20 = .ok (.ifCond .ne 6, 3) := by decide +kernel
theorem dX6_glassTold_23 : decode cX6_glassTold 23 = .ok (.bipush (-2), 2) := by decide +kernel
theorem dX6_glassTold_25 : decode cX6_glassTold 25 = .ok (.ireturn, 1) := by decide +kernel
theorem dX6_glassTold_26 : decode cX6_glassTold 26 = .ok (.iload_n 2, 1) := by decide +kernel
theorem dX6_glassTold_27 : decode cX6_glassTold 27 = .ok (.tableswitch 69 0 3 #[29, 36, 43, 50], 29) := by decide +kernel
theorem dX6_glassTold_56 : decode cX6_glassTold 56 = .ok (.aload_n 0, 1) := by decide +kernel
theorem dX6_glassTold_57 : decode cX6_glassTold 57 = .ok (.getfield 25, 3) := by decide +kernel
theorem dX6_glassTold_60 : decode cX6_glassTold 60 = .ok (.iload_n 1, 1) := by decide +kernel
theorem dX6_glassTold_61 : decode cX6_glassTold 61 = .ok (.iaload, 1) := by decide +kernel
theorem dX6_glassTold_62 : decode cX6_glassTold 62 = .ok (.ireturn, 1) := by decide +kernel
theorem dX6_glassTold_63 : decode cX6_glassTold 63 = .ok (.aload_n 0, 1) := by decide +kernel
theorem dX6_glassTold_64 : decode cX6_glassTold 64 = .ok (.getfield 28, 3) := by decide +kernel
theorem dX6_glassTold_67 : decode cX6_glassTold 67 = .ok (.iload_n 1, 1) := by decide +kernel
theorem dX6_glassTold_68 : decode cX6_glassTold 68 = .ok (.iaload, 1) := by decide +kernel
theorem dX6_glassTold_69 : decode cX6_glassTold 69 = .ok (.ireturn, 1) := by decide +kernel
theorem dX6_glassTold_70 : decode cX6_glassTold 70 = .ok (.aload_n 0, 1) := by decide +kernel
theorem dX6_glassTold_71 : decode cX6_glassTold 71 = .ok (.getfield 31, 3) := by decide +kernel
theorem dX6_glassTold_74 : decode cX6_glassTold 74 = .ok (.iload_n 1, 1) := by decide +kernel
theorem dX6_glassTold_75 : decode cX6_glassTold 75 = .ok (.iaload, 1) := by decide +kernel
theorem dX6_glassTold_76 : decode cX6_glassTold 76 = .ok (.ireturn, 1) := by decide +kernel
theorem dX6_glassTold_77 : decode cX6_glassTold 77 = .ok (.aload_n 0, 1) := by decide +kernel
theorem dX6_glassTold_78 : decode cX6_glassTold 78 = .ok (.getfield 72, 3) := by decide +kernel
theorem dX6_glassTold_81 : decode cX6_glassTold 81 = .ok (.aload_n 0, 1) := by decide +kernel
theorem dX6_glassTold_82 : decode cX6_glassTold 82 = .ok (.getfield 31, 3) := by decide +kernel
theorem dX6_glassTold_85 : decode cX6_glassTold 85 = .ok (.iload_n 1, 1) := by decide +kernel
theorem dX6_glassTold_86 : decode cX6_glassTold 86 = .ok (.iaload, 1) := by decide +kernel
theorem dX6_glassTold_87 : decode cX6_glassTold 87 = .ok (.if_icmp .ge 7, 3) := by decide +kernel
theorem dX6_glassTold_90 : decode cX6_glassTold 90 = .ok (.iconst 1, 1) := by decide +kernel
theorem dX6_glassTold_91 : decode cX6_glassTold 91 = .ok (.goto 4, 3) := by decide +kernel
theorem dX6_glassTold_94 : decode cX6_glassTold 94 = .ok (.iconst 0, 1) := by decide +kernel
theorem dX6_glassTold_95 : decode cX6_glassTold 95 = .ok (.ireturn, 1) := by decide +kernel
theorem dX6_glassTold_96 : decode cX6_glassTold 96 = .ok (.aload_n 0, 1) := by decide +kernel
theorem dX6_glassTold_97 : decode cX6_glassTold 97 = .ok (.getfield 34, 3) := by decide +kernel
theorem dX6_glassTold_100 : decode cX6_glassTold 100 = .ok (.iload_n 1, 1) := by decide +kernel
theorem dX6_glassTold_101 : decode cX6_glassTold 101 = .ok (.baload, 1) := by decide +kernel
theorem dX6_glassTold_102 : decode cX6_glassTold 102 = .ok (.ifCond .eq 7, 3) := by decide +kernel
theorem dX6_glassTold_105 : decode cX6_glassTold 105 = .ok (.iconst 1, 1) := by decide +kernel
theorem dX6_glassTold_106 : decode cX6_glassTold 106 = .ok (.goto 4, 3) := by decide +kernel
theorem dX6_glassTold_109 : decode cX6_glassTold 109 = .ok (.iconst 0, 1) := by decide +kernel
theorem dX6_glassTold_110 : decode cX6_glassTold 110 = .ok (.ireturn, 1) := by decide +kernel
theorem dX6_entry_0 : decode cX6_entry 0 = .ok (.iload_n 1, 1) := by decide +kernel
theorem dX6_entry_1 : decode cX6_entry 1 = .ok (.iconst 0, 1) := by decide +kernel
theorem dX6_entry_2 : decode cX6_entry 2 = .ok (.aload_n 0, 1) := by decide +kernel
theorem dX6_entry_3 : decode cX6_entry 3 = .ok (.getfield 101, 3) := by decide +kernel
theorem dX6_entry_6 : decode cX6_entry 6 = .ok (.iconst 1, 1) := by decide +kernel
theorem dX6_entry_7 : decode cX6_entry 7 = .ok (.isub, 1) := by decide +kernel
theorem dX6_entry_8 : decode cX6_entry 8 = .ok (.invokestatic 76, 3) := by decide +kernel
theorem dX6_entry_11 : decode cX6_entry 11 = .ok (.ifCond .eq 25, 3) := by decide +kernel
theorem dX6_entry_14 : decode cX6_entry 14 = .ok (.iload_n 2, 1) := by decide +kernel
theorem dX6_entry_15 : decode cX6_entry 15 = .ok (.iconst 0, 1) := by decide +kernel
theorem dX6_entry_16 : decode cX6_entry 16 = .ok (.iconst 4, 1) := by decide +kernel
theorem dX6_entry_17 : decode cX6_entry 17 = .ok (.invokestatic 76, 3) := by decide +kernel
theorem dX6_entry_20 : decode cX6_entry 20 = .ok (.ifCond .eq 16, 3) := by decide +kernel
theorem dX6_entry_23 : decode cX6_entry 23 = .ok (.aload_n 0, 1) := by decide +kernel
theorem dX6_entry_24 : decode cX6_entry 24 = .ok (.getfield 62, 3) := by decide +kernel
theorem dX6_entry_27 : decode cX6_entry 27 = .ok (.iconst 5, 1) := by decide +kernel
theorem dX6_entry_28 : decode cX6_entry 28 = .ok (.iload_n 1, 1) := by decide +kernel
theorem dX6_entry_29 : decode cX6_entry 29 = .ok (.imul, 1) := by decide +kernel
theorem dX6_entry_30 : decode cX6_entry 30 = .ok (.iload_n 2, 1) := by decide +kernel
theorem dX6_entry_31 : decode cX6_entry 31 = .ok (.iadd, 1) := by decide +kernel
theorem dX6_entry_32 : decode cX6_entry 32 = .ok (.iaload, 1) := by decide +kernel
theorem dX6_entry_33 : decode cX6_entry 33 = .ok (.goto 5, 3) := by decide +kernel
theorem dX6_entry_36 : decode cX6_entry 36 = .ok (.bipush (-2), 2) := by decide +kernel
theorem dX6_entry_38 : decode cX6_entry 38 = .ok (.ireturn, 1) := by decide +kernel
theorem dX6_link_0 : decode cX6_link 0 = .ok (.iload_n 1, 1) := by decide +kernel
theorem dX6_link_1 : decode cX6_link 1 = .ok (.iconst 0, 1) := by decide +kernel
theorem dX6_link_2 : decode cX6_link 2 = .ok (.aload_n 0, 1) := by decide +kernel
theorem dX6_link_3 : decode cX6_link 3 = .ok (.getfield 101, 3) := by decide +kernel
theorem dX6_link_6 : decode cX6_link 6 = .ok (.iconst 1, 1) := by decide +kernel
theorem dX6_link_7 : decode cX6_link 7 = .ok (.isub, 1) := by decide +kernel
theorem dX6_link_8 : decode cX6_link 8 = .ok (.invokestatic 76, 3) := by decide +kernel
theorem dX6_link_11 : decode cX6_link 11 = .ok (.ifCond .eq 12, 3) := by decide +kernel
theorem dX6_link_14 : decode cX6_link 14 = .ok (.aload_n 0, 1) := by decide +kernel
theorem dX6_link_15 : decode cX6_link 15 = .ok (.getfield 65, 3) := by decide +kernel
theorem dX6_link_18 : decode cX6_link 18 = .ok (.iload_n 1, 1) := by decide +kernel
theorem dX6_link_19 : decode cX6_link 19 = .ok (.laload, 1) := by decide +kernel
theorem dX6_link_20 : decode cX6_link 20 = .ok (.goto 4, 3) := by decide +kernel
theorem dX6_link_23 : decode cX6_link 23 = .ok (.lconst 0, 1) := by decide +kernel
theorem dX6_link_24 : decode cX6_link 24 = .ok (.lreturn, 1) := by decide +kernel
theorem dX6_alter_0 : decode cX6_alter 0 = .ok (.iload_n 1, 1) := by decide +kernel
theorem dX6_alter_1 : decode cX6_alter 1 = .ok (.iconst 0, 1) := by decide +kernel
theorem dX6_alter_2 : decode cX6_alter 2 = .ok (.aload_n 0, 1) := by decide +kernel
theorem dX6_alter_3 : decode cX6_alter 3 = .ok (.getfield 101, 3) := by decide +kernel
theorem dX6_alter_6 : decode cX6_alter 6 = .ok (.iconst 1, 1) := by decide +kernel
theorem dX6_alter_7 : decode cX6_alter 7 = .ok (.isub, 1) := by decide +kernel
theorem dX6_alter_8 : decode cX6_alter 8 = .ok (.invokestatic 76, 3) := by decide +kernel
theorem dX6_alter_11 : decode cX6_alter 11 = .ok (.ifCond .eq 12, 3) := by decide +kernel
theorem dX6_alter_14 : decode cX6_alter 14 = .ok (.iload_n 2, 1) := by decide +kernel
theorem dX6_alter_15 : decode cX6_alter 15 = .ok (.iconst 0, 1) := by decide +kernel
theorem dX6_alter_16 : decode cX6_alter 16 = .ok (.iconst 4, 1) := by decide +kernel
theorem dX6_alter_17 : decode cX6_alter 17 = .ok (.invokestatic 76, 3) := by decide +kernel
theorem dX6_alter_20 : decode cX6_alter 20 = .ok (.ifCond .ne 6, 3) := by decide +kernel
theorem dX6_alter_23 : decode cX6_alter 23 = .ok (.bipush (-2), 2) := by decide +kernel
theorem dX6_alter_25 : decode cX6_alter 25 = .ok (.ireturn, 1) := by decide +kernel
theorem dX6_alter_26 : decode cX6_alter 26 = .ok (.aload_n 0, 1) := by decide +kernel
theorem dX6_alter_27 : decode cX6_alter 27 = .ok (.getfield 62, 3) := by decide +kernel
theorem dX6_alter_30 : decode cX6_alter 30 = .ok (.iconst 5, 1) := by decide +kernel
theorem dX6_alter_31 : decode cX6_alter 31 = .ok (.iload_n 1, 1) := by decide +kernel
theorem dX6_alter_32 : decode cX6_alter 32 = .ok (.imul, 1) := by decide +kernel
theorem dX6_alter_33 : decode cX6_alter 33 = .ok (.iload_n 2, 1) := by decide +kernel
theorem dX6_alter_34 : decode cX6_alter 34 = .ok (.iadd, 1) := by decide +kernel
theorem dX6_alter_35 : decode cX6_alter 35 = .ok (.iaload, 1) := by decide +kernel
theorem dX6_alter_36 : decode cX6_alter 36 = .ok (.istore 4, 2) := by decide +kernel
theorem dX6_alter_38 : decode cX6_alter 38 = .ok (.aload_n 0, 1) := by decide +kernel
theorem dX6_alter_39 : decode cX6_alter 39 = .ok (.getfield 62, 3) := by decide +kernel
theorem dX6_alter_42 : decode cX6_alter 42 = .ok (.iconst 5, 1) := by decide +kernel
theorem dX6_alter_43 : decode cX6_alter 43 = .ok (.iload_n 1, 1) := by decide +kernel
theorem dX6_alter_44 : decode cX6_alter 44 = .ok (.imul, 1) := by decide +kernel
theorem dX6_alter_45 : decode cX6_alter 45 = .ok (.iload_n 2, 1) := by decide +kernel
theorem dX6_alter_46 : decode cX6_alter 46 = .ok (.iadd, 1) := by decide +kernel
theorem dX6_alter_47 : decode cX6_alter 47 = .ok (.iload_n 3, 1) := by decide +kernel
theorem dX6_alter_48 : decode cX6_alter 48 = .ok (.iastore, 1) := by decide +kernel
theorem dX6_alter_49 : decode cX6_alter 49 = .ok (.iload 4, 2) := by decide +kernel
theorem dX6_alter_51 : decode cX6_alter 51 = .ok (.ireturn, 1) := by decide +kernel
theorem dX6_check_0 : decode cX6_check 0 = .ok (.iconst 0, 1) := by decide +kernel
theorem dX6_check_1 : decode cX6_check 1 = .ok (.istore_n 1, 1) := by decide +kernel
theorem dX6_check_2 : decode cX6_check 2 = .ok (.iload_n 1, 1) := by decide +kernel
theorem dX6_check_3 : decode cX6_check 3 = .ok (.aload_n 0, 1) := by decide +kernel
theorem dX6_check_4 : decode cX6_check 4 = .ok (.getfield 101, 3) := by decide +kernel
theorem dX6_check_7 : decode cX6_check 7 = .ok (.if_icmp .ge 26, 3) := by decide +kernel
theorem dX6_check_10 : decode cX6_check 10 = .ok (.aload_n 0, 1) := by decide +kernel
theorem dX6_check_11 : decode cX6_check 11 = .ok (.iload_n 1, 1) := by decide +kernel
theorem dX6_check_12 : decode cX6_check 12 = .ok (.invokevirtual 104, 3) := by decide +kernel
theorem dX6_check_15 : decode cX6_check 15 = .ok (.aload_n 0, 1) := by decide +kernel
theorem dX6_check_16 : decode cX6_check 16 = .ok (.getfield 65, 3) := by decide +kernel
theorem dX6_check_19 : decode cX6_check 19 = .ok (.iload_n 1, 1) := by decide +kernel
theorem dX6_check_20 : decode cX6_check 20 = .ok (.laload, 1) := by decide +kernel
theorem dX6_check_21 : decode cX6_check 21 = .ok (.lcmp, 1) := by decide +kernel
theorem dX6_check_22 : decode cX6_check 22 = .ok (.ifCond .eq 5, 3) := by decide +kernel
theorem dX6_check_25 : decode cX6_check 25 = .ok (.iload_n 1, 1) := by decide +kernel
theorem dX6_check_26 : decode cX6_check 26 = .ok (.ireturn, 1) := by decide +kernel
theorem dX6_check_27 : decode cX6_check 27 = .ok (.iinc 1 1, 3) := by decide +kernel
theorem dX6_check_30 : decode cX6_check 30 = .ok (.goto (-28), 3) := by decide +kernel
theorem dX6_check_33 : decode cX6_check 33 = .ok (.iconst (-1), 1) := by decide +kernel
theorem dX6_check_34 : decode cX6_check 34 = .ok (.ireturn, 1) := by decide +kernel
theorem dX6_count_0 : decode cX6_count 0 = .ok (.iload_n 1, 1) := by decide +kernel
theorem dX6_count_1 : decode cX6_count 1 = .ok (.tableswitch 78 0 6 #[43, 48, 53, 58, 63, 68, 73], 43) := by decide +kernel
theorem dX6_count_44 : decode cX6_count 44 = .ok (.aload_n 0, 1) := by decide +kernel
theorem dX6_count_45 : decode cX6_count 45 = .ok (.getfield 72, 3) := by decide +kernel
theorem dX6_count_48 : decode cX6_count 48 = .ok (.ireturn, 1) := by decide +kernel
theorem dX6_count_49 : decode cX6_count 49 = .ok (.aload_n 0, 1) := by decide +kernel
theorem dX6_count_50 : decode cX6_count 50 = .ok (.getfield 85, 3) := by decide +kernel
theorem dX6_count_53 : decode cX6_count 53 = .ok (.ireturn, 1) := by decide +kernel
theorem dX6_count_54 : decode cX6_count 54 = .ok (.aload_n 0, 1) := by decide +kernel
theorem dX6_count_55 : decode cX6_count 55 = .ok (.getfield 88, 3) := by decide +kernel
theorem dX6_count_58 : decode cX6_count 58 = .ok (.ireturn, 1) := by decide +kernel
theorem dX6_count_59 : decode cX6_count 59 = .ok (.aload_n 0, 1) := by decide +kernel
theorem dX6_count_60 : decode cX6_count 60 = .ok (.getfield 111, 3) := by decide +kernel
theorem dX6_count_63 : decode cX6_count 63 = .ok (.ireturn, 1) := by decide +kernel
theorem dX6_count_64 : decode cX6_count 64 = .ok (.aload_n 0, 1) := by decide +kernel
theorem dX6_count_65 : decode cX6_count 65 = .ok (.getfield 142, 3) := by decide +kernel
theorem dX6_count_68 : decode cX6_count 68 = .ok (.ireturn, 1) := by decide +kernel
theorem dX6_count_69 : decode cX6_count 69 = .ok (.aload_n 0, 1) := by decide +kernel
theorem dX6_count_70 : decode cX6_count 70 = .ok (.getfield 145, 3) := by decide +kernel
theorem dX6_count_73 : decode cX6_count 73 = .ok (.ireturn, 1) := by decide +kernel
theorem dX6_count_74 : decode cX6_count 74 = .ok (.aload_n 0, 1) := by decide +kernel
theorem dX6_count_75 : decode cX6_count 75 = .ok (.getfield 101, 3) := by decide +kernel
theorem dX6_count_78 : decode cX6_count 78 = .ok (.ireturn, 1) := by decide +kernel
theorem dX6_count_79 : decode cX6_count 79 = .ok (.bipush (-2), 2) := by decide +kernel
theorem dX6_count_81 : decode cX6_count 81 = .ok (.ireturn, 1) := by decide +kernel
end
section
theorem dL_law_0 : decode cL_law 0 = .ok (.new 7, 3) := by decide +kernel
theorem dL_law_3 : decode cL_law 3 = .ok (.dup, 1) := by decide +kernel
theorem dL_law_4 : decode cL_law 4 = .ok (.invokespecial 9, 3) := by decide +kernel
theorem dL_law_7 : decode cL_law 7 = .ok (.astore_n 1, 1) := by decide +kernel
theorem dL_law_8 : decode cL_law 8 = .ok (.new 10, 3) := by decide +kernel
theorem dL_law_11 : decode cL_law 11 = .ok (.dup, 1) := by decide +kernel
theorem dL_law_12 : decode cL_law 12 = .ok (.invokespecial 12, 3) := by decide +kernel
theorem dL_law_15 : decode cL_law 15 = .ok (.astore_n 2, 1) := by decide +kernel
theorem dL_law_16 : decode cL_law 16 = .ok (.iconst 0, 1) := by decide +kernel
theorem dL_law_17 : decode cL_law 17 = .ok (.istore_n 3, 1) := by decide +kernel
theorem dL_law_18 : decode cL_law 18 = .ok (.iload_n 3, 1) := by decide +kernel
theorem dL_law_19 : decode cL_law 19 = .ok (.aload_n 0, 1) := by decide +kernel
theorem dL_law_20 : decode cL_law 20 = .ok (.arraylength, 1) := by decide +kernel
theorem dL_law_21 : decode cL_law 21 = .ok (.iconst 4, 1) := by decide +kernel
theorem dL_law_22 : decode cL_law 22 = .ok (.isub, 1) := by decide +kernel
theorem dL_law_23 : decode cL_law 23 = .ok (.if_icmp .gt 870, 3) := by decide +kernel
theorem dL_law_26 : decode cL_law 26 = .ok (.aload_n 0, 1) := by decide +kernel
theorem dL_law_27 : decode cL_law 27 = .ok (.iload_n 3, 1) := by decide +kernel
theorem dL_law_28 : decode cL_law 28 = .ok (.iaload, 1) := by decide +kernel
theorem dL_law_29 : decode cL_law 29 = .ok (.bipush 31, 2) := by decide +kernel
theorem dL_law_31 : decode cL_law 31 = .ok (.iand, 1) := by decide +kernel
theorem dL_law_32 : decode cL_law 32 = .ok (.tableswitch 855 0 23 #[112, 135, 168, 191, 214, 247, 280, 323, 356, 369, 412, 455, 498, 531, 554, 597, 620, 653, 686, 719, 752, 776, 819, 832], 112) := by decide +kernel
theorem dL_law_144 : decode cL_law 144 = .ok (.aload_n 1, 1) := by decide +kernel
theorem dL_law_145 : decode cL_law 145 = .ok (.aload_n 0, 1) := by decide +kernel
theorem dL_law_146 : decode cL_law 146 = .ok (.iload_n 3, 1) := by decide +kernel
theorem dL_law_147 : decode cL_law 147 = .ok (.iconst 1, 1) := by decide +kernel
theorem dL_law_148 : decode cL_law 148 = .ok (.iadd, 1) := by decide +kernel
theorem dL_law_149 : decode cL_law 149 = .ok (.iaload, 1) := by decide +kernel
theorem dL_law_150 : decode cL_law 150 = .ok (.invokevirtual 13, 3) := by decide +kernel
theorem dL_law_153 : decode cL_law 153 = .ok (.aload_n 2, 1) := by decide +kernel
theorem dL_law_154 : decode cL_law 154 = .ok (.aload_n 0, 1) := by decide +kernel
theorem dL_law_155 : decode cL_law 155 = .ok (.iload_n 3, 1) := by decide +kernel
theorem dL_law_156 : decode cL_law 156 = .ok (.iconst 1, 1) := by decide +kernel
theorem dL_law_157 : decode cL_law 157 = .ok (.iadd, 1) := by decide +kernel
theorem dL_law_158 : decode cL_law 158 = .ok (.iaload, 1) := by decide +kernel
theorem dL_law_159 : decode cL_law 159 = .ok (.invokevirtual 17, 3) := by decide +kernel
theorem dL_law_162 : decode cL_law 162 = .ok (.if_icmp .eq 725, 3) := by decide +kernel
theorem dL_law_165 : decode cL_law 165 = .ok (.iconst 0, 1) := by decide +kernel
theorem dL_law_166 : decode cL_law 166 = .ok (.ireturn, 1) := by decide +kernel
theorem dL_law_167 : decode cL_law 167 = .ok (.aload_n 1, 1) := by decide +kernel
theorem dL_law_168 : decode cL_law 168 = .ok (.aload_n 0, 1) := by decide +kernel
theorem dL_law_169 : decode cL_law 169 = .ok (.iload_n 3, 1) := by decide +kernel
theorem dL_law_170 : decode cL_law 170 = .ok (.iconst 1, 1) := by decide +kernel
theorem dL_law_171 : decode cL_law 171 = .ok (.iadd, 1) := by decide +kernel
theorem dL_law_172 : decode cL_law 172 = .ok (.iaload, 1) := by decide +kernel
theorem dL_law_173 : decode cL_law 173 = .ok (.aload_n 0, 1) := by decide +kernel
theorem dL_law_174 : decode cL_law 174 = .ok (.iload_n 3, 1) := by decide +kernel
theorem dL_law_175 : decode cL_law 175 = .ok (.iconst 2, 1) := by decide +kernel
theorem dL_law_176 : decode cL_law 176 = .ok (.iadd, 1) := by decide +kernel
theorem dL_law_177 : decode cL_law 177 = .ok (.iaload, 1) := by decide +kernel
theorem dL_law_178 : decode cL_law 178 = .ok (.invokevirtual 18, 3) := by decide +kernel
theorem dL_law_181 : decode cL_law 181 = .ok (.aload_n 2, 1) := by decide +kernel
theorem dL_law_182 : decode cL_law 182 = .ok (.aload_n 0, 1) := by decide +kernel
theorem dL_law_183 : decode cL_law 183 = .ok (.iload_n 3, 1) := by decide +kernel
theorem dL_law_184 : decode cL_law 184 = .ok (.iconst 1, 1) := by decide +kernel
theorem dL_law_185 : decode cL_law 185 = .ok (.iadd, 1) := by decide +kernel
theorem dL_law_186 : decode cL_law 186 = .ok (.iaload, 1) := by decide +kernel
theorem dL_law_187 : decode cL_law 187 = .ok (.aload_n 0, 1) := by decide +kernel
theorem dL_law_188 : decode cL_law 188 = .ok (.iload_n 3, 1) := by decide +kernel
theorem dL_law_189 : decode cL_law 189 = .ok (.iconst 2, 1) := by decide +kernel
theorem dL_law_190 : decode cL_law 190 = .ok (.iadd, 1) := by decide +kernel
theorem dL_law_191 : decode cL_law 191 = .ok (.iaload, 1) := by decide +kernel
theorem dL_law_192 : decode cL_law 192 = .ok (.invokevirtual 22, 3) := by decide +kernel
theorem dL_law_195 : decode cL_law 195 = .ok (.if_icmp .eq 692, 3) := by decide +kernel
theorem dL_law_198 : decode cL_law 198 = .ok (.iconst 0, 1) := by decide +kernel
theorem dL_law_199 : decode cL_law 199 = .ok (.ireturn, 1) := by decide +kernel
theorem dL_law_200 : decode cL_law 200 = .ok (.aload_n 1, 1) := by decide +kernel
theorem dL_law_201 : decode cL_law 201 = .ok (.aload_n 0, 1) := by decide +kernel
theorem dL_law_202 : decode cL_law 202 = .ok (.iload_n 3, 1) := by decide +kernel
theorem dL_law_203 : decode cL_law 203 = .ok (.iconst 1, 1) := by decide +kernel
theorem dL_law_204 : decode cL_law 204 = .ok (.iadd, 1) := by decide +kernel
theorem dL_law_205 : decode cL_law 205 = .ok (.iaload, 1) := by decide +kernel
theorem dL_law_206 : decode cL_law 206 = .ok (.invokevirtual 23, 3) := by decide +kernel
theorem dL_law_209 : decode cL_law 209 = .ok (.aload_n 2, 1) := by decide +kernel
theorem dL_law_210 : decode cL_law 210 = .ok (.aload_n 0, 1) := by decide +kernel
theorem dL_law_211 : decode cL_law 211 = .ok (.iload_n 3, 1) := by decide +kernel
theorem dL_law_212 : decode cL_law 212 = .ok (.iconst 1, 1) := by decide +kernel
theorem dL_law_213 : decode cL_law 213 = .ok (.iadd, 1) := by decide +kernel
theorem dL_law_214 : decode cL_law 214 = .ok (.iaload, 1) := by decide +kernel
theorem dL_law_215 : decode cL_law 215 = .ok (.invokevirtual 26, 3) := by decide +kernel
theorem dL_law_218 : decode cL_law 218 = .ok (.if_icmp .eq 669, 3) := by decide +kernel
theorem dL_law_221 : decode cL_law 221 = .ok (.iconst 0, 1) := by decide +kernel
theorem dL_law_222 : decode cL_law 222 = .ok (.ireturn, 1) := by decide +kernel
theorem dL_law_223 : decode cL_law 223 = .ok (.aload_n 1, 1) := by decide +kernel
theorem dL_law_224 : decode cL_law 224 = .ok (.aload_n 0, 1) := by decide +kernel
theorem dL_law_225 : decode cL_law 225 = .ok (.iload_n 3, 1) := by decide +kernel
theorem dL_law_226 : decode cL_law 226 = .ok (.iconst 1, 1) := by decide +kernel
theorem dL_law_227 : decode cL_law 227 = .ok (.iadd, 1) := by decide +kernel
theorem dL_law_228 : decode cL_law 228 = .ok (.iaload, 1) := by decide +kernel
theorem dL_law_229 : decode cL_law 229 = .ok (.invokevirtual 27, 3) := by decide +kernel
theorem dL_law_232 : decode cL_law 232 = .ok (.aload_n 2, 1) := by decide +kernel
theorem dL_law_233 : decode cL_law 233 = .ok (.aload_n 0, 1) := by decide +kernel
theorem dL_law_234 : decode cL_law 234 = .ok (.iload_n 3, 1) := by decide +kernel
theorem dL_law_235 : decode cL_law 235 = .ok (.iconst 1, 1) := by decide +kernel
theorem dL_law_236 : decode cL_law 236 = .ok (.iadd, 1) := by decide +kernel
theorem dL_law_237 : decode cL_law 237 = .ok (.iaload, 1) := by decide +kernel
theorem dL_law_238 : decode cL_law 238 = .ok (.invokevirtual 30, 3) := by decide +kernel
theorem dL_law_241 : decode cL_law 241 = .ok (.if_icmp .eq 646, 3) := by decide +kernel
theorem dL_law_244 : decode cL_law 244 = .ok (.iconst 0, 1) := by decide +kernel
theorem dL_law_245 : decode cL_law 245 = .ok (.ireturn, 1) := by decide +kernel
theorem dL_law_246 : decode cL_law 246 = .ok (.aload_n 1, 1) := by decide +kernel
theorem dL_law_247 : decode cL_law 247 = .ok (.aload_n 0, 1) := by decide +kernel
theorem dL_law_248 : decode cL_law 248 = .ok (.iload_n 3, 1) := by decide +kernel
theorem dL_law_249 : decode cL_law 249 = .ok (.iconst 1, 1) := by decide +kernel
theorem dL_law_250 : decode cL_law 250 = .ok (.iadd, 1) := by decide +kernel
theorem dL_law_251 : decode cL_law 251 = .ok (.iaload, 1) := by decide +kernel
theorem dL_law_252 : decode cL_law 252 = .ok (.aload_n 0, 1) := by decide +kernel
theorem dL_law_253 : decode cL_law 253 = .ok (.iload_n 3, 1) := by decide +kernel
theorem dL_law_254 : decode cL_law 254 = .ok (.iconst 2, 1) := by decide +kernel
theorem dL_law_255 : decode cL_law 255 = .ok (.iadd, 1) := by decide +kernel
theorem dL_law_256 : decode cL_law 256 = .ok (.iaload, 1) := by decide +kernel
theorem dL_law_257 : decode cL_law 257 = .ok (.invokevirtual 31, 3) := by decide +kernel
theorem dL_law_260 : decode cL_law 260 = .ok (.aload_n 2, 1) := by decide +kernel
theorem dL_law_261 : decode cL_law 261 = .ok (.aload_n 0, 1) := by decide +kernel
theorem dL_law_262 : decode cL_law 262 = .ok (.iload_n 3, 1) := by decide +kernel
theorem dL_law_263 : decode cL_law 263 = .ok (.iconst 1, 1) := by decide +kernel
theorem dL_law_264 : decode cL_law 264 = .ok (.iadd, 1) := by decide +kernel
theorem dL_law_265 : decode cL_law 265 = .ok (.iaload, 1) := by decide +kernel
theorem dL_law_266 : decode cL_law 266 = .ok (.aload_n 0, 1) := by decide +kernel
theorem dL_law_267 : decode cL_law 267 = .ok (.iload_n 3, 1) := by decide +kernel
theorem dL_law_268 : decode cL_law 268 = .ok (.iconst 2, 1) := by decide +kernel
theorem dL_law_269 : decode cL_law 269 = .ok (.iadd, 1) := by decide +kernel
theorem dL_law_270 : decode cL_law 270 = .ok (.iaload, 1) := by decide +kernel
theorem dL_law_271 : decode cL_law 271 = .ok (.invokevirtual 34, 3) := by decide +kernel
theorem dL_law_274 : decode cL_law 274 = .ok (.if_icmp .eq 613, 3) := by decide +kernel
theorem dL_law_277 : decode cL_law 277 = .ok (.iconst 0, 1) := by decide +kernel
theorem dL_law_278 : decode cL_law 278 = .ok (.ireturn, 1) := by decide +kernel
theorem dL_law_279 : decode cL_law 279 = .ok (.aload_n 1, 1) := by decide +kernel
theorem dL_law_280 : decode cL_law 280 = .ok (.aload_n 0, 1) := by decide +kernel
theorem dL_law_281 : decode cL_law 281 = .ok (.iload_n 3, 1) := by decide +kernel
theorem dL_law_282 : decode cL_law 282 = .ok (.iconst 1, 1) := by decide +kernel
theorem dL_law_283 : decode cL_law 283 = .ok (.iadd, 1) := by decide +kernel
theorem dL_law_284 : decode cL_law 284 = .ok (.iaload, 1) := by decide +kernel
theorem dL_law_285 : decode cL_law 285 = .ok (.aload_n 0, 1) := by decide +kernel
theorem dL_law_286 : decode cL_law 286 = .ok (.iload_n 3, 1) := by decide +kernel
theorem dL_law_287 : decode cL_law 287 = .ok (.iconst 2, 1) := by decide +kernel
theorem dL_law_288 : decode cL_law 288 = .ok (.iadd, 1) := by decide +kernel
theorem dL_law_289 : decode cL_law 289 = .ok (.iaload, 1) := by decide +kernel
theorem dL_law_290 : decode cL_law 290 = .ok (.invokevirtual 35, 3) := by decide +kernel
theorem dL_law_293 : decode cL_law 293 = .ok (.aload_n 2, 1) := by decide +kernel
theorem dL_law_294 : decode cL_law 294 = .ok (.aload_n 0, 1) := by decide +kernel
theorem dL_law_295 : decode cL_law 295 = .ok (.iload_n 3, 1) := by decide +kernel
theorem dL_law_296 : decode cL_law 296 = .ok (.iconst 1, 1) := by decide +kernel
theorem dL_law_297 : decode cL_law 297 = .ok (.iadd, 1) := by decide +kernel
theorem dL_law_298 : decode cL_law 298 = .ok (.iaload, 1) := by decide +kernel
theorem dL_law_299 : decode cL_law 299 = .ok (.aload_n 0, 1) := by decide +kernel
theorem dL_law_300 : decode cL_law 300 = .ok (.iload_n 3, 1) := by decide +kernel
theorem dL_law_301 : decode cL_law 301 = .ok (.iconst 2, 1) := by decide +kernel
theorem dL_law_302 : decode cL_law 302 = .ok (.iadd, 1) := by decide +kernel
theorem dL_law_303 : decode cL_law 303 = .ok (.iaload, 1) := by decide +kernel
theorem dL_law_304 : decode cL_law 304 = .ok (.invokevirtual 38, 3) := by decide +kernel
theorem dL_law_307 : decode cL_law 307 = .ok (.if_icmp .eq 580, 3) := by decide +kernel
theorem dL_law_310 : decode cL_law 310 = .ok (.iconst 0, 1) := by decide +kernel
theorem dL_law_311 : decode cL_law 311 = .ok (.ireturn, 1) := by decide +kernel
theorem dL_law_312 : decode cL_law 312 = .ok (.aload_n 1, 1) := by decide +kernel
theorem dL_law_313 : decode cL_law 313 = .ok (.aload_n 0, 1) := by decide +kernel
theorem dL_law_314 : decode cL_law 314 = .ok (.iload_n 3, 1) := by decide +kernel
theorem dL_law_315 : decode cL_law 315 = .ok (.iconst 1, 1) := by decide +kernel
theorem dL_law_316 : decode cL_law 316 = .ok (.iadd, 1) := by decide +kernel
theorem dL_law_317 : decode cL_law 317 = .ok (.iaload, 1) := by decide +kernel
theorem dL_law_318 : decode cL_law 318 = .ok (.aload_n 0, 1) := by decide +kernel
theorem dL_law_319 : decode cL_law 319 = .ok (.iload_n 3, 1) := by decide +kernel
theorem dL_law_320 : decode cL_law 320 = .ok (.iconst 2, 1) := by decide +kernel
theorem dL_law_321 : decode cL_law 321 = .ok (.iadd, 1) := by decide +kernel
theorem dL_law_322 : decode cL_law 322 = .ok (.iaload, 1) := by decide +kernel
theorem dL_law_323 : decode cL_law 323 = .ok (.aload_n 0, 1) := by decide +kernel
theorem dL_law_324 : decode cL_law 324 = .ok (.iload_n 3, 1) := by decide +kernel
theorem dL_law_325 : decode cL_law 325 = .ok (.iconst 3, 1) := by decide +kernel
theorem dL_law_326 : decode cL_law 326 = .ok (.iadd, 1) := by decide +kernel
theorem dL_law_327 : decode cL_law 327 = .ok (.iaload, 1) := by decide +kernel
theorem dL_law_328 : decode cL_law 328 = .ok (.invokevirtual 39, 3) := by decide +kernel
theorem dL_law_331 : decode cL_law 331 = .ok (.aload_n 2, 1) := by decide +kernel
theorem dL_law_332 : decode cL_law 332 = .ok (.aload_n 0, 1) := by decide +kernel
theorem dL_law_333 : decode cL_law 333 = .ok (.iload_n 3, 1) := by decide +kernel
theorem dL_law_334 : decode cL_law 334 = .ok (.iconst 1, 1) := by decide +kernel
theorem dL_law_335 : decode cL_law 335 = .ok (.iadd, 1) := by decide +kernel
theorem dL_law_336 : decode cL_law 336 = .ok (.iaload, 1) := by decide +kernel
theorem dL_law_337 : decode cL_law 337 = .ok (.aload_n 0, 1) := by decide +kernel
theorem dL_law_338 : decode cL_law 338 = .ok (.iload_n 3, 1) := by decide +kernel
theorem dL_law_339 : decode cL_law 339 = .ok (.iconst 2, 1) := by decide +kernel
theorem dL_law_340 : decode cL_law 340 = .ok (.iadd, 1) := by decide +kernel
theorem dL_law_341 : decode cL_law 341 = .ok (.iaload, 1) := by decide +kernel
theorem dL_law_342 : decode cL_law 342 = .ok (.aload_n 0, 1) := by decide +kernel
theorem dL_law_343 : decode cL_law 343 = .ok (.iload_n 3, 1) := by decide +kernel
theorem dL_law_344 : decode cL_law 344 = .ok (.iconst 3, 1) := by decide +kernel
theorem dL_law_345 : decode cL_law 345 = .ok (.iadd, 1) := by decide +kernel
theorem dL_law_346 : decode cL_law 346 = .ok (.iaload, 1) := by decide +kernel
theorem dL_law_347 : decode cL_law 347 = .ok (.invokevirtual 43, 3) := by decide +kernel
theorem dL_law_350 : decode cL_law 350 = .ok (.if_icmp .eq 537, 3) := by decide +kernel
theorem dL_law_353 : decode cL_law 353 = .ok (.iconst 0, 1) := by decide +kernel
theorem dL_law_354 : decode cL_law 354 = .ok (.ireturn, 1) := by decide +kernel
theorem dL_law_355 : decode cL_law 355 = .ok (.aload_n 1, 1) := by decide +kernel
theorem dL_law_356 : decode cL_law 356 = .ok (.aload_n 0, 1) := by decide +kernel
theorem dL_law_357 : decode cL_law 357 = .ok (.iload_n 3, 1) := by decide +kernel
theorem dL_law_358 : decode cL_law 358 = .ok (.iconst 1, 1) := by decide +kernel
theorem dL_law_359 : decode cL_law 359 = .ok (.iadd, 1) := by decide +kernel
theorem dL_law_360 : decode cL_law 360 = .ok (.iaload, 1) := by decide +kernel
theorem dL_law_361 : decode cL_law 361 = .ok (.aload_n 0, 1) := by decide +kernel
theorem dL_law_362 : decode cL_law 362 = .ok (.iload_n 3, 1) := by decide +kernel
theorem dL_law_363 : decode cL_law 363 = .ok (.iconst 2, 1) := by decide +kernel
theorem dL_law_364 : decode cL_law 364 = .ok (.iadd, 1) := by decide +kernel
theorem dL_law_365 : decode cL_law 365 = .ok (.iaload, 1) := by decide +kernel
theorem dL_law_366 : decode cL_law 366 = .ok (.invokevirtual 44, 3) := by decide +kernel
theorem dL_law_369 : decode cL_law 369 = .ok (.aload_n 2, 1) := by decide +kernel
theorem dL_law_370 : decode cL_law 370 = .ok (.aload_n 0, 1) := by decide +kernel
theorem dL_law_371 : decode cL_law 371 = .ok (.iload_n 3, 1) := by decide +kernel
theorem dL_law_372 : decode cL_law 372 = .ok (.iconst 1, 1) := by decide +kernel
theorem dL_law_373 : decode cL_law 373 = .ok (.iadd, 1) := by decide +kernel
theorem dL_law_374 : decode cL_law 374 = .ok (.iaload, 1) := by decide +kernel
theorem dL_law_375 : decode cL_law 375 = .ok (.aload_n 0, 1) := by decide +kernel
theorem dL_law_376 : decode cL_law 376 = .ok (.iload_n 3, 1) := by decide +kernel
theorem dL_law_377 : decode cL_law 377 = .ok (.iconst 2, 1) := by decide +kernel
theorem dL_law_378 : decode cL_law 378 = .ok (.iadd, 1) := by decide +kernel
theorem dL_law_379 : decode cL_law 379 = .ok (.iaload, 1) := by decide +kernel
theorem dL_law_380 : decode cL_law 380 = .ok (.invokevirtual 47, 3) := by decide +kernel
theorem dL_law_383 : decode cL_law 383 = .ok (.if_icmp .eq 504, 3) := by decide +kernel
theorem dL_law_386 : decode cL_law 386 = .ok (.iconst 0, 1) := by decide +kernel
theorem dL_law_387 : decode cL_law 387 = .ok (.ireturn, 1) := by decide +kernel
theorem dL_law_388 : decode cL_law 388 = .ok (.aload_n 1, 1) := by decide +kernel
theorem dL_law_389 : decode cL_law 389 = .ok (.invokevirtual 48, 3) := by decide +kernel
theorem dL_law_392 : decode cL_law 392 = .ok (.aload_n 2, 1) := by decide +kernel
theorem dL_law_393 : decode cL_law 393 = .ok (.invokevirtual 52, 3) := by decide +kernel
theorem dL_law_396 : decode cL_law 396 = .ok (.if_icmp .eq 491, 3) := by decide +kernel
theorem dL_law_399 : decode cL_law 399 = .ok (.iconst 0, 1) := by decide +kernel
theorem dL_law_400 : decode cL_law 400 = .ok (.ireturn, 1) := by decide +kernel
theorem dL_law_401 : decode cL_law 401 = .ok (.aload_n 1, 1) := by decide +kernel
theorem dL_law_402 : decode cL_law 402 = .ok (.aload_n 0, 1) := by decide +kernel
theorem dL_law_403 : decode cL_law 403 = .ok (.iload_n 3, 1) := by decide +kernel
theorem dL_law_404 : decode cL_law 404 = .ok (.iconst 1, 1) := by decide +kernel
theorem dL_law_405 : decode cL_law 405 = .ok (.iadd, 1) := by decide +kernel
theorem dL_law_406 : decode cL_law 406 = .ok (.iaload, 1) := by decide +kernel
theorem dL_law_407 : decode cL_law 407 = .ok (.aload_n 0, 1) := by decide +kernel
theorem dL_law_408 : decode cL_law 408 = .ok (.iload_n 3, 1) := by decide +kernel
theorem dL_law_409 : decode cL_law 409 = .ok (.iconst 2, 1) := by decide +kernel
theorem dL_law_410 : decode cL_law 410 = .ok (.iadd, 1) := by decide +kernel
theorem dL_law_411 : decode cL_law 411 = .ok (.iaload, 1) := by decide +kernel
theorem dL_law_412 : decode cL_law 412 = .ok (.aload_n 0, 1) := by decide +kernel
theorem dL_law_413 : decode cL_law 413 = .ok (.iload_n 3, 1) := by decide +kernel
theorem dL_law_414 : decode cL_law 414 = .ok (.iconst 3, 1) := by decide +kernel
theorem dL_law_415 : decode cL_law 415 = .ok (.iadd, 1) := by decide +kernel
theorem dL_law_416 : decode cL_law 416 = .ok (.iaload, 1) := by decide +kernel
theorem dL_law_417 : decode cL_law 417 = .ok (.invokevirtual 53, 3) := by decide +kernel
theorem dL_law_420 : decode cL_law 420 = .ok (.aload_n 2, 1) := by decide +kernel
theorem dL_law_421 : decode cL_law 421 = .ok (.aload_n 0, 1) := by decide +kernel
theorem dL_law_422 : decode cL_law 422 = .ok (.iload_n 3, 1) := by decide +kernel
theorem dL_law_423 : decode cL_law 423 = .ok (.iconst 1, 1) := by decide +kernel
theorem dL_law_424 : decode cL_law 424 = .ok (.iadd, 1) := by decide +kernel
theorem dL_law_425 : decode cL_law 425 = .ok (.iaload, 1) := by decide +kernel
theorem dL_law_426 : decode cL_law 426 = .ok (.aload_n 0, 1) := by decide +kernel
theorem dL_law_427 : decode cL_law 427 = .ok (.iload_n 3, 1) := by decide +kernel
theorem dL_law_428 : decode cL_law 428 = .ok (.iconst 2, 1) := by decide +kernel
theorem dL_law_429 : decode cL_law 429 = .ok (.iadd, 1) := by decide +kernel
theorem dL_law_430 : decode cL_law 430 = .ok (.iaload, 1) := by decide +kernel
theorem dL_law_431 : decode cL_law 431 = .ok (.aload_n 0, 1) := by decide +kernel
theorem dL_law_432 : decode cL_law 432 = .ok (.iload_n 3, 1) := by decide +kernel
theorem dL_law_433 : decode cL_law 433 = .ok (.iconst 3, 1) := by decide +kernel
theorem dL_law_434 : decode cL_law 434 = .ok (.iadd, 1) := by decide +kernel
theorem dL_law_435 : decode cL_law 435 = .ok (.iaload, 1) := by decide +kernel
theorem dL_law_436 : decode cL_law 436 = .ok (.invokevirtual 56, 3) := by decide +kernel
theorem dL_law_439 : decode cL_law 439 = .ok (.if_icmp .eq 448, 3) := by decide +kernel
theorem dL_law_442 : decode cL_law 442 = .ok (.iconst 0, 1) := by decide +kernel
theorem dL_law_443 : decode cL_law 443 = .ok (.ireturn, 1) := by decide +kernel
theorem dL_law_444 : decode cL_law 444 = .ok (.aload_n 1, 1) := by decide +kernel
theorem dL_law_445 : decode cL_law 445 = .ok (.aload_n 0, 1) := by decide +kernel
theorem dL_law_446 : decode cL_law 446 = .ok (.iload_n 3, 1) := by decide +kernel
theorem dL_law_447 : decode cL_law 447 = .ok (.iconst 1, 1) := by decide +kernel
theorem dL_law_448 : decode cL_law 448 = .ok (.iadd, 1) := by decide +kernel
theorem dL_law_449 : decode cL_law 449 = .ok (.iaload, 1) := by decide +kernel
theorem dL_law_450 : decode cL_law 450 = .ok (.aload_n 0, 1) := by decide +kernel
theorem dL_law_451 : decode cL_law 451 = .ok (.iload_n 3, 1) := by decide +kernel
theorem dL_law_452 : decode cL_law 452 = .ok (.iconst 2, 1) := by decide +kernel
theorem dL_law_453 : decode cL_law 453 = .ok (.iadd, 1) := by decide +kernel
theorem dL_law_454 : decode cL_law 454 = .ok (.iaload, 1) := by decide +kernel
theorem dL_law_455 : decode cL_law 455 = .ok (.aload_n 0, 1) := by decide +kernel
theorem dL_law_456 : decode cL_law 456 = .ok (.iload_n 3, 1) := by decide +kernel
theorem dL_law_457 : decode cL_law 457 = .ok (.iconst 3, 1) := by decide +kernel
theorem dL_law_458 : decode cL_law 458 = .ok (.iadd, 1) := by decide +kernel
theorem dL_law_459 : decode cL_law 459 = .ok (.iaload, 1) := by decide +kernel
theorem dL_law_460 : decode cL_law 460 = .ok (.invokevirtual 57, 3) := by decide +kernel
theorem dL_law_463 : decode cL_law 463 = .ok (.aload_n 2, 1) := by decide +kernel
theorem dL_law_464 : decode cL_law 464 = .ok (.aload_n 0, 1) := by decide +kernel
theorem dL_law_465 : decode cL_law 465 = .ok (.iload_n 3, 1) := by decide +kernel
theorem dL_law_466 : decode cL_law 466 = .ok (.iconst 1, 1) := by decide +kernel
theorem dL_law_467 : decode cL_law 467 = .ok (.iadd, 1) := by decide +kernel
theorem dL_law_468 : decode cL_law 468 = .ok (.iaload, 1) := by decide +kernel
theorem dL_law_469 : decode cL_law 469 = .ok (.aload_n 0, 1) := by decide +kernel
theorem dL_law_470 : decode cL_law 470 = .ok (.iload_n 3, 1) := by decide +kernel
theorem dL_law_471 : decode cL_law 471 = .ok (.iconst 2, 1) := by decide +kernel
theorem dL_law_472 : decode cL_law 472 = .ok (.iadd, 1) := by decide +kernel
theorem dL_law_473 : decode cL_law 473 = .ok (.iaload, 1) := by decide +kernel
theorem dL_law_474 : decode cL_law 474 = .ok (.aload_n 0, 1) := by decide +kernel
theorem dL_law_475 : decode cL_law 475 = .ok (.iload_n 3, 1) := by decide +kernel
theorem dL_law_476 : decode cL_law 476 = .ok (.iconst 3, 1) := by decide +kernel
theorem dL_law_477 : decode cL_law 477 = .ok (.iadd, 1) := by decide +kernel
theorem dL_law_478 : decode cL_law 478 = .ok (.iaload, 1) := by decide +kernel
theorem dL_law_479 : decode cL_law 479 = .ok (.invokevirtual 60, 3) := by decide +kernel
theorem dL_law_482 : decode cL_law 482 = .ok (.if_icmp .eq 405, 3) := by decide +kernel
theorem dL_law_485 : decode cL_law 485 = .ok (.iconst 0, 1) := by decide +kernel
theorem dL_law_486 : decode cL_law 486 = .ok (.ireturn, 1) := by decide +kernel
theorem dL_law_487 : decode cL_law 487 = .ok (.aload_n 1, 1) := by decide +kernel
theorem dL_law_488 : decode cL_law 488 = .ok (.aload_n 0, 1) := by decide +kernel
theorem dL_law_489 : decode cL_law 489 = .ok (.iload_n 3, 1) := by decide +kernel
theorem dL_law_490 : decode cL_law 490 = .ok (.iconst 1, 1) := by decide +kernel
theorem dL_law_491 : decode cL_law 491 = .ok (.iadd, 1) := by decide +kernel
theorem dL_law_492 : decode cL_law 492 = .ok (.iaload, 1) := by decide +kernel
theorem dL_law_493 : decode cL_law 493 = .ok (.aload_n 0, 1) := by decide +kernel
theorem dL_law_494 : decode cL_law 494 = .ok (.iload_n 3, 1) := by decide +kernel
theorem dL_law_495 : decode cL_law 495 = .ok (.iconst 2, 1) := by decide +kernel
theorem dL_law_496 : decode cL_law 496 = .ok (.iadd, 1) := by decide +kernel
theorem dL_law_497 : decode cL_law 497 = .ok (.iaload, 1) := by decide +kernel
theorem dL_law_498 : decode cL_law 498 = .ok (.aload_n 0, 1) := by decide +kernel
theorem dL_law_499 : decode cL_law 499 = .ok (.iload_n 3, 1) := by decide +kernel
theorem dL_law_500 : decode cL_law 500 = .ok (.iconst 3, 1) := by decide +kernel
theorem dL_law_501 : decode cL_law 501 = .ok (.iadd, 1) := by decide +kernel
theorem dL_law_502 : decode cL_law 502 = .ok (.iaload, 1) := by decide +kernel
theorem dL_law_503 : decode cL_law 503 = .ok (.invokevirtual 61, 3) := by decide +kernel
theorem dL_law_506 : decode cL_law 506 = .ok (.aload_n 2, 1) := by decide +kernel
theorem dL_law_507 : decode cL_law 507 = .ok (.aload_n 0, 1) := by decide +kernel
theorem dL_law_508 : decode cL_law 508 = .ok (.iload_n 3, 1) := by decide +kernel
theorem dL_law_509 : decode cL_law 509 = .ok (.iconst 1, 1) := by decide +kernel
theorem dL_law_510 : decode cL_law 510 = .ok (.iadd, 1) := by decide +kernel
theorem dL_law_511 : decode cL_law 511 = .ok (.iaload, 1) := by decide +kernel
theorem dL_law_512 : decode cL_law 512 = .ok (.aload_n 0, 1) := by decide +kernel
theorem dL_law_513 : decode cL_law 513 = .ok (.iload_n 3, 1) := by decide +kernel
theorem dL_law_514 : decode cL_law 514 = .ok (.iconst 2, 1) := by decide +kernel
theorem dL_law_515 : decode cL_law 515 = .ok (.iadd, 1) := by decide +kernel
theorem dL_law_516 : decode cL_law 516 = .ok (.iaload, 1) := by decide +kernel
theorem dL_law_517 : decode cL_law 517 = .ok (.aload_n 0, 1) := by decide +kernel
theorem dL_law_518 : decode cL_law 518 = .ok (.iload_n 3, 1) := by decide +kernel
theorem dL_law_519 : decode cL_law 519 = .ok (.iconst 3, 1) := by decide +kernel
theorem dL_law_520 : decode cL_law 520 = .ok (.iadd, 1) := by decide +kernel
theorem dL_law_521 : decode cL_law 521 = .ok (.iaload, 1) := by decide +kernel
theorem dL_law_522 : decode cL_law 522 = .ok (.invokevirtual 64, 3) := by decide +kernel
theorem dL_law_525 : decode cL_law 525 = .ok (.if_icmp .eq 362, 3) := by decide +kernel
theorem dL_law_528 : decode cL_law 528 = .ok (.iconst 0, 1) := by decide +kernel
theorem dL_law_529 : decode cL_law 529 = .ok (.ireturn, 1) := by decide +kernel
theorem dL_law_530 : decode cL_law 530 = .ok (.aload_n 1, 1) := by decide +kernel
theorem dL_law_531 : decode cL_law 531 = .ok (.aload_n 0, 1) := by decide +kernel
theorem dL_law_532 : decode cL_law 532 = .ok (.iload_n 3, 1) := by decide +kernel
theorem dL_law_533 : decode cL_law 533 = .ok (.iconst 1, 1) := by decide +kernel
theorem dL_law_534 : decode cL_law 534 = .ok (.iadd, 1) := by decide +kernel
theorem dL_law_535 : decode cL_law 535 = .ok (.iaload, 1) := by decide +kernel
theorem dL_law_536 : decode cL_law 536 = .ok (.aload_n 0, 1) := by decide +kernel
theorem dL_law_537 : decode cL_law 537 = .ok (.iload_n 3, 1) := by decide +kernel
theorem dL_law_538 : decode cL_law 538 = .ok (.iconst 2, 1) := by decide +kernel
theorem dL_law_539 : decode cL_law 539 = .ok (.iadd, 1) := by decide +kernel
theorem dL_law_540 : decode cL_law 540 = .ok (.iaload, 1) := by decide +kernel
theorem dL_law_541 : decode cL_law 541 = .ok (.invokevirtual 65, 3) := by decide +kernel
theorem dL_law_544 : decode cL_law 544 = .ok (.aload_n 2, 1) := by decide +kernel
theorem dL_law_545 : decode cL_law 545 = .ok (.aload_n 0, 1) := by decide +kernel
theorem dL_law_546 : decode cL_law 546 = .ok (.iload_n 3, 1) := by decide +kernel
theorem dL_law_547 : decode cL_law 547 = .ok (.iconst 1, 1) := by decide +kernel
theorem dL_law_548 : decode cL_law 548 = .ok (.iadd, 1) := by decide +kernel
theorem dL_law_549 : decode cL_law 549 = .ok (.iaload, 1) := by decide +kernel
theorem dL_law_550 : decode cL_law 550 = .ok (.aload_n 0, 1) := by decide +kernel
theorem dL_law_551 : decode cL_law 551 = .ok (.iload_n 3, 1) := by decide +kernel
theorem dL_law_552 : decode cL_law 552 = .ok (.iconst 2, 1) := by decide +kernel
theorem dL_law_553 : decode cL_law 553 = .ok (.iadd, 1) := by decide +kernel
theorem dL_law_554 : decode cL_law 554 = .ok (.iaload, 1) := by decide +kernel
theorem dL_law_555 : decode cL_law 555 = .ok (.invokevirtual 68, 3) := by decide +kernel
theorem dL_law_558 : decode cL_law 558 = .ok (.if_icmp .eq 329, 3) := by decide +kernel
theorem dL_law_561 : decode cL_law 561 = .ok (.iconst 0, 1) := by decide +kernel
theorem dL_law_562 : decode cL_law 562 = .ok (.ireturn, 1) := by decide +kernel
theorem dL_law_563 : decode cL_law 563 = .ok (.aload_n 1, 1) := by decide +kernel
theorem dL_law_564 : decode cL_law 564 = .ok (.aload_n 0, 1) := by decide +kernel
theorem dL_law_565 : decode cL_law 565 = .ok (.iload_n 3, 1) := by decide +kernel
theorem dL_law_566 : decode cL_law 566 = .ok (.iconst 1, 1) := by decide +kernel
theorem dL_law_567 : decode cL_law 567 = .ok (.iadd, 1) := by decide +kernel
theorem dL_law_568 : decode cL_law 568 = .ok (.iaload, 1) := by decide +kernel
theorem dL_law_569 : decode cL_law 569 = .ok (.invokevirtual 69, 3) := by decide +kernel
theorem dL_law_572 : decode cL_law 572 = .ok (.aload_n 2, 1) := by decide +kernel
theorem dL_law_573 : decode cL_law 573 = .ok (.aload_n 0, 1) := by decide +kernel
theorem dL_law_574 : decode cL_law 574 = .ok (.iload_n 3, 1) := by decide +kernel
theorem dL_law_575 : decode cL_law 575 = .ok (.iconst 1, 1) := by decide +kernel
theorem dL_law_576 : decode cL_law 576 = .ok (.iadd, 1) := by decide +kernel
theorem dL_law_577 : decode cL_law 577 = .ok (.iaload, 1) := by decide +kernel
theorem dL_law_578 : decode cL_law 578 = .ok (.invokevirtual 72, 3) := by decide +kernel
theorem dL_law_581 : decode cL_law 581 = .ok (.if_icmp .eq 306, 3) := by decide +kernel
theorem dL_law_584 : decode cL_law 584 = .ok (.iconst 0, 1) := by decide +kernel
theorem dL_law_585 : decode cL_law 585 = .ok (.ireturn, 1) := by decide +kernel
theorem dL_law_586 : decode cL_law 586 = .ok (.aload_n 1, 1) := by decide +kernel
theorem dL_law_587 : decode cL_law 587 = .ok (.aload_n 0, 1) := by decide +kernel
theorem dL_law_588 : decode cL_law 588 = .ok (.iload_n 3, 1) := by decide +kernel
theorem dL_law_589 : decode cL_law 589 = .ok (.iconst 1, 1) := by decide +kernel
theorem dL_law_590 : decode cL_law 590 = .ok (.iadd, 1) := by decide +kernel
theorem dL_law_591 : decode cL_law 591 = .ok (.iaload, 1) := by decide +kernel
theorem dL_law_592 : decode cL_law 592 = .ok (.aload_n 0, 1) := by decide +kernel
theorem dL_law_593 : decode cL_law 593 = .ok (.iload_n 3, 1) := by decide +kernel
theorem dL_law_594 : decode cL_law 594 = .ok (.iconst 2, 1) := by decide +kernel
theorem dL_law_595 : decode cL_law 595 = .ok (.iadd, 1) := by decide +kernel
theorem dL_law_596 : decode cL_law 596 = .ok (.iaload, 1) := by decide +kernel
theorem dL_law_597 : decode cL_law 597 = .ok (.aload_n 0, 1) := by decide +kernel
theorem dL_law_598 : decode cL_law 598 = .ok (.iload_n 3, 1) := by decide +kernel
theorem dL_law_599 : decode cL_law 599 = .ok (.iconst 3, 1) := by decide +kernel
theorem dL_law_600 : decode cL_law 600 = .ok (.iadd, 1) := by decide +kernel
theorem dL_law_601 : decode cL_law 601 = .ok (.iaload, 1) := by decide +kernel
theorem dL_law_602 : decode cL_law 602 = .ok (.invokevirtual 73, 3) := by decide +kernel
theorem dL_law_605 : decode cL_law 605 = .ok (.aload_n 2, 1) := by decide +kernel
theorem dL_law_606 : decode cL_law 606 = .ok (.aload_n 0, 1) := by decide +kernel
theorem dL_law_607 : decode cL_law 607 = .ok (.iload_n 3, 1) := by decide +kernel
theorem dL_law_608 : decode cL_law 608 = .ok (.iconst 1, 1) := by decide +kernel
theorem dL_law_609 : decode cL_law 609 = .ok (.iadd, 1) := by decide +kernel
theorem dL_law_610 : decode cL_law 610 = .ok (.iaload, 1) := by decide +kernel
theorem dL_law_611 : decode cL_law 611 = .ok (.aload_n 0, 1) := by decide +kernel
theorem dL_law_612 : decode cL_law 612 = .ok (.iload_n 3, 1) := by decide +kernel
theorem dL_law_613 : decode cL_law 613 = .ok (.iconst 2, 1) := by decide +kernel
theorem dL_law_614 : decode cL_law 614 = .ok (.iadd, 1) := by decide +kernel
theorem dL_law_615 : decode cL_law 615 = .ok (.iaload, 1) := by decide +kernel
theorem dL_law_616 : decode cL_law 616 = .ok (.aload_n 0, 1) := by decide +kernel
theorem dL_law_617 : decode cL_law 617 = .ok (.iload_n 3, 1) := by decide +kernel
theorem dL_law_618 : decode cL_law 618 = .ok (.iconst 3, 1) := by decide +kernel
theorem dL_law_619 : decode cL_law 619 = .ok (.iadd, 1) := by decide +kernel
theorem dL_law_620 : decode cL_law 620 = .ok (.iaload, 1) := by decide +kernel
theorem dL_law_621 : decode cL_law 621 = .ok (.invokevirtual 76, 3) := by decide +kernel
theorem dL_law_624 : decode cL_law 624 = .ok (.if_icmp .eq 263, 3) := by decide +kernel
theorem dL_law_627 : decode cL_law 627 = .ok (.iconst 0, 1) := by decide +kernel
theorem dL_law_628 : decode cL_law 628 = .ok (.ireturn, 1) := by decide +kernel
theorem dL_law_629 : decode cL_law 629 = .ok (.aload_n 1, 1) := by decide +kernel
theorem dL_law_630 : decode cL_law 630 = .ok (.aload_n 0, 1) := by decide +kernel
theorem dL_law_631 : decode cL_law 631 = .ok (.iload_n 3, 1) := by decide +kernel
theorem dL_law_632 : decode cL_law 632 = .ok (.iconst 1, 1) := by decide +kernel
theorem dL_law_633 : decode cL_law 633 = .ok (.iadd, 1) := by decide +kernel
theorem dL_law_634 : decode cL_law 634 = .ok (.iaload, 1) := by decide +kernel
theorem dL_law_635 : decode cL_law 635 = .ok (.invokevirtual 77, 3) := by decide +kernel
theorem dL_law_638 : decode cL_law 638 = .ok (.aload_n 2, 1) := by decide +kernel
theorem dL_law_639 : decode cL_law 639 = .ok (.aload_n 0, 1) := by decide +kernel
theorem dL_law_640 : decode cL_law 640 = .ok (.iload_n 3, 1) := by decide +kernel
theorem dL_law_641 : decode cL_law 641 = .ok (.iconst 1, 1) := by decide +kernel
theorem dL_law_642 : decode cL_law 642 = .ok (.iadd, 1) := by decide +kernel
theorem dL_law_643 : decode cL_law 643 = .ok (.iaload, 1) := by decide +kernel
theorem dL_law_644 : decode cL_law 644 = .ok (.invokevirtual 80, 3) := by decide +kernel
theorem dL_law_647 : decode cL_law 647 = .ok (.if_icmp .eq 240, 3) := by decide +kernel
theorem dL_law_650 : decode cL_law 650 = .ok (.iconst 0, 1) := by decide +kernel
theorem dL_law_651 : decode cL_law 651 = .ok (.ireturn, 1) := by decide +kernel
theorem dL_law_652 : decode cL_law 652 = .ok (.aload_n 1, 1) := by decide +kernel
theorem dL_law_653 : decode cL_law 653 = .ok (.aload_n 0, 1) := by decide +kernel
theorem dL_law_654 : decode cL_law 654 = .ok (.iload_n 3, 1) := by decide +kernel
theorem dL_law_655 : decode cL_law 655 = .ok (.iconst 1, 1) := by decide +kernel
theorem dL_law_656 : decode cL_law 656 = .ok (.iadd, 1) := by decide +kernel
theorem dL_law_657 : decode cL_law 657 = .ok (.iaload, 1) := by decide +kernel
theorem dL_law_658 : decode cL_law 658 = .ok (.aload_n 0, 1) := by decide +kernel
theorem dL_law_659 : decode cL_law 659 = .ok (.iload_n 3, 1) := by decide +kernel
theorem dL_law_660 : decode cL_law 660 = .ok (.iconst 2, 1) := by decide +kernel
theorem dL_law_661 : decode cL_law 661 = .ok (.iadd, 1) := by decide +kernel
theorem dL_law_662 : decode cL_law 662 = .ok (.iaload, 1) := by decide +kernel
theorem dL_law_663 : decode cL_law 663 = .ok (.invokevirtual 81, 3) := by decide +kernel
theorem dL_law_666 : decode cL_law 666 = .ok (.aload_n 2, 1) := by decide +kernel
theorem dL_law_667 : decode cL_law 667 = .ok (.aload_n 0, 1) := by decide +kernel
theorem dL_law_668 : decode cL_law 668 = .ok (.iload_n 3, 1) := by decide +kernel
theorem dL_law_669 : decode cL_law 669 = .ok (.iconst 1, 1) := by decide +kernel
theorem dL_law_670 : decode cL_law 670 = .ok (.iadd, 1) := by decide +kernel
theorem dL_law_671 : decode cL_law 671 = .ok (.iaload, 1) := by decide +kernel
theorem dL_law_672 : decode cL_law 672 = .ok (.aload_n 0, 1) := by decide +kernel
theorem dL_law_673 : decode cL_law 673 = .ok (.iload_n 3, 1) := by decide +kernel
theorem dL_law_674 : decode cL_law 674 = .ok (.iconst 2, 1) := by decide +kernel
theorem dL_law_675 : decode cL_law 675 = .ok (.iadd, 1) := by decide +kernel
theorem dL_law_676 : decode cL_law 676 = .ok (.iaload, 1) := by decide +kernel
theorem dL_law_677 : decode cL_law 677 = .ok (.invokevirtual 84, 3) := by decide +kernel
theorem dL_law_680 : decode cL_law 680 = .ok (.if_icmp .eq 207, 3) := by decide +kernel
theorem dL_law_683 : decode cL_law 683 = .ok (.iconst 0, 1) := by decide +kernel
theorem dL_law_684 : decode cL_law 684 = .ok (.ireturn, 1) := by decide +kernel
theorem dL_law_685 : decode cL_law 685 = .ok (.aload_n 1, 1) := by decide +kernel
theorem dL_law_686 : decode cL_law 686 = .ok (.aload_n 0, 1) := by decide +kernel
theorem dL_law_687 : decode cL_law 687 = .ok (.iload_n 3, 1) := by decide +kernel
theorem dL_law_688 : decode cL_law 688 = .ok (.iconst 1, 1) := by decide +kernel
theorem dL_law_689 : decode cL_law 689 = .ok (.iadd, 1) := by decide +kernel
theorem dL_law_690 : decode cL_law 690 = .ok (.iaload, 1) := by decide +kernel
theorem dL_law_691 : decode cL_law 691 = .ok (.aload_n 0, 1) := by decide +kernel
theorem dL_law_692 : decode cL_law 692 = .ok (.iload_n 3, 1) := by decide +kernel
theorem dL_law_693 : decode cL_law 693 = .ok (.iconst 2, 1) := by decide +kernel
theorem dL_law_694 : decode cL_law 694 = .ok (.iadd, 1) := by decide +kernel
theorem dL_law_695 : decode cL_law 695 = .ok (.iaload, 1) := by decide +kernel
theorem dL_law_696 : decode cL_law 696 = .ok (.invokevirtual 85, 3) := by decide +kernel
theorem dL_law_699 : decode cL_law 699 = .ok (.aload_n 2, 1) := by decide +kernel
theorem dL_law_700 : decode cL_law 700 = .ok (.aload_n 0, 1) := by decide +kernel
theorem dL_law_701 : decode cL_law 701 = .ok (.iload_n 3, 1) := by decide +kernel
theorem dL_law_702 : decode cL_law 702 = .ok (.iconst 1, 1) := by decide +kernel
theorem dL_law_703 : decode cL_law 703 = .ok (.iadd, 1) := by decide +kernel
theorem dL_law_704 : decode cL_law 704 = .ok (.iaload, 1) := by decide +kernel
theorem dL_law_705 : decode cL_law 705 = .ok (.aload_n 0, 1) := by decide +kernel
theorem dL_law_706 : decode cL_law 706 = .ok (.iload_n 3, 1) := by decide +kernel
theorem dL_law_707 : decode cL_law 707 = .ok (.iconst 2, 1) := by decide +kernel
theorem dL_law_708 : decode cL_law 708 = .ok (.iadd, 1) := by decide +kernel
theorem dL_law_709 : decode cL_law 709 = .ok (.iaload, 1) := by decide +kernel
theorem dL_law_710 : decode cL_law 710 = .ok (.invokevirtual 88, 3) := by decide +kernel
theorem dL_law_713 : decode cL_law 713 = .ok (.if_icmp .eq 174, 3) := by decide +kernel
theorem dL_law_716 : decode cL_law 716 = .ok (.iconst 0, 1) := by decide +kernel
theorem dL_law_717 : decode cL_law 717 = .ok (.ireturn, 1) := by decide +kernel
theorem dL_law_718 : decode cL_law 718 = .ok (.aload_n 1, 1) := by decide +kernel
theorem dL_law_719 : decode cL_law 719 = .ok (.aload_n 0, 1) := by decide +kernel
theorem dL_law_720 : decode cL_law 720 = .ok (.iload_n 3, 1) := by decide +kernel
theorem dL_law_721 : decode cL_law 721 = .ok (.iconst 1, 1) := by decide +kernel
theorem dL_law_722 : decode cL_law 722 = .ok (.iadd, 1) := by decide +kernel
theorem dL_law_723 : decode cL_law 723 = .ok (.iaload, 1) := by decide +kernel
theorem dL_law_724 : decode cL_law 724 = .ok (.aload_n 0, 1) := by decide +kernel
theorem dL_law_725 : decode cL_law 725 = .ok (.iload_n 3, 1) := by decide +kernel
theorem dL_law_726 : decode cL_law 726 = .ok (.iconst 2, 1) := by decide +kernel
theorem dL_law_727 : decode cL_law 727 = .ok (.iadd, 1) := by decide +kernel
theorem dL_law_728 : decode cL_law 728 = .ok (.iaload, 1) := by decide +kernel
theorem dL_law_729 : decode cL_law 729 = .ok (.invokevirtual 89, 3) := by decide +kernel
theorem dL_law_732 : decode cL_law 732 = .ok (.aload_n 2, 1) := by decide +kernel
theorem dL_law_733 : decode cL_law 733 = .ok (.aload_n 0, 1) := by decide +kernel
theorem dL_law_734 : decode cL_law 734 = .ok (.iload_n 3, 1) := by decide +kernel
theorem dL_law_735 : decode cL_law 735 = .ok (.iconst 1, 1) := by decide +kernel
theorem dL_law_736 : decode cL_law 736 = .ok (.iadd, 1) := by decide +kernel
theorem dL_law_737 : decode cL_law 737 = .ok (.iaload, 1) := by decide +kernel
theorem dL_law_738 : decode cL_law 738 = .ok (.aload_n 0, 1) := by decide +kernel
theorem dL_law_739 : decode cL_law 739 = .ok (.iload_n 3, 1) := by decide +kernel
theorem dL_law_740 : decode cL_law 740 = .ok (.iconst 2, 1) := by decide +kernel
theorem dL_law_741 : decode cL_law 741 = .ok (.iadd, 1) := by decide +kernel
theorem dL_law_742 : decode cL_law 742 = .ok (.iaload, 1) := by decide +kernel
theorem dL_law_743 : decode cL_law 743 = .ok (.invokevirtual 92, 3) := by decide +kernel
theorem dL_law_746 : decode cL_law 746 = .ok (.if_icmp .eq 141, 3) := by decide +kernel
theorem dL_law_749 : decode cL_law 749 = .ok (.iconst 0, 1) := by decide +kernel
theorem dL_law_750 : decode cL_law 750 = .ok (.ireturn, 1) := by decide +kernel
theorem dL_law_751 : decode cL_law 751 = .ok (.aload_n 1, 1) := by decide +kernel
theorem dL_law_752 : decode cL_law 752 = .ok (.aload_n 0, 1) := by decide +kernel
theorem dL_law_753 : decode cL_law 753 = .ok (.iload_n 3, 1) := by decide +kernel
theorem dL_law_754 : decode cL_law 754 = .ok (.iconst 1, 1) := by decide +kernel
theorem dL_law_755 : decode cL_law 755 = .ok (.iadd, 1) := by decide +kernel
theorem dL_law_756 : decode cL_law 756 = .ok (.iaload, 1) := by decide +kernel
theorem dL_law_757 : decode cL_law 757 = .ok (.aload_n 0, 1) := by decide +kernel
theorem dL_law_758 : decode cL_law 758 = .ok (.iload_n 3, 1) := by decide +kernel
theorem dL_law_759 : decode cL_law 759 = .ok (.iconst 2, 1) := by decide +kernel
theorem dL_law_760 : decode cL_law 760 = .ok (.iadd, 1) := by decide +kernel
theorem dL_law_761 : decode cL_law 761 = .ok (.iaload, 1) := by decide +kernel
theorem dL_law_762 : decode cL_law 762 = .ok (.invokevirtual 93, 3) := by decide +kernel
theorem dL_law_765 : decode cL_law 765 = .ok (.aload_n 2, 1) := by decide +kernel
theorem dL_law_766 : decode cL_law 766 = .ok (.aload_n 0, 1) := by decide +kernel
theorem dL_law_767 : decode cL_law 767 = .ok (.iload_n 3, 1) := by decide +kernel
theorem dL_law_768 : decode cL_law 768 = .ok (.iconst 1, 1) := by decide +kernel
theorem dL_law_769 : decode cL_law 769 = .ok (.iadd, 1) := by decide +kernel
theorem dL_law_770 : decode cL_law 770 = .ok (.iaload, 1) := by decide +kernel
theorem dL_law_771 : decode cL_law 771 = .ok (.aload_n 0, 1) := by decide +kernel
theorem dL_law_772 : decode cL_law 772 = .ok (.iload_n 3, 1) := by decide +kernel
theorem dL_law_773 : decode cL_law 773 = .ok (.iconst 2, 1) := by decide +kernel
theorem dL_law_774 : decode cL_law 774 = .ok (.iadd, 1) := by decide +kernel
theorem dL_law_775 : decode cL_law 775 = .ok (.iaload, 1) := by decide +kernel
theorem dL_law_776 : decode cL_law 776 = .ok (.invokevirtual 96, 3) := by decide +kernel
theorem dL_law_779 : decode cL_law 779 = .ok (.if_icmp .eq 108, 3) := by decide +kernel
theorem dL_law_782 : decode cL_law 782 = .ok (.iconst 0, 1) := by decide +kernel
theorem dL_law_783 : decode cL_law 783 = .ok (.ireturn, 1) := by decide +kernel
theorem dL_law_784 : decode cL_law 784 = .ok (.aload_n 1, 1) := by decide +kernel
theorem dL_law_785 : decode cL_law 785 = .ok (.aload_n 0, 1) := by decide +kernel
theorem dL_law_786 : decode cL_law 786 = .ok (.iload_n 3, 1) := by decide +kernel
theorem dL_law_787 : decode cL_law 787 = .ok (.iconst 1, 1) := by decide +kernel
theorem dL_law_788 : decode cL_law 788 = .ok (.iadd, 1) := by decide +kernel
theorem dL_law_789 : decode cL_law 789 = .ok (.iaload, 1) := by decide +kernel
theorem dL_law_790 : decode cL_law 790 = .ok (.invokevirtual 97, 3) := by decide +kernel
theorem dL_law_793 : decode cL_law 793 = .ok (.aload_n 2, 1) := by decide +kernel
theorem dL_law_794 : decode cL_law 794 = .ok (.aload_n 0, 1) := by decide +kernel
theorem dL_law_795 : decode cL_law 795 = .ok (.iload_n 3, 1) := by decide +kernel
theorem dL_law_796 : decode cL_law 796 = .ok (.iconst 1, 1) := by decide +kernel
theorem dL_law_797 : decode cL_law 797 = .ok (.iadd, 1) := by decide +kernel
theorem dL_law_798 : decode cL_law 798 = .ok (.iaload, 1) := by decide +kernel
theorem dL_law_799 : decode cL_law 799 = .ok (.invokevirtual 101, 3) := by decide +kernel
theorem dL_law_802 : decode cL_law 802 = .ok (.lcmp, 1) := by decide +kernel
theorem dL_law_803 : decode cL_law 803 = .ok (.ifCond .eq 84, 3) := by decide +kernel
theorem dL_law_806 : decode cL_law 806 = .ok (.iconst 0, 1) := by decide +kernel
theorem dL_law_807 : decode cL_law 807 = .ok (.ireturn, 1) := by decide +kernel
theorem dL_law_808 : decode cL_law 808 = .ok (.aload_n 1, 1) := by decide +kernel
theorem dL_law_809 : decode cL_law 809 = .ok (.aload_n 0, 1) := by decide +kernel
theorem dL_law_810 : decode cL_law 810 = .ok (.iload_n 3, 1) := by decide +kernel
theorem dL_law_811 : decode cL_law 811 = .ok (.iconst 1, 1) := by decide +kernel
theorem dL_law_812 : decode cL_law 812 = .ok (.iadd, 1) := by decide +kernel
theorem dL_law_813 : decode cL_law 813 = .ok (.iaload, 1) := by decide +kernel
theorem dL_law_814 : decode cL_law 814 = .ok (.aload_n 0, 1) := by decide +kernel
theorem dL_law_815 : decode cL_law 815 = .ok (.iload_n 3, 1) := by decide +kernel
theorem dL_law_816 : decode cL_law 816 = .ok (.iconst 2, 1) := by decide +kernel
theorem dL_law_817 : decode cL_law 817 = .ok (.iadd, 1) := by decide +kernel
theorem dL_law_818 : decode cL_law 818 = .ok (.iaload, 1) := by decide +kernel
theorem dL_law_819 : decode cL_law 819 = .ok (.aload_n 0, 1) := by decide +kernel
theorem dL_law_820 : decode cL_law 820 = .ok (.iload_n 3, 1) := by decide +kernel
theorem dL_law_821 : decode cL_law 821 = .ok (.iconst 3, 1) := by decide +kernel
theorem dL_law_822 : decode cL_law 822 = .ok (.iadd, 1) := by decide +kernel
theorem dL_law_823 : decode cL_law 823 = .ok (.iaload, 1) := by decide +kernel
theorem dL_law_824 : decode cL_law 824 = .ok (.invokevirtual 102, 3) := by decide +kernel
theorem dL_law_827 : decode cL_law 827 = .ok (.aload_n 2, 1) := by decide +kernel
theorem dL_law_828 : decode cL_law 828 = .ok (.aload_n 0, 1) := by decide +kernel
theorem dL_law_829 : decode cL_law 829 = .ok (.iload_n 3, 1) := by decide +kernel
theorem dL_law_830 : decode cL_law 830 = .ok (.iconst 1, 1) := by decide +kernel
theorem dL_law_831 : decode cL_law 831 = .ok (.iadd, 1) := by decide +kernel
theorem dL_law_832 : decode cL_law 832 = .ok (.iaload, 1) := by decide +kernel
theorem dL_law_833 : decode cL_law 833 = .ok (.aload_n 0, 1) := by decide +kernel
theorem dL_law_834 : decode cL_law 834 = .ok (.iload_n 3, 1) := by decide +kernel
theorem dL_law_835 : decode cL_law 835 = .ok (.iconst 2, 1) := by decide +kernel
theorem dL_law_836 : decode cL_law 836 = .ok (.iadd, 1) := by decide +kernel
theorem dL_law_837 : decode cL_law 837 = .ok (.iaload, 1) := by decide +kernel
theorem dL_law_838 : decode cL_law 838 = .ok (.aload_n 0, 1) := by decide +kernel
theorem dL_law_839 : decode cL_law 839 = .ok (.iload_n 3, 1) := by decide +kernel
theorem dL_law_840 : decode cL_law 840 = .ok (.iconst 3, 1) := by decide +kernel
theorem dL_law_841 : decode cL_law 841 = .ok (.iadd, 1) := by decide +kernel
theorem dL_law_842 : decode cL_law 842 = .ok (.iaload, 1) := by decide +kernel
theorem dL_law_843 : decode cL_law 843 = .ok (.invokevirtual 105, 3) := by decide +kernel
theorem dL_law_846 : decode cL_law 846 = .ok (.if_icmp .eq 41, 3) := by decide +kernel
theorem dL_law_849 : decode cL_law 849 = .ok (.iconst 0, 1) := by decide +kernel
theorem dL_law_850 : decode cL_law 850 = .ok (.ireturn, 1) := by decide +kernel
theorem dL_law_851 : decode cL_law 851 = .ok (.aload_n 1, 1) := by decide +kernel
theorem dL_law_852 : decode cL_law 852 = .ok (.invokevirtual 106, 3) := by decide +kernel
theorem dL_law_855 : decode cL_law 855 = .ok (.aload_n 2, 1) := by decide +kernel
theorem dL_law_856 : decode cL_law 856 = .ok (.invokevirtual 109, 3) := by decide +kernel
theorem dL_law_859 : decode cL_law 859 = .ok (.if_icmp .eq 28, 3) := by decide +kernel
theorem dL_law_862 : decode cL_law 862 = .ok (.iconst 0, 1) := by decide +kernel
theorem dL_law_863 : decode cL_law 863 = .ok (.ireturn, 1) := by decide +kernel
theorem dL_law_864 : decode cL_law 864 = .ok (.aload_n 1, 1) := by decide +kernel
theorem dL_law_865 : decode cL_law 865 = .ok (.aload_n 0, 1) := by decide +kernel
theorem dL_law_866 : decode cL_law 866 = .ok (.iload_n 3, 1) := by decide +kernel
theorem dL_law_867 : decode cL_law 867 = .ok (.iconst 1, 1) := by decide +kernel
theorem dL_law_868 : decode cL_law 868 = .ok (.iadd, 1) := by decide +kernel
theorem dL_law_869 : decode cL_law 869 = .ok (.iaload, 1) := by decide +kernel
theorem dL_law_870 : decode cL_law 870 = .ok (.invokevirtual 110, 3) := by decide +kernel
theorem dL_law_873 : decode cL_law 873 = .ok (.aload_n 2, 1) := by decide +kernel
theorem dL_law_874 : decode cL_law 874 = .ok (.aload_n 0, 1) := by decide +kernel
theorem dL_law_875 : decode cL_law 875 = .ok (.iload_n 3, 1) := by decide +kernel
theorem dL_law_876 : decode cL_law 876 = .ok (.iconst 1, 1) := by decide +kernel
theorem dL_law_877 : decode cL_law 877 = .ok (.iadd, 1) := by decide +kernel
theorem dL_law_878 : decode cL_law 878 = .ok (.iaload, 1) := by decide +kernel
theorem dL_law_879 : decode cL_law 879 = .ok (.invokevirtual 113, 3) := by decide +kernel
theorem dL_law_882 : decode cL_law 882 = .ok (.if_icmp .eq 5, 3) := by decide +kernel
theorem dL_law_885 : decode cL_law 885 = .ok (.iconst 0, 1) := by decide +kernel
theorem dL_law_886 : decode cL_law 886 = .ok (.ireturn, 1) := by decide +kernel
theorem dL_law_887 : decode cL_law 887 = .ok (.iinc 3 4, 3) := by decide +kernel
theorem dL_law_890 : decode cL_law 890 = .ok (.goto (-872), 3) := by decide +kernel
theorem dL_law_893 : decode cL_law 893 = .ok (.iconst 1, 1) := by decide +kernel
theorem dL_law_894 : decode cL_law 894 = .ok (.ireturn, 1) := by decide +kernel
end
section
/-! the words of the tables that every method may use (the good ones), and the nest words -/
def TT : List Cond := lw_tbl.filter goodWord
theorem tt_in {w : Cond} {i : Nat} (h : lw_tbl[i]? = some w) (g : goodWord w = true) : w ∈ TT := List.mem_filter.mpr ⟨List.mem_of_getElem? h, g⟩
theorem tt_all {ws : List Cond} (h : ∀ w ∈ ws, w ∈ lw_tbl) (g : ws.all goodWord = true) : ∀ w ∈ ws, w ∈ TT := fun w hw => List.mem_filter.mpr ⟨h w hw, List.all_eq_true.mp g w hw⟩
def isNest : Cond → Bool
  | .fieldLinkNest .. => true
  | .methodLinkNest .. => true
  | _ => false
def NT : List Cond := lw_tbl.filter isNest
theorem nt_in {w : Cond} {i : Nat} (h : lw_tbl[i]? = some w) (g : isNest w = true) : w ∈ NT := List.mem_filter.mpr ⟨List.mem_of_getElem? h, g⟩
theorem tt_0 : Cond.selects RX4 yX4_addFirm yX4_addFirm ∈ TT := tt_in (i := 0) (by decide +kernel) rfl
theorem tt_1 : Cond.selects RX4 yX4_hasFirm yX4_hasFirm ∈ TT := tt_in (i := 1) (by decide +kernel) rfl
theorem tt_2 : Cond.selects RX4 yX4_addObject yX4_addObject ∈ TT := tt_in (i := 2) (by decide +kernel) rfl
theorem tt_3 : Cond.selects RX5 yX5_reach yX5_reach ∈ TT := tt_in (i := 3) (by decide +kernel) rfl
theorem tt_4 : Cond.selects RX4 yX4_hasObject yX4_hasObject ∈ TT := tt_in (i := 4) (by decide +kernel) rfl
theorem tt_5 : Cond.selects RX4 yX4_onWriting yX4_onWriting ∈ TT := tt_in (i := 5) (by decide +kernel) rfl
theorem tt_6 : Cond.selects RX4 yX4_letRead yX4_letRead ∈ TT := tt_in (i := 6) (by decide +kernel) rfl
theorem tt_7 : Cond.selects RX4 yX4_onReading yX4_onReading ∈ TT := tt_in (i := 7) (by decide +kernel) rfl
theorem tt_8 : Cond.selects RX1 yX1_anyRuns yX1_anyRuns ∈ TT := tt_in (i := 8) (by decide +kernel) rfl
theorem tt_9 : Cond.selects RX1 yX1_runs yX1_runs ∈ TT := tt_in (i := 9) (by decide +kernel) rfl
theorem tt_10 : Cond.selects RX3 yX3_isFull yX3_isFull ∈ TT := tt_in (i := 10) (by decide +kernel) rfl
theorem tt_11 : Cond.selects RX4 yX4_showFirm yX4_showFirm ∈ TT := tt_in (i := 11) (by decide +kernel) rfl
theorem tt_12 : Cond.selects RX4 yX4_teachFirm yX4_teachFirm ∈ TT := tt_in (i := 12) (by decide +kernel) rfl
theorem tt_13 : Cond.selects RX3 yX3_add yX3_add ∈ TT := tt_in (i := 13) (by decide +kernel) rfl
theorem tt_14 : Cond.selects RX3 yX3_linkDue yX3_linkDue ∈ TT := tt_in (i := 14) (by decide +kernel) rfl
theorem tt_15 : Cond.selects RX1 yX1_openDuties yX1_openDuties ∈ TT := tt_in (i := 15) (by decide +kernel) rfl
theorem tt_16 : Cond.selects RX1 yX1_anyDue yX1_anyDue ∈ TT := tt_in (i := 16) (by decide +kernel) rfl
theorem tt_17 : Cond.selects RX1 yX1_due yX1_due ∈ TT := tt_in (i := 17) (by decide +kernel) rfl
theorem tt_18 : Cond.selects RX1 yX1_isFull yX1_isFull ∈ TT := tt_in (i := 18) (by decide +kernel) rfl
theorem tt_19 : Cond.selects RX1 yX1_addGlass yX1_addGlass ∈ TT := tt_in (i := 19) (by decide +kernel) rfl
theorem tt_20 : Cond.selects RX1 yX1_has yX1_has ∈ TT := tt_in (i := 20) (by decide +kernel) rfl
theorem tt_21 : Cond.selects RX5 yX5_alterableKind yX5_alterableKind ∈ TT := tt_in (i := 21) (by decide +kernel) rfl
theorem tt_22 : Cond.selects RX5 yX5_kindAt yX5_kindAt ∈ TT := tt_in (i := 22) (by decide +kernel) rfl
theorem tt_23 : Cond.selects RX2 yX2_taskBits yX2_taskBits ∈ TT := tt_in (i := 23) (by decide +kernel) rfl
theorem tt_24 : Cond.selects RX2 yX2_addTask yX2_addTask ∈ TT := tt_in (i := 24) (by decide +kernel) rfl
theorem tt_25 : Cond.selects RX2 yX2_arePair yX2_arePair ∈ TT := tt_in (i := 25) (by decide +kernel) rfl
theorem tt_26 : Cond.selects RX2 yX2_hasTask yX2_hasTask ∈ TT := tt_in (i := 26) (by decide +kernel) rfl
theorem tt_27 : Cond.selects RX5 yX5_caseAt yX5_caseAt ∈ TT := tt_in (i := 27) (by decide +kernel) rfl
theorem tt_28 : Cond.selects RX0 yX0_verdict yX0_verdict ∈ TT := tt_in (i := 28) (by decide +kernel) rfl
theorem tt_29 : Cond.selects RX0 yX0_leftBits yX0_leftBits ∈ TT := tt_in (i := 29) (by decide +kernel) rfl
theorem tt_30 : Cond.selects RX0 yX0_bitsDoneBy yX0_bitsDoneBy ∈ TT := tt_in (i := 30) (by decide +kernel) rfl
theorem tt_31 : Cond.selects RX0 yX0_wouldStick yX0_wouldStick ∈ TT := tt_in (i := 31) (by decide +kernel) rfl
theorem tt_32 : Cond.selects RX0 yX0_couldEnd yX0_couldEnd ∈ TT := tt_in (i := 32) (by decide +kernel) rfl
theorem tt_33 : Cond.selects RX2 yX2_tasksWithin yX2_tasksWithin ∈ TT := tt_in (i := 33) (by decide +kernel) rfl
theorem tt_34 : Cond.selects RX0 yX0_sharedWith yX0_sharedWith ∈ TT := tt_in (i := 34) (by decide +kernel) rfl
theorem tt_35 : Cond.selects RX2 yX2_allows yX2_allows ∈ TT := tt_in (i := 35) (by decide +kernel) rfl
theorem tt_36 : Cond.selects RX3 yX3_hasCell yX3_hasCell ∈ TT := tt_in (i := 36) (by decide +kernel) rfl
theorem tt_37 : Cond.selects RX3 yX3_hasEntry yX3_hasEntry ∈ TT := tt_in (i := 37) (by decide +kernel) rfl
theorem tt_38 : Cond.selects RX3 yX3_firstWrong yX3_firstWrong ∈ TT := tt_in (i := 38) (by decide +kernel) rfl
theorem tt_39 : Cond.selects RX6 yX6_access yX6_access ∈ TT := tt_in (i := 39) (by decide +kernel) rfl
theorem tt_40 : Cond.selects RX6 yX6_isWalled yX6_isWalled ∈ TT := tt_in (i := 40) (by decide +kernel) rfl
theorem tt_41 : Cond.selects RX6 yX6_isOpen yX6_isOpen ∈ TT := tt_in (i := 41) (by decide +kernel) rfl
theorem tt_42 : Cond.selects RX6 yX6_hasGlass yX6_hasGlass ∈ TT := tt_in (i := 42) (by decide +kernel) rfl
theorem tt_43 : Cond.selects RX6 yX6_enter yX6_enter ∈ TT := tt_in (i := 43) (by decide +kernel) rfl
theorem tt_44 : Cond.selects RX6 yX6_linkAt yX6_linkAt ∈ TT := tt_in (i := 44) (by decide +kernel) rfl
theorem tt_45 : Cond.selects RX6 yX6_duties yX6_duties ∈ TT := tt_in (i := 45) (by decide +kernel) rfl
theorem tt_46 : Cond.selects RX6 yX6_isLate yX6_isLate ∈ TT := tt_in (i := 46) (by decide +kernel) rfl
theorem tt_47 : Cond.selects RX6 yX6_isFree yX6_isFree ∈ TT := tt_in (i := 47) (by decide +kernel) rfl
theorem tt_48 : Cond.selects RX6 yX6_arePair yX6_arePair ∈ TT := tt_in (i := 48) (by decide +kernel) rfl
theorem tt_49 : Cond.selects RX6 yX6_canBe yX6_canBe ∈ TT := tt_in (i := 49) (by decide +kernel) rfl
theorem tt_50 : Cond.selects RX6 yX6_isFit yX6_isFit ∈ TT := tt_in (i := 50) (by decide +kernel) rfl
theorem tt_51 : Cond.selects RX6 yX6_isTask yX6_isTask ∈ TT := tt_in (i := 51) (by decide +kernel) rfl
theorem tt_52 : Cond.initialized RL ∈ TT := tt_in (i := 52) (by decide +kernel) rfl
theorem tt_53 : Cond.initialized RX5 ∈ TT := tt_in (i := 53) (by decide +kernel) rfl
theorem tt_54 : Cond.initialized RX4 ∈ TT := tt_in (i := 54) (by decide +kernel) rfl
theorem tt_55 : Cond.initialized RX1 ∈ TT := tt_in (i := 55) (by decide +kernel) rfl
theorem tt_56 : Cond.initialized RX3 ∈ TT := tt_in (i := 56) (by decide +kernel) rfl
theorem tt_57 : Cond.initialized RX6 ∈ TT := tt_in (i := 57) (by decide +kernel) rfl
theorem tt_58 : Cond.initialized RJ9 ∈ TT := tt_in (i := 58) (by decide +kernel) rfl
theorem tt_59 : Cond.initialized RX2 ∈ TT := tt_in (i := 59) (by decide +kernel) rfl
theorem tt_60 : Cond.initialized RX0 ∈ TT := tt_in (i := 60) (by decide +kernel) rfl
theorem tt_61 : Cond.initialized RJ6 ∈ TT := tt_in (i := 61) (by decide +kernel) rfl
theorem tt_62 : Cond.classLink RL 7 RX5 ∈ TT := tt_in (i := 62) (by decide +kernel) rfl
theorem tt_63 : Cond.instantiable RX5 9 ∈ TT := tt_in (i := 63) (by decide +kernel) rfl
theorem tt_64 : Cond.methodLink RL 9 yX5_init ∈ TT := tt_in (i := 64) (by decide +kernel) rfl
theorem tt_65 : Cond.instanceMethod yX5_init ∈ TT := tt_in (i := 65) (by decide +kernel) rfl
theorem tt_66 : Cond.code yX5_init cX5_init 1 none ∈ TT := tt_in (i := 66) (by decide +kernel) rfl
theorem tt_67 : Cond.methodLink RX5 1 objectInit ∈ TT := tt_in (i := 67) (by decide +kernel) rfl
theorem tt_68 : Cond.instanceMethod objectInit ∈ TT := tt_in (i := 68) (by decide +kernel) rfl
theorem tt_69 : Cond.code objectInit ⟨#[0xb1]⟩ 1 none ∈ TT := tt_in (i := 69) (by decide +kernel) rfl
theorem tt_70 : Cond.classLink RX5 13 RX4 ∈ TT := tt_in (i := 70) (by decide +kernel) rfl
theorem tt_71 : Cond.instantiable RX4 7 ∈ TT := tt_in (i := 71) (by decide +kernel) rfl
theorem nn_72 : Cond.methodLinkNest RX5 15 yX4_init "WallDesk" ∈ NT := nt_in (i := 72) (by decide +kernel) rfl
theorem tt_73 : Cond.instanceMethod yX4_init ∈ TT := tt_in (i := 73) (by decide +kernel) rfl
theorem tt_74 : Cond.code yX4_init cX4_init 1 none ∈ TT := tt_in (i := 74) (by decide +kernel) rfl
theorem tt_75 : Cond.methodLink RX4 3 objectInit ∈ TT := tt_in (i := 75) (by decide +kernel) rfl
theorem tt_76 : Cond.fieldLink RX4 9 (TX4 0).1 (TX4 0).2.1 (TX4 0).2.2.1 ∈ TT := tt_in (i := 76) (by decide +kernel) rfl
theorem tt_77 : Cond.fieldLink RX4 15 (TX4 1).1 (TX4 1).2.1 (TX4 1).2.2.1 ∈ TT := tt_in (i := 77) (by decide +kernel) rfl
theorem tt_78 : Cond.fieldLink RX4 18 (TX4 2).1 (TX4 2).2.1 (TX4 2).2.2.1 ∈ TT := tt_in (i := 78) (by decide +kernel) rfl
theorem nn_79 : Cond.fieldLinkNest RX5 245 (TX4 2).1 (TX4 2).2.1 (TX4 2).2.2.1 "WallDesk" ∈ NT := nt_in (i := 79) (by decide +kernel) rfl
theorem tt_80 : Cond.fieldLink RX4 21 (TX4 3).1 (TX4 3).2.1 (TX4 3).2.2.1 ∈ TT := tt_in (i := 80) (by decide +kernel) rfl
theorem nn_81 : Cond.fieldLinkNest RX5 201 (TX4 3).1 (TX4 3).2.1 (TX4 3).2.2.1 "WallDesk" ∈ NT := nt_in (i := 81) (by decide +kernel) rfl
theorem tt_82 : Cond.fieldLink RX4 24 (TX4 4).1 (TX4 4).2.1 (TX4 4).2.2.1 ∈ TT := tt_in (i := 82) (by decide +kernel) rfl
theorem nn_83 : Cond.fieldLinkNest RX5 204 (TX4 4).1 (TX4 4).2.1 (TX4 4).2.2.1 "WallDesk" ∈ NT := nt_in (i := 83) (by decide +kernel) rfl
theorem tt_84 : Cond.fieldLink RX4 27 (TX4 5).1 (TX4 5).2.1 (TX4 5).2.2.1 ∈ TT := tt_in (i := 84) (by decide +kernel) rfl
theorem nn_85 : Cond.fieldLinkNest RX5 232 (TX4 5).1 (TX4 5).2.1 (TX4 5).2.2.1 "WallDesk" ∈ NT := nt_in (i := 85) (by decide +kernel) rfl
theorem tt_86 : Cond.fieldLink RX4 35 (TX4 6).1 (TX4 6).2.1 (TX4 6).2.2.1 ∈ TT := tt_in (i := 86) (by decide +kernel) rfl
theorem nn_87 : Cond.fieldLinkNest RX5 235 (TX4 6).1 (TX4 6).2.1 (TX4 6).2.2.1 "WallDesk" ∈ NT := nt_in (i := 87) (by decide +kernel) rfl
theorem tt_103 : Cond.arrayClass .int ∈ TT := tt_in (i := 103) (by decide +kernel) rfl
theorem tt_104 : Cond.classLink RX5 20 RX1 ∈ TT := tt_in (i := 104) (by decide +kernel) rfl
theorem tt_105 : Cond.instantiable RX1 5 ∈ TT := tt_in (i := 105) (by decide +kernel) rfl
theorem nn_106 : Cond.methodLinkNest RX5 22 yX1_init "WallDesk" ∈ NT := nt_in (i := 106) (by decide +kernel) rfl
theorem tt_107 : Cond.instanceMethod yX1_init ∈ TT := tt_in (i := 107) (by decide +kernel) rfl
theorem tt_108 : Cond.code yX1_init cX1_init 1 none ∈ TT := tt_in (i := 108) (by decide +kernel) rfl
theorem tt_109 : Cond.methodLink RX1 3 objectInit ∈ TT := tt_in (i := 109) (by decide +kernel) rfl
theorem tt_110 : Cond.fieldLink RX1 9 (TX1 0).1 (TX1 0).2.1 (TX1 0).2.2.1 ∈ TT := tt_in (i := 110) (by decide +kernel) rfl
theorem nn_111 : Cond.fieldLinkNest RX5 108 (TX1 0).1 (TX1 0).2.1 (TX1 0).2.2.1 "WallDesk" ∈ NT := nt_in (i := 111) (by decide +kernel) rfl
theorem tt_112 : Cond.fieldLink RX1 15 (TX1 1).1 (TX1 1).2.1 (TX1 1).2.2.1 ∈ TT := tt_in (i := 112) (by decide +kernel) rfl
theorem nn_113 : Cond.fieldLinkNest RX5 207 (TX1 1).1 (TX1 1).2.1 (TX1 1).2.2.1 "WallDesk" ∈ NT := nt_in (i := 113) (by decide +kernel) rfl
theorem tt_114 : Cond.fieldLink RX1 18 (TX1 2).1 (TX1 2).2.1 (TX1 2).2.2.1 ∈ TT := tt_in (i := 114) (by decide +kernel) rfl
theorem nn_115 : Cond.fieldLinkNest RX5 210 (TX1 2).1 (TX1 2).2.1 (TX1 2).2.2.1 "WallDesk" ∈ NT := nt_in (i := 115) (by decide +kernel) rfl
theorem tt_116 : Cond.fieldLink RX1 21 (TX1 3).1 (TX1 3).2.1 (TX1 3).2.2.1 ∈ TT := tt_in (i := 116) (by decide +kernel) rfl
theorem nn_117 : Cond.fieldLinkNest RX5 101 (TX1 3).1 (TX1 3).2.1 (TX1 3).2.2.1 "WallDesk" ∈ NT := nt_in (i := 117) (by decide +kernel) rfl
theorem tt_118 : Cond.fieldLink RX1 25 (TX1 4).1 (TX1 4).2.1 (TX1 4).2.2.1 ∈ TT := tt_in (i := 118) (by decide +kernel) rfl
theorem nn_119 : Cond.fieldLinkNest RX5 238 (TX1 4).1 (TX1 4).2.1 (TX1 4).2.2.1 "WallDesk" ∈ NT := nt_in (i := 119) (by decide +kernel) rfl
theorem tt_131 : Cond.arrayClass .boolean ∈ TT := tt_in (i := 131) (by decide +kernel) rfl
theorem tt_132 : Cond.classLink RX5 27 RX2 ∈ TT := tt_in (i := 132) (by decide +kernel) rfl
theorem tt_134 : Cond.classLink RX5 33 RX0 ∈ TT := tt_in (i := 134) (by decide +kernel) rfl
theorem tt_136 : Cond.classLink RX5 39 RX3 ∈ TT := tt_in (i := 136) (by decide +kernel) rfl
theorem tt_137 : Cond.instantiable RX3 3 ∈ TT := tt_in (i := 137) (by decide +kernel) rfl
theorem nn_138 : Cond.methodLinkNest RX5 41 yX3_init "WallDesk" ∈ NT := nt_in (i := 138) (by decide +kernel) rfl
theorem tt_139 : Cond.instanceMethod yX3_init ∈ TT := tt_in (i := 139) (by decide +kernel) rfl
theorem tt_140 : Cond.code yX3_init cX3_init 1 none ∈ TT := tt_in (i := 140) (by decide +kernel) rfl
theorem tt_141 : Cond.methodLink RX3 3 objectInit ∈ TT := tt_in (i := 141) (by decide +kernel) rfl
theorem tt_142 : Cond.fieldLink RX3 11 (TX3 0).1 (TX3 0).2.1 (TX3 0).2.2.1 ∈ TT := tt_in (i := 142) (by decide +kernel) rfl
theorem nn_143 : Cond.fieldLinkNest RX5 219 (TX3 0).1 (TX3 0).2.1 (TX3 0).2.2.1 "WallDesk" ∈ NT := nt_in (i := 143) (by decide +kernel) rfl
theorem tt_144 : Cond.fieldLink RX3 15 (TX3 1).1 (TX3 1).2.1 (TX3 1).2.2.1 ∈ TT := tt_in (i := 144) (by decide +kernel) rfl
theorem nn_145 : Cond.fieldLinkNest RX5 225 (TX3 1).1 (TX3 1).2.1 (TX3 1).2.2.1 "WallDesk" ∈ NT := nt_in (i := 145) (by decide +kernel) rfl
theorem tt_146 : Cond.fieldLink RX3 19 (TX3 2).1 (TX3 2).2.1 (TX3 2).2.2.1 ∈ TT := tt_in (i := 146) (by decide +kernel) rfl
theorem nn_147 : Cond.fieldLinkNest RX5 241 (TX3 2).1 (TX3 2).2.1 (TX3 2).2.2.1 "WallDesk" ∈ NT := nt_in (i := 147) (by decide +kernel) rfl
theorem tt_155 : Cond.arrayClass .long ∈ TT := tt_in (i := 155) (by decide +kernel) rfl
theorem tt_156 : Cond.fieldLink RX5 9 (TX5 0).1 (TX5 0).2.1 (TX5 0).2.2.1 ∈ TT := tt_in (i := 156) (by decide +kernel) rfl
theorem tt_157 : Cond.fieldLink RX5 16 (TX5 1).1 (TX5 1).2.1 (TX5 1).2.2.1 ∈ TT := tt_in (i := 157) (by decide +kernel) rfl
theorem tt_158 : Cond.fieldLink RX5 23 (TX5 2).1 (TX5 2).2.1 (TX5 2).2.2.1 ∈ TT := tt_in (i := 158) (by decide +kernel) rfl
theorem tt_159 : Cond.fieldLink RX5 29 (TX5 3).1 (TX5 3).2.1 (TX5 3).2.2.1 ∈ TT := tt_in (i := 159) (by decide +kernel) rfl
theorem tt_160 : Cond.fieldLink RX5 35 (TX5 4).1 (TX5 4).2.1 (TX5 4).2.2.1 ∈ TT := tt_in (i := 160) (by decide +kernel) rfl
theorem tt_161 : Cond.fieldLink RX5 42 (TX5 5).1 (TX5 5).2.1 (TX5 5).2.2.1 ∈ TT := tt_in (i := 161) (by decide +kernel) rfl
theorem tt_162 : Cond.fieldLink RX5 120 (TX5 6).1 (TX5 6).2.1 (TX5 6).2.2.1 ∈ TT := tt_in (i := 162) (by decide +kernel) rfl
theorem tt_163 : Cond.fieldLink RX5 157 (TX5 7).1 (TX5 7).2.1 (TX5 7).2.2.1 ∈ TT := tt_in (i := 163) (by decide +kernel) rfl
theorem tt_164 : Cond.fieldLink RX5 46 (TX5 8).1 (TX5 8).2.1 (TX5 8).2.2.1 ∈ TT := tt_in (i := 164) (by decide +kernel) rfl
theorem tt_184 : Cond.methodLink RL 13 yX5_tick ∈ TT := tt_in (i := 184) (by decide +kernel) rfl
theorem tt_185 : Cond.instanceMethod yX5_tick ∈ TT := tt_in (i := 185) (by decide +kernel) rfl
theorem tt_186 : Cond.selects RX5 yX5_tick yX5_tick ∈ TT := tt_in (i := 186) (by decide +kernel) rfl
theorem tt_187 : Cond.code yX5_tick cX5_tick 2 (some .int) ∈ TT := tt_in (i := 187) (by decide +kernel) rfl
theorem tt_188 : Cond.constant RX5 50 (100000) ∈ TT := tt_in (i := 188) (by decide +kernel) rfl
theorem tt_189 : Cond.methodLink RL 18 yX5_roles ∈ TT := tt_in (i := 189) (by decide +kernel) rfl
theorem tt_190 : Cond.instanceMethod yX5_roles ∈ TT := tt_in (i := 190) (by decide +kernel) rfl
theorem tt_191 : Cond.selects RX5 yX5_roles yX5_roles ∈ TT := tt_in (i := 191) (by decide +kernel) rfl
theorem tt_192 : Cond.code yX5_roles cX5_roles 4 (some .int) ∈ TT := tt_in (i := 192) (by decide +kernel) rfl
theorem tt_193 : Cond.methodLink RX5 51 yX5_isUser ∈ TT := tt_in (i := 193) (by decide +kernel) rfl
theorem tt_194 : Cond.static yX5_isUser ∈ TT := tt_in (i := 194) (by decide +kernel) rfl
theorem tt_195 : Cond.code yX5_isUser cX5_isUser 1 (some .boolean) ∈ TT := tt_in (i := 195) (by decide +kernel) rfl
theorem tt_196 : Cond.methodLink RX5 55 yX5_isBelow ∈ TT := tt_in (i := 196) (by decide +kernel) rfl
theorem tt_197 : Cond.static yX5_isBelow ∈ TT := tt_in (i := 197) (by decide +kernel) rfl
theorem tt_198 : Cond.code yX5_isBelow cX5_isBelow 2 (some .boolean) ∈ TT := tt_in (i := 198) (by decide +kernel) rfl
theorem tt_199 : Cond.methodLink RL 23 yX5_firm ∈ TT := tt_in (i := 199) (by decide +kernel) rfl
theorem tt_200 : Cond.instanceMethod yX5_firm ∈ TT := tt_in (i := 200) (by decide +kernel) rfl
theorem tt_201 : Cond.selects RX5 yX5_firm yX5_firm ∈ TT := tt_in (i := 201) (by decide +kernel) rfl
theorem tt_202 : Cond.code yX5_firm cX5_firm 2 (some .int) ∈ TT := tt_in (i := 202) (by decide +kernel) rfl
theorem nn_203 : Cond.methodLinkNest RX5 59 yX4_addFirm "WallDesk" ∈ NT := nt_in (i := 203) (by decide +kernel) rfl
theorem tt_205 : Cond.instanceMethod yX4_addFirm ∈ TT := tt_in (i := 205) (by decide +kernel) rfl
theorem tt_206 : Cond.code yX4_addFirm cX4_addFirm 2 (some .int) ∈ TT := tt_in (i := 206) (by decide +kernel) rfl
theorem tt_207 : Cond.methodLink RL 27 yX5_object ∈ TT := tt_in (i := 207) (by decide +kernel) rfl
theorem tt_208 : Cond.instanceMethod yX5_object ∈ TT := tt_in (i := 208) (by decide +kernel) rfl
theorem tt_209 : Cond.selects RX5 yX5_object yX5_object ∈ TT := tt_in (i := 209) (by decide +kernel) rfl
theorem tt_210 : Cond.code yX5_object cX5_object 2 (some .int) ∈ TT := tt_in (i := 210) (by decide +kernel) rfl
theorem nn_211 : Cond.methodLinkNest RX5 63 yX4_hasFirm "WallDesk" ∈ NT := nt_in (i := 211) (by decide +kernel) rfl
theorem tt_213 : Cond.instanceMethod yX4_hasFirm ∈ TT := tt_in (i := 213) (by decide +kernel) rfl
theorem tt_214 : Cond.code yX4_hasFirm cX4_hasFirm 2 (some .boolean) ∈ TT := tt_in (i := 214) (by decide +kernel) rfl
theorem nn_215 : Cond.methodLinkNest RX4 31 yX5_isBelow "WallDesk" ∈ NT := nt_in (i := 215) (by decide +kernel) rfl
theorem nn_216 : Cond.methodLinkNest RX5 66 yX4_addObject "WallDesk" ∈ NT := nt_in (i := 216) (by decide +kernel) rfl
theorem tt_218 : Cond.instanceMethod yX4_addObject ∈ TT := tt_in (i := 218) (by decide +kernel) rfl
theorem tt_219 : Cond.code yX4_addObject cX4_addObject 2 (some .int) ∈ TT := tt_in (i := 219) (by decide +kernel) rfl
theorem tt_220 : Cond.methodLink RL 31 yX5_read ∈ TT := tt_in (i := 220) (by decide +kernel) rfl
theorem tt_221 : Cond.instanceMethod yX5_read ∈ TT := tt_in (i := 221) (by decide +kernel) rfl
theorem tt_222 : Cond.selects RX5 yX5_read yX5_read ∈ TT := tt_in (i := 222) (by decide +kernel) rfl
theorem tt_223 : Cond.code yX5_read cX5_read 3 (some .int) ∈ TT := tt_in (i := 223) (by decide +kernel) rfl
theorem tt_224 : Cond.methodLink RX5 69 yX5_reach ∈ TT := tt_in (i := 224) (by decide +kernel) rfl
theorem tt_226 : Cond.instanceMethod yX5_reach ∈ TT := tt_in (i := 226) (by decide +kernel) rfl
theorem tt_227 : Cond.code yX5_reach cX5_reach 7 (some .int) ∈ TT := tt_in (i := 227) (by decide +kernel) rfl
theorem nn_228 : Cond.methodLinkNest RX5 242 yX4_hasObject "WallDesk" ∈ NT := nt_in (i := 228) (by decide +kernel) rfl
theorem tt_230 : Cond.instanceMethod yX4_hasObject ∈ TT := tt_in (i := 230) (by decide +kernel) rfl
theorem tt_231 : Cond.code yX4_hasObject cX4_hasObject 2 (some .boolean) ∈ TT := tt_in (i := 231) (by decide +kernel) rfl
theorem nn_232 : Cond.methodLinkNest RX5 248 yX4_onWriting "WallDesk" ∈ NT := nt_in (i := 232) (by decide +kernel) rfl
theorem tt_234 : Cond.instanceMethod yX4_onWriting ∈ TT := tt_in (i := 234) (by decide +kernel) rfl
theorem tt_235 : Cond.code yX4_onWriting cX4_onWriting 4 (some .int) ∈ TT := tt_in (i := 235) (by decide +kernel) rfl
theorem tt_236 : Cond.methodLink RX4 41 yX4_letRead ∈ TT := tt_in (i := 236) (by decide +kernel) rfl
theorem tt_238 : Cond.instanceMethod yX4_letRead ∈ TT := tt_in (i := 238) (by decide +kernel) rfl
theorem tt_239 : Cond.code yX4_letRead cX4_letRead 4 (some .boolean) ∈ TT := tt_in (i := 239) (by decide +kernel) rfl
theorem nn_240 : Cond.methodLinkNest RX4 38 yX5_hasBit "WallDesk" ∈ NT := nt_in (i := 240) (by decide +kernel) rfl
theorem tt_241 : Cond.static yX5_hasBit ∈ TT := tt_in (i := 241) (by decide +kernel) rfl
theorem tt_242 : Cond.code yX5_hasBit cX5_hasBit 2 (some .boolean) ∈ TT := tt_in (i := 242) (by decide +kernel) rfl
theorem nn_243 : Cond.methodLinkNest RX5 251 yX4_onReading "WallDesk" ∈ NT := nt_in (i := 243) (by decide +kernel) rfl
theorem tt_245 : Cond.instanceMethod yX4_onReading ∈ TT := tt_in (i := 245) (by decide +kernel) rfl
theorem tt_246 : Cond.code yX4_onReading cX4_onReading 3 (some .int) ∈ TT := tt_in (i := 246) (by decide +kernel) rfl
theorem nn_247 : Cond.methodLinkNest RX5 76 yX1_anyRuns "WallDesk" ∈ NT := nt_in (i := 247) (by decide +kernel) rfl
theorem tt_249 : Cond.instanceMethod yX1_anyRuns ∈ TT := tt_in (i := 249) (by decide +kernel) rfl
theorem tt_250 : Cond.code yX1_anyRuns cX1_anyRuns 5 (some .boolean) ∈ TT := tt_in (i := 250) (by decide +kernel) rfl
theorem tt_251 : Cond.methodLink RX1 33 yX1_runs ∈ TT := tt_in (i := 251) (by decide +kernel) rfl
theorem tt_253 : Cond.instanceMethod yX1_runs ∈ TT := tt_in (i := 253) (by decide +kernel) rfl
theorem tt_254 : Cond.code yX1_runs cX1_runs 3 (some .boolean) ∈ TT := tt_in (i := 254) (by decide +kernel) rfl
theorem nn_255 : Cond.methodLinkNest RX5 90 yX3_isFull "WallDesk" ∈ NT := nt_in (i := 255) (by decide +kernel) rfl
theorem tt_257 : Cond.instanceMethod yX3_isFull ∈ TT := tt_in (i := 257) (by decide +kernel) rfl
theorem tt_258 : Cond.code yX3_isFull cX3_isFull 1 (some .boolean) ∈ TT := tt_in (i := 258) (by decide +kernel) rfl
theorem nn_259 : Cond.methodLinkNest RX5 254 yX4_showFirm "WallDesk" ∈ NT := nt_in (i := 259) (by decide +kernel) rfl
theorem tt_261 : Cond.instanceMethod yX4_showFirm ∈ TT := tt_in (i := 261) (by decide +kernel) rfl
theorem tt_262 : Cond.code yX4_showFirm cX4_showFirm 3 none ∈ TT := tt_in (i := 262) (by decide +kernel) rfl
theorem nn_263 : Cond.methodLinkNest RX5 258 yX4_teachFirm "WallDesk" ∈ NT := nt_in (i := 263) (by decide +kernel) rfl
theorem tt_265 : Cond.instanceMethod yX4_teachFirm ∈ TT := tt_in (i := 265) (by decide +kernel) rfl
theorem tt_266 : Cond.code yX4_teachFirm cX4_teachFirm 3 none ∈ TT := tt_in (i := 266) (by decide +kernel) rfl
theorem tt_267 : Cond.methodLink RX5 197 yX5_asNumber ∈ TT := tt_in (i := 267) (by decide +kernel) rfl
theorem tt_268 : Cond.static yX5_asNumber ∈ TT := tt_in (i := 268) (by decide +kernel) rfl
theorem tt_269 : Cond.code yX5_asNumber cX5_asNumber 1 (some .int) ∈ TT := tt_in (i := 269) (by decide +kernel) rfl
theorem nn_270 : Cond.methodLinkNest RX5 94 yX3_add "WallDesk" ∈ NT := nt_in (i := 270) (by decide +kernel) rfl
theorem tt_272 : Cond.instanceMethod yX3_add ∈ TT := tt_in (i := 272) (by decide +kernel) rfl
theorem tt_273 : Cond.code yX3_add cX3_add 7 none ∈ TT := tt_in (i := 273) (by decide +kernel) rfl
theorem tt_274 : Cond.methodLink RX3 31 yX3_linkDue ∈ TT := tt_in (i := 274) (by decide +kernel) rfl
theorem tt_276 : Cond.instanceMethod yX3_linkDue ∈ TT := tt_in (i := 276) (by decide +kernel) rfl
theorem tt_277 : Cond.code yX3_linkDue cX3_linkDue 6 (some .long) ∈ TT := tt_in (i := 277) (by decide +kernel) rfl
theorem tt_278 : Cond.constantLong RX3 35 (-7046029254386353131) ∈ TT := tt_in (i := 278) (by decide +kernel) rfl
theorem tt_279 : Cond.constantLong RX3 37 (-4658895280553007687) ∈ TT := tt_in (i := 279) (by decide +kernel) rfl
theorem tt_280 : Cond.constantLong RX3 39 (-7723592293110705685) ∈ TT := tt_in (i := 280) (by decide +kernel) rfl
theorem tt_281 : Cond.methodLink RL 35 yX5_write ∈ TT := tt_in (i := 281) (by decide +kernel) rfl
theorem tt_282 : Cond.instanceMethod yX5_write ∈ TT := tt_in (i := 282) (by decide +kernel) rfl
theorem tt_283 : Cond.selects RX5 yX5_write yX5_write ∈ TT := tt_in (i := 283) (by decide +kernel) rfl
theorem tt_284 : Cond.code yX5_write cX5_write 3 (some .int) ∈ TT := tt_in (i := 284) (by decide +kernel) rfl
theorem tt_285 : Cond.methodLink RL 39 yX5_glass ∈ TT := tt_in (i := 285) (by decide +kernel) rfl
theorem tt_286 : Cond.instanceMethod yX5_glass ∈ TT := tt_in (i := 286) (by decide +kernel) rfl
theorem tt_287 : Cond.selects RX5 yX5_glass yX5_glass ∈ TT := tt_in (i := 287) (by decide +kernel) rfl
theorem tt_288 : Cond.code yX5_glass cX5_glass 5 (some .int) ∈ TT := tt_in (i := 288) (by decide +kernel) rfl
theorem nn_289 : Cond.methodLinkNest RX5 73 yX4_letRead "WallDesk" ∈ NT := nt_in (i := 289) (by decide +kernel) rfl
theorem nn_290 : Cond.methodLinkNest RX5 80 yX1_openDuties "WallDesk" ∈ NT := nt_in (i := 290) (by decide +kernel) rfl
theorem tt_292 : Cond.instanceMethod yX1_openDuties ∈ TT := tt_in (i := 292) (by decide +kernel) rfl
theorem tt_293 : Cond.code yX1_openDuties cX1_openDuties 4 (some .int) ∈ TT := tt_in (i := 293) (by decide +kernel) rfl
theorem nn_294 : Cond.methodLinkNest RX5 83 yX1_anyDue "WallDesk" ∈ NT := nt_in (i := 294) (by decide +kernel) rfl
theorem tt_296 : Cond.instanceMethod yX1_anyDue ∈ TT := tt_in (i := 296) (by decide +kernel) rfl
theorem tt_297 : Cond.code yX1_anyDue cX1_anyDue 4 (some .boolean) ∈ TT := tt_in (i := 297) (by decide +kernel) rfl
theorem tt_298 : Cond.methodLink RX1 36 yX1_due ∈ TT := tt_in (i := 298) (by decide +kernel) rfl
theorem tt_300 : Cond.instanceMethod yX1_due ∈ TT := tt_in (i := 300) (by decide +kernel) rfl
theorem tt_301 : Cond.code yX1_due cX1_due 2 (some .int) ∈ TT := tt_in (i := 301) (by decide +kernel) rfl
theorem nn_302 : Cond.methodLinkNest RX5 86 yX1_isFull "WallDesk" ∈ NT := nt_in (i := 302) (by decide +kernel) rfl
theorem tt_304 : Cond.instanceMethod yX1_isFull ∈ TT := tt_in (i := 304) (by decide +kernel) rfl
theorem tt_305 : Cond.code yX1_isFull cX1_isFull 1 (some .boolean) ∈ TT := tt_in (i := 305) (by decide +kernel) rfl
theorem nn_306 : Cond.methodLinkNest RX5 91 yX1_addGlass "WallDesk" ∈ NT := nt_in (i := 306) (by decide +kernel) rfl
theorem tt_308 : Cond.instanceMethod yX1_addGlass ∈ TT := tt_in (i := 308) (by decide +kernel) rfl
theorem tt_309 : Cond.code yX1_addGlass cX1_addGlass 4 (some .int) ∈ TT := tt_in (i := 309) (by decide +kernel) rfl
theorem tt_310 : Cond.methodLink RL 44 yX5_takeOff ∈ TT := tt_in (i := 310) (by decide +kernel) rfl
theorem tt_311 : Cond.instanceMethod yX5_takeOff ∈ TT := tt_in (i := 311) (by decide +kernel) rfl
theorem tt_312 : Cond.selects RX5 yX5_takeOff yX5_takeOff ∈ TT := tt_in (i := 312) (by decide +kernel) rfl
theorem tt_313 : Cond.code yX5_takeOff cX5_takeOff 3 (some .int) ∈ TT := tt_in (i := 313) (by decide +kernel) rfl
theorem nn_314 : Cond.methodLinkNest RX5 98 yX1_has "WallDesk" ∈ NT := nt_in (i := 314) (by decide +kernel) rfl
theorem tt_316 : Cond.instanceMethod yX1_has ∈ TT := tt_in (i := 316) (by decide +kernel) rfl
theorem tt_317 : Cond.code yX1_has cX1_has 2 (some .boolean) ∈ TT := tt_in (i := 317) (by decide +kernel) rfl
theorem nn_318 : Cond.methodLinkNest RX1 29 yX5_isBelow "WallDesk" ∈ NT := nt_in (i := 318) (by decide +kernel) rfl
theorem tt_319 : Cond.methodLink RX5 105 yX5_hasBit ∈ TT := tt_in (i := 319) (by decide +kernel) rfl
theorem nn_320 : Cond.methodLinkNest RX5 111 yX1_due "WallDesk" ∈ NT := nt_in (i := 320) (by decide +kernel) rfl
theorem tt_321 : Cond.methodLink RX5 114 Lib.Math.max.name ∈ TT := tt_in (i := 321) (by decide +kernel) rfl
theorem tt_322 : Cond.static Lib.Math.max.name ∈ TT := tt_in (i := 322) (by decide +kernel) rfl
theorem tt_323 : Cond.code Lib.Math.max.name Lib.Math.max.code 2 (some .int) ∈ TT := tt_in (i := 323) (by decide +kernel) rfl
theorem tt_324 : Cond.methodLink RL 48 yX5_kind ∈ TT := tt_in (i := 324) (by decide +kernel) rfl
theorem tt_325 : Cond.instanceMethod yX5_kind ∈ TT := tt_in (i := 325) (by decide +kernel) rfl
theorem tt_326 : Cond.selects RX5 yX5_kind yX5_kind ∈ TT := tt_in (i := 326) (by decide +kernel) rfl
theorem tt_327 : Cond.code yX5_kind cX5_kind 1 (some .int) ∈ TT := tt_in (i := 327) (by decide +kernel) rfl
theorem tt_328 : Cond.instantiable RX2 7 ∈ TT := tt_in (i := 328) (by decide +kernel) rfl
theorem nn_329 : Cond.methodLinkNest RX5 123 yX2_init "WallDesk" ∈ NT := nt_in (i := 329) (by decide +kernel) rfl
theorem tt_330 : Cond.instanceMethod yX2_init ∈ TT := tt_in (i := 330) (by decide +kernel) rfl
theorem tt_331 : Cond.code yX2_init cX2_init 1 none ∈ TT := tt_in (i := 331) (by decide +kernel) rfl
theorem tt_332 : Cond.methodLink RX2 3 objectInit ∈ TT := tt_in (i := 332) (by decide +kernel) rfl
theorem tt_333 : Cond.fieldLink RX2 9 (TX2 0).1 (TX2 0).2.1 (TX2 0).2.2.1 ∈ TT := tt_in (i := 333) (by decide +kernel) rfl
theorem nn_334 : Cond.fieldLinkNest RX0 43 (TX2 0).1 (TX2 0).2.1 (TX2 0).2.2.1 "WallDesk" ∈ NT := nt_in (i := 334) (by decide +kernel) rfl
theorem tt_335 : Cond.fieldLink RX2 15 (TX2 1).1 (TX2 1).2.1 (TX2 1).2.2.1 ∈ TT := tt_in (i := 335) (by decide +kernel) rfl
theorem nn_336 : Cond.fieldLinkNest RX0 40 (TX2 1).1 (TX2 1).2.1 (TX2 1).2.2.1 "WallDesk" ∈ NT := nt_in (i := 336) (by decide +kernel) rfl
theorem tt_337 : Cond.fieldLink RX2 18 (TX2 2).1 (TX2 2).2.1 (TX2 2).2.2.1 ∈ TT := tt_in (i := 337) (by decide +kernel) rfl
theorem nn_338 : Cond.fieldLinkNest RX0 46 (TX2 2).1 (TX2 2).2.1 (TX2 2).2.2.1 "WallDesk" ∈ NT := nt_in (i := 338) (by decide +kernel) rfl
theorem nn_339 : Cond.fieldLinkNest RX5 138 (TX2 2).1 (TX2 2).2.1 (TX2 2).2.2.1 "WallDesk" ∈ NT := nt_in (i := 339) (by decide +kernel) rfl
theorem tt_340 : Cond.fieldLink RX2 21 (TX2 3).1 (TX2 3).2.1 (TX2 3).2.2.1 ∈ TT := tt_in (i := 340) (by decide +kernel) rfl
theorem nn_341 : Cond.fieldLinkNest RX0 49 (TX2 3).1 (TX2 3).2.1 (TX2 3).2.2.1 "WallDesk" ∈ NT := nt_in (i := 341) (by decide +kernel) rfl
theorem nn_342 : Cond.fieldLinkNest RX5 145 (TX2 3).1 (TX2 3).2.1 (TX2 3).2.2.1 "WallDesk" ∈ NT := nt_in (i := 342) (by decide +kernel) rfl
theorem tt_343 : Cond.fieldLink RX2 28 (TX2 4).1 (TX2 4).2.1 (TX2 4).2.2.1 ∈ TT := tt_in (i := 343) (by decide +kernel) rfl
theorem nn_344 : Cond.fieldLinkNest RX0 19 (TX2 4).1 (TX2 4).2.1 (TX2 4).2.2.1 "WallDesk" ∈ NT := nt_in (i := 344) (by decide +kernel) rfl
theorem nn_345 : Cond.fieldLinkNest RX5 154 (TX2 4).1 (TX2 4).2.1 (TX2 4).2.2.1 "WallDesk" ∈ NT := nt_in (i := 345) (by decide +kernel) rfl
theorem tt_346 : Cond.fieldLink RX2 24 (TX2 5).1 (TX2 5).2.1 (TX2 5).2.2.1 ∈ TT := tt_in (i := 346) (by decide +kernel) rfl
theorem nn_347 : Cond.fieldLinkNest RX0 57 (TX2 5).1 (TX2 5).2.1 (TX2 5).2.2.1 "WallDesk" ∈ NT := nt_in (i := 347) (by decide +kernel) rfl
theorem nn_348 : Cond.fieldLinkNest RX5 148 (TX2 5).1 (TX2 5).2.1 (TX2 5).2.2.1 "WallDesk" ∈ NT := nt_in (i := 348) (by decide +kernel) rfl
theorem nn_349 : Cond.fieldLinkNest RX5 160 (TX2 6).1 (TX2 6).2.1 (TX2 6).2.2.1 "WallDesk" ∈ NT := nt_in (i := 349) (by decide +kernel) rfl
theorem tt_365 : Cond.methodLink RL 53 yX5_task ∈ TT := tt_in (i := 365) (by decide +kernel) rfl
theorem tt_366 : Cond.instanceMethod yX5_task ∈ TT := tt_in (i := 366) (by decide +kernel) rfl
theorem tt_367 : Cond.selects RX5 yX5_task yX5_task ∈ TT := tt_in (i := 367) (by decide +kernel) rfl
theorem tt_368 : Cond.code yX5_task cX5_task 5 (some .int) ∈ TT := tt_in (i := 368) (by decide +kernel) rfl
theorem tt_369 : Cond.methodLink RX5 124 yX5_alterableKind ∈ TT := tt_in (i := 369) (by decide +kernel) rfl
theorem tt_371 : Cond.instanceMethod yX5_alterableKind ∈ TT := tt_in (i := 371) (by decide +kernel) rfl
theorem tt_372 : Cond.code yX5_alterableKind cX5_alterableKind 3 (some (.object "WallDesk$Kind")) ∈ TT := tt_in (i := 372) (by decide +kernel) rfl
theorem tt_373 : Cond.methodLink RX5 151 yX5_kindAt ∈ TT := tt_in (i := 373) (by decide +kernel) rfl
theorem tt_375 : Cond.instanceMethod yX5_kindAt ∈ TT := tt_in (i := 375) (by decide +kernel) rfl
theorem tt_376 : Cond.code yX5_kindAt cX5_kindAt 2 (some (.object "WallDesk$Kind")) ∈ TT := tt_in (i := 376) (by decide +kernel) rfl
theorem nn_377 : Cond.methodLinkNest RX5 128 yX2_taskBits "WallDesk" ∈ NT := nt_in (i := 377) (by decide +kernel) rfl
theorem tt_379 : Cond.instanceMethod yX2_taskBits ∈ TT := tt_in (i := 379) (by decide +kernel) rfl
theorem tt_380 : Cond.code yX2_taskBits cX2_taskBits 1 (some .int) ∈ TT := tt_in (i := 380) (by decide +kernel) rfl
theorem nn_381 : Cond.methodLinkNest RX5 132 yX2_addTask "WallDesk" ∈ NT := nt_in (i := 381) (by decide +kernel) rfl
theorem tt_383 : Cond.instanceMethod yX2_addTask ∈ TT := tt_in (i := 383) (by decide +kernel) rfl
theorem tt_384 : Cond.code yX2_addTask cX2_addTask 3 (some .int) ∈ TT := tt_in (i := 384) (by decide +kernel) rfl
theorem tt_385 : Cond.methodLink RL 57 yX5_apart ∈ TT := tt_in (i := 385) (by decide +kernel) rfl
theorem tt_386 : Cond.instanceMethod yX5_apart ∈ TT := tt_in (i := 386) (by decide +kernel) rfl
theorem tt_387 : Cond.selects RX5 yX5_apart yX5_apart ∈ TT := tt_in (i := 387) (by decide +kernel) rfl
theorem tt_388 : Cond.code yX5_apart cX5_apart 5 (some .int) ∈ TT := tt_in (i := 388) (by decide +kernel) rfl
theorem nn_389 : Cond.methodLinkNest RX5 135 yX2_arePair "WallDesk" ∈ NT := nt_in (i := 389) (by decide +kernel) rfl
theorem tt_391 : Cond.instanceMethod yX2_arePair ∈ TT := tt_in (i := 391) (by decide +kernel) rfl
theorem tt_392 : Cond.code yX2_arePair cX2_arePair 3 (some .boolean) ∈ TT := tt_in (i := 392) (by decide +kernel) rfl
theorem tt_393 : Cond.methodLink RX2 35 yX2_hasTask ∈ TT := tt_in (i := 393) (by decide +kernel) rfl
theorem tt_395 : Cond.instanceMethod yX2_hasTask ∈ TT := tt_in (i := 395) (by decide +kernel) rfl
theorem tt_396 : Cond.code yX2_hasTask cX2_hasTask 2 (some .boolean) ∈ TT := tt_in (i := 396) (by decide +kernel) rfl
theorem nn_397 : Cond.methodLinkNest RX2 31 yX5_isBelow "WallDesk" ∈ NT := nt_in (i := 397) (by decide +kernel) rfl
theorem tt_398 : Cond.methodLink RX5 141 yX5_joinPair ∈ TT := tt_in (i := 398) (by decide +kernel) rfl
theorem tt_399 : Cond.static yX5_joinPair ∈ TT := tt_in (i := 399) (by decide +kernel) rfl
theorem tt_400 : Cond.code yX5_joinPair cX5_joinPair 4 (some .int) ∈ TT := tt_in (i := 400) (by decide +kernel) rfl
theorem tt_401 : Cond.methodLink RL 61 yX5_bound ∈ TT := tt_in (i := 401) (by decide +kernel) rfl
theorem tt_402 : Cond.instanceMethod yX5_bound ∈ TT := tt_in (i := 402) (by decide +kernel) rfl
theorem tt_403 : Cond.selects RX5 yX5_bound yX5_bound ∈ TT := tt_in (i := 403) (by decide +kernel) rfl
theorem tt_404 : Cond.code yX5_bound cX5_bound 5 (some .int) ∈ TT := tt_in (i := 404) (by decide +kernel) rfl
theorem tt_405 : Cond.methodLink RL 65 yX5_most ∈ TT := tt_in (i := 405) (by decide +kernel) rfl
theorem tt_406 : Cond.instanceMethod yX5_most ∈ TT := tt_in (i := 406) (by decide +kernel) rfl
theorem tt_407 : Cond.selects RX5 yX5_most yX5_most ∈ TT := tt_in (i := 407) (by decide +kernel) rfl
theorem tt_408 : Cond.code yX5_most cX5_most 5 (some .int) ∈ TT := tt_in (i := 408) (by decide +kernel) rfl
theorem tt_409 : Cond.methodLink RL 69 yX5_open ∈ TT := tt_in (i := 409) (by decide +kernel) rfl
theorem tt_410 : Cond.instanceMethod yX5_open ∈ TT := tt_in (i := 410) (by decide +kernel) rfl
theorem tt_411 : Cond.selects RX5 yX5_open yX5_open ∈ TT := tt_in (i := 411) (by decide +kernel) rfl
theorem tt_412 : Cond.code yX5_open cX5_open 3 (some .int) ∈ TT := tt_in (i := 412) (by decide +kernel) rfl
theorem tt_413 : Cond.instantiable RX0 2 ∈ TT := tt_in (i := 413) (by decide +kernel) rfl
theorem nn_414 : Cond.methodLinkNest RX5 164 yX0_init "WallDesk" ∈ NT := nt_in (i := 414) (by decide +kernel) rfl
theorem tt_415 : Cond.instanceMethod yX0_init ∈ TT := tt_in (i := 415) (by decide +kernel) rfl
theorem tt_416 : Cond.code yX0_init cX0_init 2 none ∈ TT := tt_in (i := 416) (by decide +kernel) rfl
theorem tt_417 : Cond.methodLink RX0 3 objectInit ∈ TT := tt_in (i := 417) (by decide +kernel) rfl
theorem tt_418 : Cond.fieldLink RX0 15 (TX0 0).1 (TX0 0).2.1 (TX0 0).2.2.1 ∈ TT := tt_in (i := 418) (by decide +kernel) rfl
theorem nn_419 : Cond.fieldLinkNest RX5 171 (TX0 0).1 (TX0 0).2.1 (TX0 0).2.2.1 "WallDesk" ∈ NT := nt_in (i := 419) (by decide +kernel) rfl
theorem tt_420 : Cond.fieldLink RX0 9 (TX0 1).1 (TX0 1).2.1 (TX0 1).2.2.1 ∈ TT := tt_in (i := 420) (by decide +kernel) rfl
theorem nn_421 : Cond.fieldLinkNest RX5 182 (TX0 1).1 (TX0 1).2.1 (TX0 1).2.2.1 "WallDesk" ∈ NT := nt_in (i := 421) (by decide +kernel) rfl
theorem tt_427 : Cond.methodLink RL 73 yX5_perform ∈ TT := tt_in (i := 427) (by decide +kernel) rfl
theorem tt_428 : Cond.instanceMethod yX5_perform ∈ TT := tt_in (i := 428) (by decide +kernel) rfl
theorem tt_429 : Cond.selects RX5 yX5_perform yX5_perform ∈ TT := tt_in (i := 429) (by decide +kernel) rfl
theorem tt_430 : Cond.code yX5_perform cX5_perform 6 (some .int) ∈ TT := tt_in (i := 430) (by decide +kernel) rfl
theorem tt_431 : Cond.methodLink RX5 167 yX5_caseAt ∈ TT := tt_in (i := 431) (by decide +kernel) rfl
theorem tt_433 : Cond.instanceMethod yX5_caseAt ∈ TT := tt_in (i := 433) (by decide +kernel) rfl
theorem tt_434 : Cond.code yX5_caseAt cX5_caseAt 2 (some (.object "WallDesk$Case")) ∈ TT := tt_in (i := 434) (by decide +kernel) rfl
theorem nn_435 : Cond.methodLinkNest RX5 175 yX2_hasTask "WallDesk" ∈ NT := nt_in (i := 435) (by decide +kernel) rfl
theorem nn_436 : Cond.methodLinkNest RX5 178 yX0_verdict "WallDesk" ∈ NT := nt_in (i := 436) (by decide +kernel) rfl
theorem tt_438 : Cond.instanceMethod yX0_verdict ∈ TT := tt_in (i := 438) (by decide +kernel) rfl
theorem tt_439 : Cond.code yX0_verdict cX0_verdict 6 (some .int) ∈ TT := tt_in (i := 439) (by decide +kernel) rfl
theorem nn_440 : Cond.methodLinkNest RX0 29 yX2_taskBits "WallDesk" ∈ NT := nt_in (i := 440) (by decide +kernel) rfl
theorem tt_441 : Cond.methodLink RX0 33 yX0_leftBits ∈ TT := tt_in (i := 441) (by decide +kernel) rfl
theorem tt_443 : Cond.instanceMethod yX0_leftBits ∈ TT := tt_in (i := 443) (by decide +kernel) rfl
theorem tt_444 : Cond.code yX0_leftBits cX0_leftBits 1 (some .int) ∈ TT := tt_in (i := 444) (by decide +kernel) rfl
theorem tt_445 : Cond.methodLink RX0 25 yX0_bitsDoneBy ∈ TT := tt_in (i := 445) (by decide +kernel) rfl
theorem tt_447 : Cond.instanceMethod yX0_bitsDoneBy ∈ TT := tt_in (i := 447) (by decide +kernel) rfl
theorem tt_448 : Cond.code yX0_bitsDoneBy cX0_bitsDoneBy 4 (some .int) ∈ TT := tt_in (i := 448) (by decide +kernel) rfl
theorem nn_449 : Cond.methodLinkNest RX0 36 yX5_hasBit "WallDesk" ∈ NT := nt_in (i := 449) (by decide +kernel) rfl
theorem tt_450 : Cond.methodLink RX0 52 yJ6_bitCount_0f7a4 ∈ TT := tt_in (i := 450) (by decide +kernel) rfl
theorem tt_451 : Cond.static yJ6_bitCount_0f7a4 ∈ TT := tt_in (i := 451) (by decide +kernel) rfl
theorem tt_452 : Cond.code yJ6_bitCount_0f7a4 cJ6_bitCount_0f7a4 1 (some .int) ∈ TT := tt_in (i := 452) (by decide +kernel) rfl
theorem tt_453 : Cond.constant RJ6 265 (1431655765) ∈ TT := tt_in (i := 453) (by decide +kernel) rfl
theorem tt_454 : Cond.constant RJ6 266 (858993459) ∈ TT := tt_in (i := 454) (by decide +kernel) rfl
theorem tt_455 : Cond.constant RJ6 267 (252645135) ∈ TT := tt_in (i := 455) (by decide +kernel) rfl
theorem tt_456 : Cond.methodLink RX0 60 yX0_wouldStick ∈ TT := tt_in (i := 456) (by decide +kernel) rfl
theorem tt_458 : Cond.instanceMethod yX0_wouldStick ∈ TT := tt_in (i := 458) (by decide +kernel) rfl
theorem tt_459 : Cond.code yX0_wouldStick cX0_wouldStick 5 (some .boolean) ∈ TT := tt_in (i := 459) (by decide +kernel) rfl
theorem tt_460 : Cond.methodLink RX0 64 yX0_couldEnd ∈ TT := tt_in (i := 460) (by decide +kernel) rfl
theorem tt_462 : Cond.instanceMethod yX0_couldEnd ∈ TT := tt_in (i := 462) (by decide +kernel) rfl
theorem tt_463 : Cond.code yX0_couldEnd cX0_couldEnd 7 (some .boolean) ∈ TT := tt_in (i := 463) (by decide +kernel) rfl
theorem nn_464 : Cond.methodLinkNest RX0 68 yX2_tasksWithin "WallDesk" ∈ NT := nt_in (i := 464) (by decide +kernel) rfl
theorem tt_466 : Cond.instanceMethod yX2_tasksWithin ∈ TT := tt_in (i := 466) (by decide +kernel) rfl
theorem tt_467 : Cond.code yX2_tasksWithin cX2_tasksWithin 4 (some .int) ∈ TT := tt_in (i := 467) (by decide +kernel) rfl
theorem nn_468 : Cond.methodLinkNest RX2 39 yX5_hasBit "WallDesk" ∈ NT := nt_in (i := 468) (by decide +kernel) rfl
theorem tt_469 : Cond.methodLink RX0 71 yX0_sharedWith ∈ TT := tt_in (i := 469) (by decide +kernel) rfl
theorem tt_471 : Cond.instanceMethod yX0_sharedWith ∈ TT := tt_in (i := 471) (by decide +kernel) rfl
theorem tt_472 : Cond.code yX0_sharedWith cX0_sharedWith 8 (some .long) ∈ TT := tt_in (i := 472) (by decide +kernel) rfl
theorem nn_473 : Cond.methodLinkNest RX0 75 yX2_allows "WallDesk" ∈ NT := nt_in (i := 473) (by decide +kernel) rfl
theorem tt_475 : Cond.instanceMethod yX2_allows ∈ TT := tt_in (i := 475) (by decide +kernel) rfl
theorem tt_476 : Cond.code yX2_allows cX2_allows 3 (some .boolean) ∈ TT := tt_in (i := 476) (by decide +kernel) rfl
theorem tt_477 : Cond.methodLink RX2 42 yJ6_bitCount_0f7a4 ∈ TT := tt_in (i := 477) (by decide +kernel) rfl
theorem tt_478 : Cond.methodLink RX0 79 yX0_setsWithoutAnyOf ∈ TT := tt_in (i := 478) (by decide +kernel) rfl
theorem tt_479 : Cond.static yX0_setsWithoutAnyOf ∈ TT := tt_in (i := 479) (by decide +kernel) rfl
theorem tt_480 : Cond.code yX0_setsWithoutAnyOf cX0_setsWithoutAnyOf 4 (some .long) ∈ TT := tt_in (i := 480) (by decide +kernel) rfl
theorem tt_481 : Cond.constantLong RX0 83 (-1) ∈ TT := tt_in (i := 481) (by decide +kernel) rfl
theorem tt_482 : Cond.fieldLink RX0 85 "WallDesk$Case" "SETS_WITHOUT" "[J" ∈ TT := tt_in (i := 482) (by decide +kernel) rfl
theorem nn_484 : Cond.methodLinkNest RX5 185 yX0_leftBits "WallDesk" ∈ NT := nt_in (i := 484) (by decide +kernel) rfl
theorem tt_485 : Cond.methodLink RX5 188 yJ6_bitCount_0f7a4 ∈ TT := tt_in (i := 485) (by decide +kernel) rfl
theorem tt_486 : Cond.methodLink RL 77 yX5_canEnd ∈ TT := tt_in (i := 486) (by decide +kernel) rfl
theorem tt_487 : Cond.instanceMethod yX5_canEnd ∈ TT := tt_in (i := 487) (by decide +kernel) rfl
theorem tt_488 : Cond.selects RX5 yX5_canEnd yX5_canEnd ∈ TT := tt_in (i := 488) (by decide +kernel) rfl
theorem tt_489 : Cond.code yX5_canEnd cX5_canEnd 3 (some .int) ∈ TT := tt_in (i := 489) (by decide +kernel) rfl
theorem nn_490 : Cond.methodLinkNest RX5 193 yX0_couldEnd "WallDesk" ∈ NT := nt_in (i := 490) (by decide +kernel) rfl
theorem tt_491 : Cond.methodLink RL 81 yX5_doer ∈ TT := tt_in (i := 491) (by decide +kernel) rfl
theorem tt_492 : Cond.instanceMethod yX5_doer ∈ TT := tt_in (i := 492) (by decide +kernel) rfl
theorem tt_493 : Cond.selects RX5 yX5_doer yX5_doer ∈ TT := tt_in (i := 493) (by decide +kernel) rfl
theorem tt_494 : Cond.code yX5_doer cX5_doer 4 (some .int) ∈ TT := tt_in (i := 494) (by decide +kernel) rfl
theorem tt_495 : Cond.methodLink RL 85 yX5_told ∈ TT := tt_in (i := 495) (by decide +kernel) rfl
theorem tt_496 : Cond.instanceMethod yX5_told ∈ TT := tt_in (i := 496) (by decide +kernel) rfl
theorem tt_497 : Cond.selects RX5 yX5_told yX5_told ∈ TT := tt_in (i := 497) (by decide +kernel) rfl
theorem tt_498 : Cond.code yX5_told cX5_told 3 (some .int) ∈ TT := tt_in (i := 498) (by decide +kernel) rfl
theorem tt_499 : Cond.methodLink RL 89 yX5_glassTold ∈ TT := tt_in (i := 499) (by decide +kernel) rfl
theorem tt_500 : Cond.instanceMethod yX5_glassTold ∈ TT := tt_in (i := 500) (by decide +kernel) rfl
theorem tt_501 : Cond.selects RX5 yX5_glassTold yX5_glassTold ∈ TT := tt_in (i := 501) (by decide +kernel) rfl
theorem tt_502 : Cond.code yX5_glassTold cX5_glassTold 3 (some .int) ∈ TT := tt_in (i := 502) (by decide +kernel) rfl
theorem nn_503 : Cond.methodLinkNest RX5 213 yX1_runs "WallDesk" ∈ NT := nt_in (i := 503) (by decide +kernel) rfl
theorem tt_504 : Cond.methodLink RL 93 yX5_entry ∈ TT := tt_in (i := 504) (by decide +kernel) rfl
theorem tt_505 : Cond.instanceMethod yX5_entry ∈ TT := tt_in (i := 505) (by decide +kernel) rfl
theorem tt_506 : Cond.selects RX5 yX5_entry yX5_entry ∈ TT := tt_in (i := 506) (by decide +kernel) rfl
theorem tt_507 : Cond.code yX5_entry cX5_entry 3 (some .int) ∈ TT := tt_in (i := 507) (by decide +kernel) rfl
theorem nn_508 : Cond.methodLinkNest RX5 216 yX3_hasCell "WallDesk" ∈ NT := nt_in (i := 508) (by decide +kernel) rfl
theorem tt_510 : Cond.instanceMethod yX3_hasCell ∈ TT := tt_in (i := 510) (by decide +kernel) rfl
theorem tt_511 : Cond.code yX3_hasCell cX3_hasCell 3 (some .boolean) ∈ TT := tt_in (i := 511) (by decide +kernel) rfl
theorem tt_512 : Cond.methodLink RX3 27 yX3_hasEntry ∈ TT := tt_in (i := 512) (by decide +kernel) rfl
theorem tt_514 : Cond.instanceMethod yX3_hasEntry ∈ TT := tt_in (i := 514) (by decide +kernel) rfl
theorem tt_515 : Cond.code yX3_hasEntry cX3_hasEntry 2 (some .boolean) ∈ TT := tt_in (i := 515) (by decide +kernel) rfl
theorem nn_516 : Cond.methodLinkNest RX3 23 yX5_isBelow "WallDesk" ∈ NT := nt_in (i := 516) (by decide +kernel) rfl
theorem tt_517 : Cond.methodLink RL 97 yX5_link ∈ TT := tt_in (i := 517) (by decide +kernel) rfl
theorem tt_518 : Cond.instanceMethod yX5_link ∈ TT := tt_in (i := 518) (by decide +kernel) rfl
theorem tt_519 : Cond.selects RX5 yX5_link yX5_link ∈ TT := tt_in (i := 519) (by decide +kernel) rfl
theorem tt_520 : Cond.code yX5_link cX5_link 2 (some .long) ∈ TT := tt_in (i := 520) (by decide +kernel) rfl
theorem nn_521 : Cond.methodLinkNest RX5 222 yX3_hasEntry "WallDesk" ∈ NT := nt_in (i := 521) (by decide +kernel) rfl
theorem tt_522 : Cond.methodLink RL 102 yX5_alter ∈ TT := tt_in (i := 522) (by decide +kernel) rfl
theorem tt_523 : Cond.instanceMethod yX5_alter ∈ TT := tt_in (i := 523) (by decide +kernel) rfl
theorem tt_524 : Cond.selects RX5 yX5_alter yX5_alter ∈ TT := tt_in (i := 524) (by decide +kernel) rfl
theorem tt_525 : Cond.code yX5_alter cX5_alter 5 (some .int) ∈ TT := tt_in (i := 525) (by decide +kernel) rfl
theorem tt_526 : Cond.methodLink RL 106 yX5_check ∈ TT := tt_in (i := 526) (by decide +kernel) rfl
theorem tt_527 : Cond.instanceMethod yX5_check ∈ TT := tt_in (i := 527) (by decide +kernel) rfl
theorem tt_528 : Cond.selects RX5 yX5_check yX5_check ∈ TT := tt_in (i := 528) (by decide +kernel) rfl
theorem tt_529 : Cond.code yX5_check cX5_check 1 (some .int) ∈ TT := tt_in (i := 529) (by decide +kernel) rfl
theorem nn_530 : Cond.methodLinkNest RX5 229 yX3_firstWrong "WallDesk" ∈ NT := nt_in (i := 530) (by decide +kernel) rfl
theorem tt_532 : Cond.instanceMethod yX3_firstWrong ∈ TT := tt_in (i := 532) (by decide +kernel) rfl
theorem tt_533 : Cond.code yX3_firstWrong cX3_firstWrong 2 (some .int) ∈ TT := tt_in (i := 533) (by decide +kernel) rfl
theorem tt_534 : Cond.methodLink RL 110 yX5_count ∈ TT := tt_in (i := 534) (by decide +kernel) rfl
theorem tt_535 : Cond.instanceMethod yX5_count ∈ TT := tt_in (i := 535) (by decide +kernel) rfl
theorem tt_536 : Cond.selects RX5 yX5_count yX5_count ∈ TT := tt_in (i := 536) (by decide +kernel) rfl
theorem tt_537 : Cond.code yX5_count cX5_count 2 (some .int) ∈ TT := tt_in (i := 537) (by decide +kernel) rfl
theorem tt_538 : Cond.classLink RL 10 RX6 ∈ TT := tt_in (i := 538) (by decide +kernel) rfl
theorem tt_539 : Cond.instantiable RX6 27 ∈ TT := tt_in (i := 539) (by decide +kernel) rfl
theorem tt_540 : Cond.methodLink RL 12 yX6_init ∈ TT := tt_in (i := 540) (by decide +kernel) rfl
theorem tt_541 : Cond.instanceMethod yX6_init ∈ TT := tt_in (i := 541) (by decide +kernel) rfl
theorem tt_542 : Cond.code yX6_init cX6_init 1 none ∈ TT := tt_in (i := 542) (by decide +kernel) rfl
theorem tt_543 : Cond.methodLink RX6 1 objectInit ∈ TT := tt_in (i := 543) (by decide +kernel) rfl
theorem tt_544 : Cond.fieldLink RX6 72 (TX6 0).1 (TX6 0).2.1 (TX6 0).2.2.1 ∈ TT := tt_in (i := 544) (by decide +kernel) rfl
theorem tt_545 : Cond.fieldLink RX6 7 (TX6 1).1 (TX6 1).2.1 (TX6 1).2.2.1 ∈ TT := tt_in (i := 545) (by decide +kernel) rfl
theorem tt_546 : Cond.fieldLink RX6 13 (TX6 2).1 (TX6 2).2.1 (TX6 2).2.2.1 ∈ TT := tt_in (i := 546) (by decide +kernel) rfl
theorem tt_547 : Cond.fieldLink RX6 16 (TX6 3).1 (TX6 3).2.1 (TX6 3).2.2.1 ∈ TT := tt_in (i := 547) (by decide +kernel) rfl
theorem tt_548 : Cond.fieldLink RX6 19 (TX6 4).1 (TX6 4).2.1 (TX6 4).2.2.1 ∈ TT := tt_in (i := 548) (by decide +kernel) rfl
theorem tt_549 : Cond.fieldLink RX6 85 (TX6 5).1 (TX6 5).2.1 (TX6 5).2.2.1 ∈ TT := tt_in (i := 549) (by decide +kernel) rfl
theorem tt_550 : Cond.fieldLink RX6 22 (TX6 6).1 (TX6 6).2.1 (TX6 6).2.2.1 ∈ TT := tt_in (i := 550) (by decide +kernel) rfl
theorem tt_551 : Cond.fieldLink RX6 88 (TX6 7).1 (TX6 7).2.1 (TX6 7).2.2.1 ∈ TT := tt_in (i := 551) (by decide +kernel) rfl
theorem tt_552 : Cond.fieldLink RX6 25 (TX6 8).1 (TX6 8).2.1 (TX6 8).2.2.1 ∈ TT := tt_in (i := 552) (by decide +kernel) rfl
theorem tt_553 : Cond.fieldLink RX6 28 (TX6 9).1 (TX6 9).2.1 (TX6 9).2.2.1 ∈ TT := tt_in (i := 553) (by decide +kernel) rfl
theorem tt_554 : Cond.fieldLink RX6 31 (TX6 10).1 (TX6 10).2.1 (TX6 10).2.2.1 ∈ TT := tt_in (i := 554) (by decide +kernel) rfl
theorem tt_555 : Cond.fieldLink RX6 34 (TX6 11).1 (TX6 11).2.1 (TX6 11).2.2.1 ∈ TT := tt_in (i := 555) (by decide +kernel) rfl
theorem tt_556 : Cond.fieldLink RX6 111 (TX6 12).1 (TX6 12).2.1 (TX6 12).2.2.1 ∈ TT := tt_in (i := 556) (by decide +kernel) rfl
theorem tt_557 : Cond.fieldLink RX6 38 (TX6 13).1 (TX6 13).2.1 (TX6 13).2.2.1 ∈ TT := tt_in (i := 557) (by decide +kernel) rfl
theorem tt_558 : Cond.fieldLink RX6 41 (TX6 14).1 (TX6 14).2.1 (TX6 14).2.2.1 ∈ TT := tt_in (i := 558) (by decide +kernel) rfl
theorem tt_559 : Cond.fieldLink RX6 44 (TX6 15).1 (TX6 15).2.1 (TX6 15).2.2.1 ∈ TT := tt_in (i := 559) (by decide +kernel) rfl
theorem tt_560 : Cond.fieldLink RX6 47 (TX6 16).1 (TX6 16).2.1 (TX6 16).2.2.1 ∈ TT := tt_in (i := 560) (by decide +kernel) rfl
theorem tt_561 : Cond.fieldLink RX6 50 (TX6 17).1 (TX6 17).2.1 (TX6 17).2.2.1 ∈ TT := tt_in (i := 561) (by decide +kernel) rfl
theorem tt_562 : Cond.fieldLink RX6 53 (TX6 18).1 (TX6 18).2.1 (TX6 18).2.2.1 ∈ TT := tt_in (i := 562) (by decide +kernel) rfl
theorem tt_563 : Cond.fieldLink RX6 142 (TX6 19).1 (TX6 19).2.1 (TX6 19).2.2.1 ∈ TT := tt_in (i := 563) (by decide +kernel) rfl
theorem tt_564 : Cond.fieldLink RX6 56 (TX6 20).1 (TX6 20).2.1 (TX6 20).2.2.1 ∈ TT := tt_in (i := 564) (by decide +kernel) rfl
theorem tt_565 : Cond.fieldLink RX6 59 (TX6 21).1 (TX6 21).2.1 (TX6 21).2.2.1 ∈ TT := tt_in (i := 565) (by decide +kernel) rfl
theorem tt_566 : Cond.fieldLink RX6 145 (TX6 22).1 (TX6 22).2.1 (TX6 22).2.2.1 ∈ TT := tt_in (i := 566) (by decide +kernel) rfl
theorem tt_567 : Cond.fieldLink RX6 62 (TX6 23).1 (TX6 23).2.1 (TX6 23).2.2.1 ∈ TT := tt_in (i := 567) (by decide +kernel) rfl
theorem tt_568 : Cond.fieldLink RX6 65 (TX6 24).1 (TX6 24).2.1 (TX6 24).2.2.1 ∈ TT := tt_in (i := 568) (by decide +kernel) rfl
theorem tt_569 : Cond.fieldLink RX6 101 (TX6 25).1 (TX6 25).2.1 (TX6 25).2.2.1 ∈ TT := tt_in (i := 569) (by decide +kernel) rfl
theorem tt_570 : Cond.fieldLink RX6 69 (TX6 26).1 (TX6 26).2.1 (TX6 26).2.2.1 ∈ TT := tt_in (i := 570) (by decide +kernel) rfl
theorem tt_626 : Cond.methodLink RL 17 yX6_tick ∈ TT := tt_in (i := 626) (by decide +kernel) rfl
theorem tt_627 : Cond.instanceMethod yX6_tick ∈ TT := tt_in (i := 627) (by decide +kernel) rfl
theorem tt_628 : Cond.selects RX6 yX6_tick yX6_tick ∈ TT := tt_in (i := 628) (by decide +kernel) rfl
theorem tt_629 : Cond.code yX6_tick cX6_tick 2 (some .int) ∈ TT := tt_in (i := 629) (by decide +kernel) rfl
theorem tt_630 : Cond.methodLink RX6 76 yX6_isIn ∈ TT := tt_in (i := 630) (by decide +kernel) rfl
theorem tt_631 : Cond.static yX6_isIn ∈ TT := tt_in (i := 631) (by decide +kernel) rfl
theorem tt_632 : Cond.code yX6_isIn cX6_isIn 3 (some .boolean) ∈ TT := tt_in (i := 632) (by decide +kernel) rfl
theorem tt_633 : Cond.constant RX6 80 (100000) ∈ TT := tt_in (i := 633) (by decide +kernel) rfl
theorem tt_634 : Cond.methodLink RL 22 yX6_roles ∈ TT := tt_in (i := 634) (by decide +kernel) rfl
theorem tt_635 : Cond.instanceMethod yX6_roles ∈ TT := tt_in (i := 635) (by decide +kernel) rfl
theorem tt_636 : Cond.selects RX6 yX6_roles yX6_roles ∈ TT := tt_in (i := 636) (by decide +kernel) rfl
theorem tt_637 : Cond.code yX6_roles cX6_roles 4 (some .int) ∈ TT := tt_in (i := 637) (by decide +kernel) rfl
theorem tt_638 : Cond.methodLink RX6 81 yX6_isUser ∈ TT := tt_in (i := 638) (by decide +kernel) rfl
theorem tt_639 : Cond.static yX6_isUser ∈ TT := tt_in (i := 639) (by decide +kernel) rfl
theorem tt_640 : Cond.code yX6_isUser cX6_isUser 1 (some .boolean) ∈ TT := tt_in (i := 640) (by decide +kernel) rfl
theorem tt_641 : Cond.methodLink RL 26 yX6_firm ∈ TT := tt_in (i := 641) (by decide +kernel) rfl
theorem tt_642 : Cond.instanceMethod yX6_firm ∈ TT := tt_in (i := 642) (by decide +kernel) rfl
theorem tt_643 : Cond.selects RX6 yX6_firm yX6_firm ∈ TT := tt_in (i := 643) (by decide +kernel) rfl
theorem tt_644 : Cond.code yX6_firm cX6_firm 2 (some .int) ∈ TT := tt_in (i := 644) (by decide +kernel) rfl
theorem tt_645 : Cond.methodLink RL 30 yX6_object ∈ TT := tt_in (i := 645) (by decide +kernel) rfl
theorem tt_646 : Cond.instanceMethod yX6_object ∈ TT := tt_in (i := 646) (by decide +kernel) rfl
theorem tt_647 : Cond.selects RX6 yX6_object yX6_object ∈ TT := tt_in (i := 647) (by decide +kernel) rfl
theorem tt_648 : Cond.code yX6_object cX6_object 2 (some .int) ∈ TT := tt_in (i := 648) (by decide +kernel) rfl
theorem tt_649 : Cond.methodLink RL 34 yX6_read ∈ TT := tt_in (i := 649) (by decide +kernel) rfl
theorem tt_650 : Cond.instanceMethod yX6_read ∈ TT := tt_in (i := 650) (by decide +kernel) rfl
theorem tt_651 : Cond.selects RX6 yX6_read yX6_read ∈ TT := tt_in (i := 651) (by decide +kernel) rfl
theorem tt_652 : Cond.code yX6_read cX6_read 3 (some .int) ∈ TT := tt_in (i := 652) (by decide +kernel) rfl
theorem tt_653 : Cond.methodLink RX6 114 yX6_access ∈ TT := tt_in (i := 653) (by decide +kernel) rfl
theorem tt_655 : Cond.instanceMethod yX6_access ∈ TT := tt_in (i := 655) (by decide +kernel) rfl
theorem tt_656 : Cond.code yX6_access cX6_access 9 (some .int) ∈ TT := tt_in (i := 656) (by decide +kernel) rfl
theorem tt_657 : Cond.methodLink RX6 118 yX6_isWalled ∈ TT := tt_in (i := 657) (by decide +kernel) rfl
theorem tt_659 : Cond.instanceMethod yX6_isWalled ∈ TT := tt_in (i := 659) (by decide +kernel) rfl
theorem tt_660 : Cond.code yX6_isWalled cX6_isWalled 4 (some .boolean) ∈ TT := tt_in (i := 660) (by decide +kernel) rfl
theorem tt_661 : Cond.methodLink RX6 108 yX6_isOpen ∈ TT := tt_in (i := 661) (by decide +kernel) rfl
theorem tt_663 : Cond.instanceMethod yX6_isOpen ∈ TT := tt_in (i := 663) (by decide +kernel) rfl
theorem tt_664 : Cond.code yX6_isOpen cX6_isOpen 2 (some .boolean) ∈ TT := tt_in (i := 664) (by decide +kernel) rfl
theorem tt_665 : Cond.methodLink RX6 122 yX6_hasGlass ∈ TT := tt_in (i := 665) (by decide +kernel) rfl
theorem tt_667 : Cond.instanceMethod yX6_hasGlass ∈ TT := tt_in (i := 667) (by decide +kernel) rfl
theorem tt_668 : Cond.code yX6_hasGlass cX6_hasGlass 4 (some .boolean) ∈ TT := tt_in (i := 668) (by decide +kernel) rfl
theorem tt_669 : Cond.methodLink RX6 125 yX6_enter ∈ TT := tt_in (i := 669) (by decide +kernel) rfl
theorem tt_671 : Cond.instanceMethod yX6_enter ∈ TT := tt_in (i := 671) (by decide +kernel) rfl
theorem tt_672 : Cond.code yX6_enter cX6_enter 6 none ∈ TT := tt_in (i := 672) (by decide +kernel) rfl
theorem tt_673 : Cond.methodLink RX6 104 yX6_linkAt ∈ TT := tt_in (i := 673) (by decide +kernel) rfl
theorem tt_675 : Cond.instanceMethod yX6_linkAt ∈ TT := tt_in (i := 675) (by decide +kernel) rfl
theorem tt_676 : Cond.code yX6_linkAt cX6_linkAt 3 (some .long) ∈ TT := tt_in (i := 676) (by decide +kernel) rfl
theorem tt_677 : Cond.methodLink RX6 97 yX6_linkOf ∈ TT := tt_in (i := 677) (by decide +kernel) rfl
theorem tt_678 : Cond.static yX6_linkOf ∈ TT := tt_in (i := 678) (by decide +kernel) rfl
theorem tt_679 : Cond.code yX6_linkOf cX6_linkOf 10 (some .long) ∈ TT := tt_in (i := 679) (by decide +kernel) rfl
theorem tt_680 : Cond.constantLong RX6 91 (-7046029254386353131) ∈ TT := tt_in (i := 680) (by decide +kernel) rfl
theorem tt_681 : Cond.constantLong RX6 93 (-4658895280553007687) ∈ TT := tt_in (i := 681) (by decide +kernel) rfl
theorem tt_682 : Cond.constantLong RX6 95 (-7723592293110705685) ∈ TT := tt_in (i := 682) (by decide +kernel) rfl
theorem tt_683 : Cond.methodLink RL 38 yX6_write ∈ TT := tt_in (i := 683) (by decide +kernel) rfl
theorem tt_684 : Cond.instanceMethod yX6_write ∈ TT := tt_in (i := 684) (by decide +kernel) rfl
theorem tt_685 : Cond.selects RX6 yX6_write yX6_write ∈ TT := tt_in (i := 685) (by decide +kernel) rfl
theorem tt_686 : Cond.code yX6_write cX6_write 3 (some .int) ∈ TT := tt_in (i := 686) (by decide +kernel) rfl
theorem tt_687 : Cond.methodLink RL 43 yX6_glass ∈ TT := tt_in (i := 687) (by decide +kernel) rfl
theorem tt_688 : Cond.instanceMethod yX6_glass ∈ TT := tt_in (i := 688) (by decide +kernel) rfl
theorem tt_689 : Cond.selects RX6 yX6_glass yX6_glass ∈ TT := tt_in (i := 689) (by decide +kernel) rfl
theorem tt_690 : Cond.code yX6_glass cX6_glass 4 (some .int) ∈ TT := tt_in (i := 690) (by decide +kernel) rfl
theorem tt_691 : Cond.methodLink RX6 129 yX6_duties ∈ TT := tt_in (i := 691) (by decide +kernel) rfl
theorem tt_693 : Cond.instanceMethod yX6_duties ∈ TT := tt_in (i := 693) (by decide +kernel) rfl
theorem tt_694 : Cond.code yX6_duties cX6_duties 4 (some .int) ∈ TT := tt_in (i := 694) (by decide +kernel) rfl
theorem tt_695 : Cond.methodLink RX6 133 yX6_isLate ∈ TT := tt_in (i := 695) (by decide +kernel) rfl
theorem tt_697 : Cond.instanceMethod yX6_isLate ∈ TT := tt_in (i := 697) (by decide +kernel) rfl
theorem tt_698 : Cond.code yX6_isLate cX6_isLate 3 (some .boolean) ∈ TT := tt_in (i := 698) (by decide +kernel) rfl
theorem tt_699 : Cond.methodLink RL 47 yX6_takeOff ∈ TT := tt_in (i := 699) (by decide +kernel) rfl
theorem tt_700 : Cond.instanceMethod yX6_takeOff ∈ TT := tt_in (i := 700) (by decide +kernel) rfl
theorem tt_701 : Cond.selects RX6 yX6_takeOff yX6_takeOff ∈ TT := tt_in (i := 701) (by decide +kernel) rfl
theorem tt_702 : Cond.code yX6_takeOff cX6_takeOff 3 (some .int) ∈ TT := tt_in (i := 702) (by decide +kernel) rfl
theorem tt_703 : Cond.methodLink RX6 136 Lib.Math.max.name ∈ TT := tt_in (i := 703) (by decide +kernel) rfl
theorem tt_704 : Cond.methodLink RL 52 yX6_kind ∈ TT := tt_in (i := 704) (by decide +kernel) rfl
theorem tt_705 : Cond.instanceMethod yX6_kind ∈ TT := tt_in (i := 705) (by decide +kernel) rfl
theorem tt_706 : Cond.selects RX6 yX6_kind yX6_kind ∈ TT := tt_in (i := 706) (by decide +kernel) rfl
theorem tt_707 : Cond.code yX6_kind cX6_kind 1 (some .int) ∈ TT := tt_in (i := 707) (by decide +kernel) rfl
theorem tt_708 : Cond.methodLink RL 56 yX6_task ∈ TT := tt_in (i := 708) (by decide +kernel) rfl
theorem tt_709 : Cond.instanceMethod yX6_task ∈ TT := tt_in (i := 709) (by decide +kernel) rfl
theorem tt_710 : Cond.selects RX6 yX6_task yX6_task ∈ TT := tt_in (i := 710) (by decide +kernel) rfl
theorem tt_711 : Cond.code yX6_task cX6_task 5 (some .int) ∈ TT := tt_in (i := 711) (by decide +kernel) rfl
theorem tt_712 : Cond.methodLink RX6 148 yX6_isFree ∈ TT := tt_in (i := 712) (by decide +kernel) rfl
theorem tt_714 : Cond.instanceMethod yX6_isFree ∈ TT := tt_in (i := 714) (by decide +kernel) rfl
theorem tt_715 : Cond.code yX6_isFree cX6_isFree 4 (some .boolean) ∈ TT := tt_in (i := 715) (by decide +kernel) rfl
theorem tt_716 : Cond.methodLink RL 60 yX6_apart ∈ TT := tt_in (i := 716) (by decide +kernel) rfl
theorem tt_717 : Cond.instanceMethod yX6_apart ∈ TT := tt_in (i := 717) (by decide +kernel) rfl
theorem tt_718 : Cond.selects RX6 yX6_apart yX6_apart ∈ TT := tt_in (i := 718) (by decide +kernel) rfl
theorem tt_719 : Cond.code yX6_apart cX6_apart 5 (some .int) ∈ TT := tt_in (i := 719) (by decide +kernel) rfl
theorem tt_720 : Cond.methodLink RX6 154 yX6_arePair ∈ TT := tt_in (i := 720) (by decide +kernel) rfl
theorem tt_722 : Cond.instanceMethod yX6_arePair ∈ TT := tt_in (i := 722) (by decide +kernel) rfl
theorem tt_723 : Cond.code yX6_arePair cX6_arePair 4 (some .boolean) ∈ TT := tt_in (i := 723) (by decide +kernel) rfl
theorem tt_724 : Cond.methodLink RX6 157 yX6_pair ∈ TT := tt_in (i := 724) (by decide +kernel) rfl
theorem tt_725 : Cond.static yX6_pair ∈ TT := tt_in (i := 725) (by decide +kernel) rfl
theorem tt_726 : Cond.code yX6_pair cX6_pair 3 (some .int) ∈ TT := tt_in (i := 726) (by decide +kernel) rfl
theorem tt_727 : Cond.methodLink RX6 151 Lib.Math.min.name ∈ TT := tt_in (i := 727) (by decide +kernel) rfl
theorem tt_728 : Cond.static Lib.Math.min.name ∈ TT := tt_in (i := 728) (by decide +kernel) rfl
theorem tt_729 : Cond.code Lib.Math.min.name Lib.Math.min.code 2 (some .int) ∈ TT := tt_in (i := 729) (by decide +kernel) rfl
theorem tt_730 : Cond.methodLink RL 64 yX6_bound ∈ TT := tt_in (i := 730) (by decide +kernel) rfl
theorem tt_731 : Cond.instanceMethod yX6_bound ∈ TT := tt_in (i := 731) (by decide +kernel) rfl
theorem tt_732 : Cond.selects RX6 yX6_bound yX6_bound ∈ TT := tt_in (i := 732) (by decide +kernel) rfl
theorem tt_733 : Cond.code yX6_bound cX6_bound 5 (some .int) ∈ TT := tt_in (i := 733) (by decide +kernel) rfl
theorem tt_734 : Cond.methodLink RL 68 yX6_most ∈ TT := tt_in (i := 734) (by decide +kernel) rfl
theorem tt_735 : Cond.instanceMethod yX6_most ∈ TT := tt_in (i := 735) (by decide +kernel) rfl
theorem tt_736 : Cond.selects RX6 yX6_most yX6_most ∈ TT := tt_in (i := 736) (by decide +kernel) rfl
theorem tt_737 : Cond.code yX6_most cX6_most 4 (some .int) ∈ TT := tt_in (i := 737) (by decide +kernel) rfl
theorem tt_738 : Cond.methodLink RL 72 yX6_open ∈ TT := tt_in (i := 738) (by decide +kernel) rfl
theorem tt_739 : Cond.instanceMethod yX6_open ∈ TT := tt_in (i := 739) (by decide +kernel) rfl
theorem tt_740 : Cond.selects RX6 yX6_open yX6_open ∈ TT := tt_in (i := 740) (by decide +kernel) rfl
theorem tt_741 : Cond.code yX6_open cX6_open 3 (some .int) ∈ TT := tt_in (i := 741) (by decide +kernel) rfl
theorem tt_742 : Cond.methodLink RL 80 yX6_canEnd ∈ TT := tt_in (i := 742) (by decide +kernel) rfl
theorem tt_743 : Cond.instanceMethod yX6_canEnd ∈ TT := tt_in (i := 743) (by decide +kernel) rfl
theorem tt_744 : Cond.selects RX6 yX6_canEnd yX6_canEnd ∈ TT := tt_in (i := 744) (by decide +kernel) rfl
theorem tt_745 : Cond.code yX6_canEnd cX6_canEnd 2 (some .int) ∈ TT := tt_in (i := 745) (by decide +kernel) rfl
theorem tt_746 : Cond.methodLink RX6 163 yX6_canBe ∈ TT := tt_in (i := 746) (by decide +kernel) rfl
theorem tt_748 : Cond.instanceMethod yX6_canBe ∈ TT := tt_in (i := 748) (by decide +kernel) rfl
theorem tt_749 : Cond.code yX6_canBe cX6_canBe 7 (some .boolean) ∈ TT := tt_in (i := 749) (by decide +kernel) rfl
theorem tt_750 : Cond.methodLink RX6 160 yX6_isFit ∈ TT := tt_in (i := 750) (by decide +kernel) rfl
theorem tt_752 : Cond.instanceMethod yX6_isFit ∈ TT := tt_in (i := 752) (by decide +kernel) rfl
theorem tt_753 : Cond.code yX6_isFit cX6_isFit 5 (some .boolean) ∈ TT := tt_in (i := 753) (by decide +kernel) rfl
theorem tt_754 : Cond.methodLink RL 84 yX6_doer ∈ TT := tt_in (i := 754) (by decide +kernel) rfl
theorem tt_755 : Cond.instanceMethod yX6_doer ∈ TT := tt_in (i := 755) (by decide +kernel) rfl
theorem tt_756 : Cond.selects RX6 yX6_doer yX6_doer ∈ TT := tt_in (i := 756) (by decide +kernel) rfl
theorem tt_757 : Cond.code yX6_doer cX6_doer 3 (some .int) ∈ TT := tt_in (i := 757) (by decide +kernel) rfl
theorem tt_758 : Cond.methodLink RX6 166 yX6_isTask ∈ TT := tt_in (i := 758) (by decide +kernel) rfl
theorem tt_760 : Cond.instanceMethod yX6_isTask ∈ TT := tt_in (i := 760) (by decide +kernel) rfl
theorem tt_761 : Cond.code yX6_isTask cX6_isTask 3 (some .boolean) ∈ TT := tt_in (i := 761) (by decide +kernel) rfl
theorem tt_762 : Cond.methodLink RL 76 yX6_perform ∈ TT := tt_in (i := 762) (by decide +kernel) rfl
theorem tt_763 : Cond.instanceMethod yX6_perform ∈ TT := tt_in (i := 763) (by decide +kernel) rfl
theorem tt_764 : Cond.selects RX6 yX6_perform yX6_perform ∈ TT := tt_in (i := 764) (by decide +kernel) rfl
theorem tt_765 : Cond.code yX6_perform cX6_perform 14 (some .int) ∈ TT := tt_in (i := 765) (by decide +kernel) rfl
theorem tt_766 : Cond.methodLink RL 88 yX6_told ∈ TT := tt_in (i := 766) (by decide +kernel) rfl
theorem tt_767 : Cond.instanceMethod yX6_told ∈ TT := tt_in (i := 767) (by decide +kernel) rfl
theorem tt_768 : Cond.selects RX6 yX6_told yX6_told ∈ TT := tt_in (i := 768) (by decide +kernel) rfl
theorem tt_769 : Cond.code yX6_told cX6_told 3 (some .int) ∈ TT := tt_in (i := 769) (by decide +kernel) rfl
theorem tt_770 : Cond.methodLink RL 92 yX6_glassTold ∈ TT := tt_in (i := 770) (by decide +kernel) rfl
theorem tt_771 : Cond.instanceMethod yX6_glassTold ∈ TT := tt_in (i := 771) (by decide +kernel) rfl
theorem tt_772 : Cond.selects RX6 yX6_glassTold yX6_glassTold ∈ TT := tt_in (i := 772) (by decide +kernel) rfl
theorem tt_773 : Cond.code yX6_glassTold cX6_glassTold 3 (some .int) ∈ TT := tt_in (i := 773) (by decide +kernel) rfl
theorem tt_774 : Cond.methodLink RL 96 yX6_entry ∈ TT := tt_in (i := 774) (by decide +kernel) rfl
theorem tt_775 : Cond.instanceMethod yX6_entry ∈ TT := tt_in (i := 775) (by decide +kernel) rfl
theorem tt_776 : Cond.selects RX6 yX6_entry yX6_entry ∈ TT := tt_in (i := 776) (by decide +kernel) rfl
theorem tt_777 : Cond.code yX6_entry cX6_entry 3 (some .int) ∈ TT := tt_in (i := 777) (by decide +kernel) rfl
theorem tt_778 : Cond.methodLink RL 101 yX6_link ∈ TT := tt_in (i := 778) (by decide +kernel) rfl
theorem tt_779 : Cond.instanceMethod yX6_link ∈ TT := tt_in (i := 779) (by decide +kernel) rfl
theorem tt_780 : Cond.selects RX6 yX6_link yX6_link ∈ TT := tt_in (i := 780) (by decide +kernel) rfl
theorem tt_781 : Cond.code yX6_link cX6_link 2 (some .long) ∈ TT := tt_in (i := 781) (by decide +kernel) rfl
theorem tt_782 : Cond.methodLink RL 105 yX6_alter ∈ TT := tt_in (i := 782) (by decide +kernel) rfl
theorem tt_783 : Cond.instanceMethod yX6_alter ∈ TT := tt_in (i := 783) (by decide +kernel) rfl
theorem tt_784 : Cond.selects RX6 yX6_alter yX6_alter ∈ TT := tt_in (i := 784) (by decide +kernel) rfl
theorem tt_785 : Cond.code yX6_alter cX6_alter 5 (some .int) ∈ TT := tt_in (i := 785) (by decide +kernel) rfl
theorem tt_786 : Cond.methodLink RL 109 yX6_check ∈ TT := tt_in (i := 786) (by decide +kernel) rfl
theorem tt_787 : Cond.instanceMethod yX6_check ∈ TT := tt_in (i := 787) (by decide +kernel) rfl
theorem tt_788 : Cond.selects RX6 yX6_check yX6_check ∈ TT := tt_in (i := 788) (by decide +kernel) rfl
theorem tt_789 : Cond.code yX6_check cX6_check 2 (some .int) ∈ TT := tt_in (i := 789) (by decide +kernel) rfl
theorem tt_790 : Cond.methodLink RL 113 yX6_count ∈ TT := tt_in (i := 790) (by decide +kernel) rfl
theorem tt_791 : Cond.instanceMethod yX6_count ∈ TT := tt_in (i := 791) (by decide +kernel) rfl
theorem tt_792 : Cond.selects RX6 yX6_count yX6_count ∈ TT := tt_in (i := 792) (by decide +kernel) rfl
theorem tt_793 : Cond.code yX6_count cX6_count 2 (some .int) ∈ TT := tt_in (i := 793) (by decide +kernel) rfl
theorem inX0 : ∀ w ∈ u_ws RX0 TX0 2, w ∈ TT := tt_all (by decide +kernel) (by decide +kernel)
theorem inX1 : ∀ w ∈ u_ws RX1 TX1 5, w ∈ TT := tt_all (by decide +kernel) (by decide +kernel)
theorem inX2 : ∀ w ∈ u_ws RX2 TX2 7, w ∈ TT := tt_all (by decide +kernel) (by decide +kernel)
theorem inX3 : ∀ w ∈ u_ws RX3 TX3 3, w ∈ TT := tt_all (by decide +kernel) (by decide +kernel)
theorem inX4 : ∀ w ∈ u_ws RX4 TX4 7, w ∈ TT := tt_all (by decide +kernel) (by decide +kernel)
theorem inX5 : ∀ w ∈ u_ws RX5 TX5 9, w ∈ TT := tt_all (by decide +kernel) (by decide +kernel)
theorem inX6 : ∀ w ∈ u_ws RX6 TX6 27, w ∈ TT := tt_all (by decide +kernel) (by decide +kernel)
/-- what a call needs of the tables about its callee -/
def MTd (y : MethodName) (cc : ByteArray) (n : Nat) (ret : Option FieldType) (na : Nat) : Prop := Cond.code y cc n ret ∈ TT ∧ Cond.initialized y.cls ∈ TT ∧ (y.cls ≠ "java/lang/invoke/MethodHandle" ∧ y.cls ≠ "java/lang/invoke/VarHandle") ∧ (parseMethodDescriptor y.desc).map (fun d => d.parameters.length) = some na
def MTv (y : MethodName) (cc : ByteArray) (n : Nat) (ret : Option FieldType) (na : Nat) : Prop := MTd y cc n ret na ∧ Cond.instanceMethod y ∈ TT ∧ Cond.selects y.cls y y ∈ TT
def MTs (y : MethodName) (cc : ByteArray) (n : Nat) (ret : Option FieldType) (na : Nat) : Prop := MTd y cc n ret na ∧ Cond.static y ∈ TT
def MTi (y : MethodName) (cc : ByteArray) (n : Nat) (ret : Option FieldType) (na : Nat) : Prop := MTd y cc n ret na ∧ y.name = "<init>" ∧ Cond.instanceMethod y ∈ TT
theorem mt_X0_init : MTi yX0_init cX0_init 2 none 1 := ⟨⟨tt_416, tt_60, ⟨by decide +kernel, by decide +kernel⟩, by decide +kernel⟩, rfl, tt_415⟩
theorem mt_X0_bitsDoneBy : MTv yX0_bitsDoneBy cX0_bitsDoneBy 4 (some .int) 1 := ⟨⟨tt_448, tt_60, ⟨by decide +kernel, by decide +kernel⟩, by decide +kernel⟩, tt_447, tt_30⟩
theorem mt_X0_leftBits : MTv yX0_leftBits cX0_leftBits 1 (some .int) 0 := ⟨⟨tt_444, tt_60, ⟨by decide +kernel, by decide +kernel⟩, by decide +kernel⟩, tt_443, tt_29⟩
theorem mt_X0_verdict : MTv yX0_verdict cX0_verdict 6 (some .int) 3 := ⟨⟨tt_439, tt_60, ⟨by decide +kernel, by decide +kernel⟩, by decide +kernel⟩, tt_438, tt_28⟩
theorem mt_X0_wouldStick : MTv yX0_wouldStick cX0_wouldStick 5 (some .boolean) 3 := ⟨⟨tt_459, tt_60, ⟨by decide +kernel, by decide +kernel⟩, by decide +kernel⟩, tt_458, tt_31⟩
theorem mt_X0_couldEnd : MTv yX0_couldEnd cX0_couldEnd 7 (some .boolean) 1 := ⟨⟨tt_463, tt_60, ⟨by decide +kernel, by decide +kernel⟩, by decide +kernel⟩, tt_462, tt_32⟩
theorem mt_X0_sharedWith : MTv yX0_sharedWith cX0_sharedWith 8 (some .long) 3 := ⟨⟨tt_472, tt_60, ⟨by decide +kernel, by decide +kernel⟩, by decide +kernel⟩, tt_471, tt_34⟩
theorem mt_X0_setsWithoutAnyOf : MTs yX0_setsWithoutAnyOf cX0_setsWithoutAnyOf 4 (some .long) 1 := ⟨⟨tt_480, tt_60, ⟨by decide +kernel, by decide +kernel⟩, by decide +kernel⟩, tt_479⟩
theorem mt_X1_init : MTi yX1_init cX1_init 1 none 0 := ⟨⟨tt_108, tt_55, ⟨by decide +kernel, by decide +kernel⟩, by decide +kernel⟩, rfl, tt_107⟩
theorem mt_X1_has : MTv yX1_has cX1_has 2 (some .boolean) 1 := ⟨⟨tt_317, tt_55, ⟨by decide +kernel, by decide +kernel⟩, by decide +kernel⟩, tt_316, tt_20⟩
theorem mt_X1_isFull : MTv yX1_isFull cX1_isFull 1 (some .boolean) 0 := ⟨⟨tt_305, tt_55, ⟨by decide +kernel, by decide +kernel⟩, by decide +kernel⟩, tt_304, tt_18⟩
theorem mt_X1_addGlass : MTv yX1_addGlass cX1_addGlass 4 (some .int) 3 := ⟨⟨tt_309, tt_55, ⟨by decide +kernel, by decide +kernel⟩, by decide +kernel⟩, tt_308, tt_19⟩
theorem mt_X1_runs : MTv yX1_runs cX1_runs 3 (some .boolean) 2 := ⟨⟨tt_254, tt_55, ⟨by decide +kernel, by decide +kernel⟩, by decide +kernel⟩, tt_253, tt_9⟩
theorem mt_X1_due : MTv yX1_due cX1_due 2 (some .int) 1 := ⟨⟨tt_301, tt_55, ⟨by decide +kernel, by decide +kernel⟩, by decide +kernel⟩, tt_300, tt_17⟩
theorem mt_X1_anyRuns : MTv yX1_anyRuns cX1_anyRuns 5 (some .boolean) 3 := ⟨⟨tt_250, tt_55, ⟨by decide +kernel, by decide +kernel⟩, by decide +kernel⟩, tt_249, tt_8⟩
theorem mt_X1_openDuties : MTv yX1_openDuties cX1_openDuties 4 (some .int) 1 := ⟨⟨tt_293, tt_55, ⟨by decide +kernel, by decide +kernel⟩, by decide +kernel⟩, tt_292, tt_15⟩
theorem mt_X1_anyDue : MTv yX1_anyDue cX1_anyDue 4 (some .boolean) 2 := ⟨⟨tt_297, tt_55, ⟨by decide +kernel, by decide +kernel⟩, by decide +kernel⟩, tt_296, tt_16⟩
theorem mt_X2_init : MTi yX2_init cX2_init 1 none 0 := ⟨⟨tt_331, tt_59, ⟨by decide +kernel, by decide +kernel⟩, by decide +kernel⟩, rfl, tt_330⟩
theorem mt_X2_hasTask : MTv yX2_hasTask cX2_hasTask 2 (some .boolean) 1 := ⟨⟨tt_396, tt_59, ⟨by decide +kernel, by decide +kernel⟩, by decide +kernel⟩, tt_395, tt_26⟩
theorem mt_X2_arePair : MTv yX2_arePair cX2_arePair 3 (some .boolean) 2 := ⟨⟨tt_392, tt_59, ⟨by decide +kernel, by decide +kernel⟩, by decide +kernel⟩, tt_391, tt_25⟩
theorem mt_X2_taskBits : MTv yX2_taskBits cX2_taskBits 1 (some .int) 0 := ⟨⟨tt_380, tt_59, ⟨by decide +kernel, by decide +kernel⟩, by decide +kernel⟩, tt_379, tt_23⟩
theorem mt_X2_addTask : MTv yX2_addTask cX2_addTask 3 (some .int) 2 := ⟨⟨tt_384, tt_59, ⟨by decide +kernel, by decide +kernel⟩, by decide +kernel⟩, tt_383, tt_24⟩
theorem mt_X2_tasksWithin : MTv yX2_tasksWithin cX2_tasksWithin 4 (some .int) 1 := ⟨⟨tt_467, tt_59, ⟨by decide +kernel, by decide +kernel⟩, by decide +kernel⟩, tt_466, tt_33⟩
theorem mt_X2_allows : MTv yX2_allows cX2_allows 3 (some .boolean) 1 := ⟨⟨tt_476, tt_59, ⟨by decide +kernel, by decide +kernel⟩, by decide +kernel⟩, tt_475, tt_35⟩
theorem mt_X3_init : MTi yX3_init cX3_init 1 none 0 := ⟨⟨tt_140, tt_56, ⟨by decide +kernel, by decide +kernel⟩, by decide +kernel⟩, rfl, tt_139⟩
theorem mt_X3_isFull : MTv yX3_isFull cX3_isFull 1 (some .boolean) 0 := ⟨⟨tt_258, tt_56, ⟨by decide +kernel, by decide +kernel⟩, by decide +kernel⟩, tt_257, tt_10⟩
theorem mt_X3_hasEntry : MTv yX3_hasEntry cX3_hasEntry 2 (some .boolean) 1 := ⟨⟨tt_515, tt_56, ⟨by decide +kernel, by decide +kernel⟩, by decide +kernel⟩, tt_514, tt_37⟩
theorem mt_X3_hasCell : MTv yX3_hasCell cX3_hasCell 3 (some .boolean) 2 := ⟨⟨tt_511, tt_56, ⟨by decide +kernel, by decide +kernel⟩, by decide +kernel⟩, tt_510, tt_36⟩
theorem mt_X3_add : MTv yX3_add cX3_add 7 none 5 := ⟨⟨tt_273, tt_56, ⟨by decide +kernel, by decide +kernel⟩, by decide +kernel⟩, tt_272, tt_13⟩
theorem mt_X3_linkDue : MTv yX3_linkDue cX3_linkDue 6 (some .long) 1 := ⟨⟨tt_277, tt_56, ⟨by decide +kernel, by decide +kernel⟩, by decide +kernel⟩, tt_276, tt_14⟩
theorem mt_X3_firstWrong : MTv yX3_firstWrong cX3_firstWrong 2 (some .int) 0 := ⟨⟨tt_533, tt_56, ⟨by decide +kernel, by decide +kernel⟩, by decide +kernel⟩, tt_532, tt_38⟩
theorem mt_X4_init : MTi yX4_init cX4_init 1 none 0 := ⟨⟨tt_74, tt_54, ⟨by decide +kernel, by decide +kernel⟩, by decide +kernel⟩, rfl, tt_73⟩
theorem mt_X4_hasFirm : MTv yX4_hasFirm cX4_hasFirm 2 (some .boolean) 1 := ⟨⟨tt_214, tt_54, ⟨by decide +kernel, by decide +kernel⟩, by decide +kernel⟩, tt_213, tt_1⟩
theorem mt_X4_hasObject : MTv yX4_hasObject cX4_hasObject 2 (some .boolean) 1 := ⟨⟨tt_231, tt_54, ⟨by decide +kernel, by decide +kernel⟩, by decide +kernel⟩, tt_230, tt_4⟩
theorem mt_X4_addFirm : MTv yX4_addFirm cX4_addFirm 2 (some .int) 1 := ⟨⟨tt_206, tt_54, ⟨by decide +kernel, by decide +kernel⟩, by decide +kernel⟩, tt_205, tt_0⟩
theorem mt_X4_addObject : MTv yX4_addObject cX4_addObject 2 (some .int) 1 := ⟨⟨tt_219, tt_54, ⟨by decide +kernel, by decide +kernel⟩, by decide +kernel⟩, tt_218, tt_2⟩
theorem mt_X4_letRead : MTv yX4_letRead cX4_letRead 4 (some .boolean) 2 := ⟨⟨tt_239, tt_54, ⟨by decide +kernel, by decide +kernel⟩, by decide +kernel⟩, tt_238, tt_6⟩
theorem mt_X4_onReading : MTv yX4_onReading cX4_onReading 3 (some .int) 2 := ⟨⟨tt_246, tt_54, ⟨by decide +kernel, by decide +kernel⟩, by decide +kernel⟩, tt_245, tt_7⟩
theorem mt_X4_onWriting : MTv yX4_onWriting cX4_onWriting 4 (some .int) 2 := ⟨⟨tt_235, tt_54, ⟨by decide +kernel, by decide +kernel⟩, by decide +kernel⟩, tt_234, tt_5⟩
theorem mt_X4_teachFirm : MTv yX4_teachFirm cX4_teachFirm 3 none 2 := ⟨⟨tt_266, tt_54, ⟨by decide +kernel, by decide +kernel⟩, by decide +kernel⟩, tt_265, tt_12⟩
theorem mt_X4_showFirm : MTv yX4_showFirm cX4_showFirm 3 none 2 := ⟨⟨tt_262, tt_54, ⟨by decide +kernel, by decide +kernel⟩, by decide +kernel⟩, tt_261, tt_11⟩
theorem mt_X5_init : MTi yX5_init cX5_init 1 none 0 := ⟨⟨tt_66, tt_53, ⟨by decide +kernel, by decide +kernel⟩, by decide +kernel⟩, rfl, tt_65⟩
theorem mt_X5_tick : MTv yX5_tick cX5_tick 2 (some .int) 1 := ⟨⟨tt_187, tt_53, ⟨by decide +kernel, by decide +kernel⟩, by decide +kernel⟩, tt_185, tt_186⟩
theorem mt_X5_roles : MTv yX5_roles cX5_roles 4 (some .int) 2 := ⟨⟨tt_192, tt_53, ⟨by decide +kernel, by decide +kernel⟩, by decide +kernel⟩, tt_190, tt_191⟩
theorem mt_X5_firm : MTv yX5_firm cX5_firm 2 (some .int) 1 := ⟨⟨tt_202, tt_53, ⟨by decide +kernel, by decide +kernel⟩, by decide +kernel⟩, tt_200, tt_201⟩
theorem mt_X5_object : MTv yX5_object cX5_object 2 (some .int) 1 := ⟨⟨tt_210, tt_53, ⟨by decide +kernel, by decide +kernel⟩, by decide +kernel⟩, tt_208, tt_209⟩
theorem mt_X5_read : MTv yX5_read cX5_read 3 (some .int) 2 := ⟨⟨tt_223, tt_53, ⟨by decide +kernel, by decide +kernel⟩, by decide +kernel⟩, tt_221, tt_222⟩
theorem mt_X5_write : MTv yX5_write cX5_write 3 (some .int) 2 := ⟨⟨tt_284, tt_53, ⟨by decide +kernel, by decide +kernel⟩, by decide +kernel⟩, tt_282, tt_283⟩
theorem mt_X5_glass : MTv yX5_glass cX5_glass 5 (some .int) 3 := ⟨⟨tt_288, tt_53, ⟨by decide +kernel, by decide +kernel⟩, by decide +kernel⟩, tt_286, tt_287⟩
theorem mt_X5_takeOff : MTv yX5_takeOff cX5_takeOff 3 (some .int) 2 := ⟨⟨tt_313, tt_53, ⟨by decide +kernel, by decide +kernel⟩, by decide +kernel⟩, tt_311, tt_312⟩
theorem mt_X5_kind : MTv yX5_kind cX5_kind 1 (some .int) 0 := ⟨⟨tt_327, tt_53, ⟨by decide +kernel, by decide +kernel⟩, by decide +kernel⟩, tt_325, tt_326⟩
theorem mt_X5_task : MTv yX5_task cX5_task 5 (some .int) 3 := ⟨⟨tt_368, tt_53, ⟨by decide +kernel, by decide +kernel⟩, by decide +kernel⟩, tt_366, tt_367⟩
theorem mt_X5_apart : MTv yX5_apart cX5_apart 5 (some .int) 3 := ⟨⟨tt_388, tt_53, ⟨by decide +kernel, by decide +kernel⟩, by decide +kernel⟩, tt_386, tt_387⟩
theorem mt_X5_bound : MTv yX5_bound cX5_bound 5 (some .int) 3 := ⟨⟨tt_404, tt_53, ⟨by decide +kernel, by decide +kernel⟩, by decide +kernel⟩, tt_402, tt_403⟩
theorem mt_X5_most : MTv yX5_most cX5_most 5 (some .int) 2 := ⟨⟨tt_408, tt_53, ⟨by decide +kernel, by decide +kernel⟩, by decide +kernel⟩, tt_406, tt_407⟩
theorem mt_X5_open : MTv yX5_open cX5_open 3 (some .int) 1 := ⟨⟨tt_412, tt_53, ⟨by decide +kernel, by decide +kernel⟩, by decide +kernel⟩, tt_410, tt_411⟩
theorem mt_X5_perform : MTv yX5_perform cX5_perform 6 (some .int) 3 := ⟨⟨tt_430, tt_53, ⟨by decide +kernel, by decide +kernel⟩, by decide +kernel⟩, tt_428, tt_429⟩
theorem mt_X5_canEnd : MTv yX5_canEnd cX5_canEnd 3 (some .int) 1 := ⟨⟨tt_489, tt_53, ⟨by decide +kernel, by decide +kernel⟩, by decide +kernel⟩, tt_487, tt_488⟩
theorem mt_X5_doer : MTv yX5_doer cX5_doer 4 (some .int) 2 := ⟨⟨tt_494, tt_53, ⟨by decide +kernel, by decide +kernel⟩, by decide +kernel⟩, tt_492, tt_493⟩
theorem mt_X5_told : MTv yX5_told cX5_told 3 (some .int) 2 := ⟨⟨tt_498, tt_53, ⟨by decide +kernel, by decide +kernel⟩, by decide +kernel⟩, tt_496, tt_497⟩
theorem mt_X5_glassTold : MTv yX5_glassTold cX5_glassTold 3 (some .int) 2 := ⟨⟨tt_502, tt_53, ⟨by decide +kernel, by decide +kernel⟩, by decide +kernel⟩, tt_500, tt_501⟩
theorem mt_X5_entry : MTv yX5_entry cX5_entry 3 (some .int) 2 := ⟨⟨tt_507, tt_53, ⟨by decide +kernel, by decide +kernel⟩, by decide +kernel⟩, tt_505, tt_506⟩
theorem mt_X5_link : MTv yX5_link cX5_link 2 (some .long) 1 := ⟨⟨tt_520, tt_53, ⟨by decide +kernel, by decide +kernel⟩, by decide +kernel⟩, tt_518, tt_519⟩
theorem mt_X5_alter : MTv yX5_alter cX5_alter 5 (some .int) 3 := ⟨⟨tt_525, tt_53, ⟨by decide +kernel, by decide +kernel⟩, by decide +kernel⟩, tt_523, tt_524⟩
theorem mt_X5_check : MTv yX5_check cX5_check 1 (some .int) 0 := ⟨⟨tt_529, tt_53, ⟨by decide +kernel, by decide +kernel⟩, by decide +kernel⟩, tt_527, tt_528⟩
theorem mt_X5_count : MTv yX5_count cX5_count 2 (some .int) 1 := ⟨⟨tt_537, tt_53, ⟨by decide +kernel, by decide +kernel⟩, by decide +kernel⟩, tt_535, tt_536⟩
theorem mt_X5_reach : MTv yX5_reach cX5_reach 7 (some .int) 3 := ⟨⟨tt_227, tt_53, ⟨by decide +kernel, by decide +kernel⟩, by decide +kernel⟩, tt_226, tt_3⟩
theorem mt_X5_kindAt : MTv yX5_kindAt cX5_kindAt 2 (some (.object "WallDesk$Kind")) 1 := ⟨⟨tt_376, tt_53, ⟨by decide +kernel, by decide +kernel⟩, by decide +kernel⟩, tt_375, tt_22⟩
theorem mt_X5_alterableKind : MTv yX5_alterableKind cX5_alterableKind 3 (some (.object "WallDesk$Kind")) 1 := ⟨⟨tt_372, tt_53, ⟨by decide +kernel, by decide +kernel⟩, by decide +kernel⟩, tt_371, tt_21⟩
theorem mt_X5_caseAt : MTv yX5_caseAt cX5_caseAt 2 (some (.object "WallDesk$Case")) 1 := ⟨⟨tt_434, tt_53, ⟨by decide +kernel, by decide +kernel⟩, by decide +kernel⟩, tt_433, tt_27⟩
theorem mt_X5_isUser : MTs yX5_isUser cX5_isUser 1 (some .boolean) 1 := ⟨⟨tt_195, tt_53, ⟨by decide +kernel, by decide +kernel⟩, by decide +kernel⟩, tt_194⟩
theorem mt_X5_isBelow : MTs yX5_isBelow cX5_isBelow 2 (some .boolean) 2 := ⟨⟨tt_198, tt_53, ⟨by decide +kernel, by decide +kernel⟩, by decide +kernel⟩, tt_197⟩
theorem mt_X5_hasBit : MTs yX5_hasBit cX5_hasBit 2 (some .boolean) 2 := ⟨⟨tt_242, tt_53, ⟨by decide +kernel, by decide +kernel⟩, by decide +kernel⟩, tt_241⟩
theorem mt_X5_asNumber : MTs yX5_asNumber cX5_asNumber 1 (some .int) 1 := ⟨⟨tt_269, tt_53, ⟨by decide +kernel, by decide +kernel⟩, by decide +kernel⟩, tt_268⟩
theorem mt_X5_joinPair : MTs yX5_joinPair cX5_joinPair 4 (some .int) 3 := ⟨⟨tt_400, tt_53, ⟨by decide +kernel, by decide +kernel⟩, by decide +kernel⟩, tt_399⟩
theorem mt_X6_init : MTi yX6_init cX6_init 1 none 0 := ⟨⟨tt_542, tt_57, ⟨by decide +kernel, by decide +kernel⟩, by decide +kernel⟩, rfl, tt_541⟩
theorem mt_X6_isIn : MTs yX6_isIn cX6_isIn 3 (some .boolean) 3 := ⟨⟨tt_632, tt_57, ⟨by decide +kernel, by decide +kernel⟩, by decide +kernel⟩, tt_631⟩
theorem mt_X6_isUser : MTs yX6_isUser cX6_isUser 1 (some .boolean) 1 := ⟨⟨tt_640, tt_57, ⟨by decide +kernel, by decide +kernel⟩, by decide +kernel⟩, tt_639⟩
theorem mt_X6_tick : MTv yX6_tick cX6_tick 2 (some .int) 1 := ⟨⟨tt_629, tt_57, ⟨by decide +kernel, by decide +kernel⟩, by decide +kernel⟩, tt_627, tt_628⟩
theorem mt_X6_roles : MTv yX6_roles cX6_roles 4 (some .int) 2 := ⟨⟨tt_637, tt_57, ⟨by decide +kernel, by decide +kernel⟩, by decide +kernel⟩, tt_635, tt_636⟩
theorem mt_X6_firm : MTv yX6_firm cX6_firm 2 (some .int) 1 := ⟨⟨tt_644, tt_57, ⟨by decide +kernel, by decide +kernel⟩, by decide +kernel⟩, tt_642, tt_643⟩
theorem mt_X6_object : MTv yX6_object cX6_object 2 (some .int) 1 := ⟨⟨tt_648, tt_57, ⟨by decide +kernel, by decide +kernel⟩, by decide +kernel⟩, tt_646, tt_647⟩
theorem mt_X6_linkOf : MTs yX6_linkOf cX6_linkOf 10 (some .long) 6 := ⟨⟨tt_679, tt_57, ⟨by decide +kernel, by decide +kernel⟩, by decide +kernel⟩, tt_678⟩
theorem mt_X6_linkAt : MTv yX6_linkAt cX6_linkAt 3 (some .long) 1 := ⟨⟨tt_676, tt_57, ⟨by decide +kernel, by decide +kernel⟩, by decide +kernel⟩, tt_675, tt_44⟩
theorem mt_X6_enter : MTv yX6_enter cX6_enter 6 none 4 := ⟨⟨tt_672, tt_57, ⟨by decide +kernel, by decide +kernel⟩, by decide +kernel⟩, tt_671, tt_43⟩
theorem mt_X6_isOpen : MTv yX6_isOpen cX6_isOpen 2 (some .boolean) 1 := ⟨⟨tt_664, tt_57, ⟨by decide +kernel, by decide +kernel⟩, by decide +kernel⟩, tt_663, tt_41⟩
theorem mt_X6_isWalled : MTv yX6_isWalled cX6_isWalled 4 (some .boolean) 2 := ⟨⟨tt_660, tt_57, ⟨by decide +kernel, by decide +kernel⟩, by decide +kernel⟩, tt_659, tt_40⟩
theorem mt_X6_hasGlass : MTv yX6_hasGlass cX6_hasGlass 4 (some .boolean) 2 := ⟨⟨tt_668, tt_57, ⟨by decide +kernel, by decide +kernel⟩, by decide +kernel⟩, tt_667, tt_42⟩
theorem mt_X6_read : MTv yX6_read cX6_read 3 (some .int) 2 := ⟨⟨tt_652, tt_57, ⟨by decide +kernel, by decide +kernel⟩, by decide +kernel⟩, tt_650, tt_651⟩
theorem mt_X6_write : MTv yX6_write cX6_write 3 (some .int) 2 := ⟨⟨tt_686, tt_57, ⟨by decide +kernel, by decide +kernel⟩, by decide +kernel⟩, tt_684, tt_685⟩
theorem mt_X6_access : MTv yX6_access cX6_access 9 (some .int) 3 := ⟨⟨tt_656, tt_57, ⟨by decide +kernel, by decide +kernel⟩, by decide +kernel⟩, tt_655, tt_39⟩
theorem mt_X6_duties : MTv yX6_duties cX6_duties 4 (some .int) 1 := ⟨⟨tt_694, tt_57, ⟨by decide +kernel, by decide +kernel⟩, by decide +kernel⟩, tt_693, tt_45⟩
theorem mt_X6_isLate : MTv yX6_isLate cX6_isLate 3 (some .boolean) 1 := ⟨⟨tt_698, tt_57, ⟨by decide +kernel, by decide +kernel⟩, by decide +kernel⟩, tt_697, tt_46⟩
theorem mt_X6_glass : MTv yX6_glass cX6_glass 4 (some .int) 3 := ⟨⟨tt_690, tt_57, ⟨by decide +kernel, by decide +kernel⟩, by decide +kernel⟩, tt_688, tt_689⟩
theorem mt_X6_takeOff : MTv yX6_takeOff cX6_takeOff 3 (some .int) 2 := ⟨⟨tt_702, tt_57, ⟨by decide +kernel, by decide +kernel⟩, by decide +kernel⟩, tt_700, tt_701⟩
theorem mt_X6_kind : MTv yX6_kind cX6_kind 1 (some .int) 0 := ⟨⟨tt_707, tt_57, ⟨by decide +kernel, by decide +kernel⟩, by decide +kernel⟩, tt_705, tt_706⟩
theorem mt_X6_isFree : MTv yX6_isFree cX6_isFree 4 (some .boolean) 1 := ⟨⟨tt_715, tt_57, ⟨by decide +kernel, by decide +kernel⟩, by decide +kernel⟩, tt_714, tt_47⟩
theorem mt_X6_task : MTv yX6_task cX6_task 5 (some .int) 3 := ⟨⟨tt_711, tt_57, ⟨by decide +kernel, by decide +kernel⟩, by decide +kernel⟩, tt_709, tt_710⟩
theorem mt_X6_arePair : MTv yX6_arePair cX6_arePair 4 (some .boolean) 3 := ⟨⟨tt_723, tt_57, ⟨by decide +kernel, by decide +kernel⟩, by decide +kernel⟩, tt_722, tt_48⟩
theorem mt_X6_pair : MTs yX6_pair cX6_pair 3 (some .int) 3 := ⟨⟨tt_726, tt_57, ⟨by decide +kernel, by decide +kernel⟩, by decide +kernel⟩, tt_725⟩
theorem mt_X6_apart : MTv yX6_apart cX6_apart 5 (some .int) 3 := ⟨⟨tt_719, tt_57, ⟨by decide +kernel, by decide +kernel⟩, by decide +kernel⟩, tt_717, tt_718⟩
theorem mt_X6_bound : MTv yX6_bound cX6_bound 5 (some .int) 3 := ⟨⟨tt_733, tt_57, ⟨by decide +kernel, by decide +kernel⟩, by decide +kernel⟩, tt_731, tt_732⟩
theorem mt_X6_most : MTv yX6_most cX6_most 4 (some .int) 2 := ⟨⟨tt_737, tt_57, ⟨by decide +kernel, by decide +kernel⟩, by decide +kernel⟩, tt_735, tt_736⟩
theorem mt_X6_open : MTv yX6_open cX6_open 3 (some .int) 1 := ⟨⟨tt_741, tt_57, ⟨by decide +kernel, by decide +kernel⟩, by decide +kernel⟩, tt_739, tt_740⟩
theorem mt_X6_isTask : MTv yX6_isTask cX6_isTask 3 (some .boolean) 2 := ⟨⟨tt_761, tt_57, ⟨by decide +kernel, by decide +kernel⟩, by decide +kernel⟩, tt_760, tt_51⟩
theorem mt_X6_isFit : MTv yX6_isFit cX6_isFit 5 (some .boolean) 2 := ⟨⟨tt_753, tt_57, ⟨by decide +kernel, by decide +kernel⟩, by decide +kernel⟩, tt_752, tt_50⟩
theorem mt_X6_canBe : MTv yX6_canBe cX6_canBe 7 (some .boolean) 1 := ⟨⟨tt_749, tt_57, ⟨by decide +kernel, by decide +kernel⟩, by decide +kernel⟩, tt_748, tt_49⟩
theorem mt_X6_canEnd : MTv yX6_canEnd cX6_canEnd 2 (some .int) 1 := ⟨⟨tt_745, tt_57, ⟨by decide +kernel, by decide +kernel⟩, by decide +kernel⟩, tt_743, tt_744⟩
theorem mt_X6_doer : MTv yX6_doer cX6_doer 3 (some .int) 2 := ⟨⟨tt_757, tt_57, ⟨by decide +kernel, by decide +kernel⟩, by decide +kernel⟩, tt_755, tt_756⟩
theorem mt_X6_perform : MTv yX6_perform cX6_perform 14 (some .int) 3 := ⟨⟨tt_765, tt_57, ⟨by decide +kernel, by decide +kernel⟩, by decide +kernel⟩, tt_763, tt_764⟩
theorem mt_X6_told : MTv yX6_told cX6_told 3 (some .int) 2 := ⟨⟨tt_769, tt_57, ⟨by decide +kernel, by decide +kernel⟩, by decide +kernel⟩, tt_767, tt_768⟩
theorem mt_X6_glassTold : MTv yX6_glassTold cX6_glassTold 3 (some .int) 2 := ⟨⟨tt_773, tt_57, ⟨by decide +kernel, by decide +kernel⟩, by decide +kernel⟩, tt_771, tt_772⟩
theorem mt_X6_entry : MTv yX6_entry cX6_entry 3 (some .int) 2 := ⟨⟨tt_777, tt_57, ⟨by decide +kernel, by decide +kernel⟩, by decide +kernel⟩, tt_775, tt_776⟩
theorem mt_X6_link : MTv yX6_link cX6_link 2 (some .long) 1 := ⟨⟨tt_781, tt_57, ⟨by decide +kernel, by decide +kernel⟩, by decide +kernel⟩, tt_779, tt_780⟩
theorem mt_X6_alter : MTv yX6_alter cX6_alter 5 (some .int) 3 := ⟨⟨tt_785, tt_57, ⟨by decide +kernel, by decide +kernel⟩, by decide +kernel⟩, tt_783, tt_784⟩
theorem mt_X6_check : MTv yX6_check cX6_check 2 (some .int) 0 := ⟨⟨tt_789, tt_57, ⟨by decide +kernel, by decide +kernel⟩, by decide +kernel⟩, tt_787, tt_788⟩
theorem mt_X6_count : MTv yX6_count cX6_count 2 (some .int) 1 := ⟨⟨tt_793, tt_57, ⟨by decide +kernel, by decide +kernel⟩, by decide +kernel⟩, tt_791, tt_792⟩
theorem mt_J6_bitCount_0f7a4 : MTs yJ6_bitCount_0f7a4 cJ6_bitCount_0f7a4 1 (some .int) 1 := ⟨⟨tt_452, tt_61, ⟨by decide +kernel, by decide +kernel⟩, by decide +kernel⟩, tt_451⟩
theorem mt_J9_max_7cf53 : MTs yJ9_max_7cf53 cJ9_max_7cf53 2 (some .int) 2 := ⟨⟨tt_323, tt_58, ⟨by decide +kernel, by decide +kernel⟩, by decide +kernel⟩, tt_322⟩
theorem mt_J9_min_7cf53 : MTs yJ9_min_7cf53 cJ9_min_7cf53 2 (some .int) 2 := ⟨⟨tt_729, tt_58, ⟨by decide +kernel, by decide +kernel⟩, by decide +kernel⟩, tt_728⟩
end
section
/-! the world of a method as a list of cells; what a method needs of the machine (CX), what its world is (WD), how it is called -/
abbrev GG : Type := ((Nat → ClassId) × (Nat → Nat → Nat)) × (Nat → ClassId)
def TY (G : GG) : List (ClassId × FieldType) := [(G.2 0, .int), (G.2 1, .long), (G.2 2, .boolean), (G.2 3, .object "WallDesk$Kind"), (G.2 4, .object "WallDesk$Case")]
def NWs (U : State) : Prop := ∀ w ∈ NT, va_Nw w U
theorem NWs.warm {s U : State} (hW : s.WarmedH U.vm) (h : NWs s) : NWs U := by
  intro w hw
  have h1 := h w hw
  have h2 := (List.mem_filter.mp hw).2
  cases w <;> first | (simp [isNest] at h2; done) | exact va_Nw.warmF hW h1 | exact va_Nw.warmM hW h1
theorem NWs.same {u U : State} (h : u.vm = U.vm) (hu : NWs u) : NWs U := by
  intro w hw
  have h1 := hu w hw
  have h2 := (List.mem_filter.mp hw).2
  cases w <;> first | (simp [isNest] at h2; done) | exact va_Nw.same rfl h h1
def SW (j : Nat) : Int64 := match j with
  | 0 => 6148914691236517205
  | 1 => 3689348814741910323
  | 2 => 1085102592571150095
  | 3 => 71777214294589695
  | 4 => 281470681808895
  | _ => 4294967295
/-- the one static array, that nobody writes -/
def ZT (A : Nat → Prop) (U : State) (H : Heap) : Prop := ∃ t : Nat, va_Z "WallDesk$Case" "SETS_WITHOUT" "[J" (.ref t) A U H ∧ va_T .long t 6 (fun j => .long (SW j)) A U H
theorem ZT.moved {A : Nat → Prop} {u U : State} {H : Heap} (hvm : u.vm.Alike U.vm) (h : ZT A u H) : ZT A U H := by
  obtain ⟨t, h1, h2⟩ := h
  exact ⟨t, h1.moved hvm, h2.moved hvm⟩
theorem ZT.kept {A : Nat → Prop} {U : State} {H H1 : Heap} (h : ZT A U H) (hq : ∀ a : Nat, a < H.size → ¬ A a → H1[a]? = H[a]?) : ZT A U H1 := by
  obtain ⟨t, h1, h2⟩ := h
  exact ⟨t, h1.kept hq, h2.kept hq⟩
theorem ZT.narrow {A B : Nat → Prop} {U : State} {H : Heap} (h : ZT A U H) (hAB : ∀ q, B q → A q) : ZT B U H := by
  obtain ⟨t, h1, h2⟩ := h
  exact ⟨t, h1.narrow hAB, h2.narrow hAB⟩
abbrev WS (y : MethodName) (cc : ByteArray) (n : Nat) (ret : Option FieldType) : List Cond := Cond.code y cc n ret :: TT
theorem gd_ws {a b : Cond} (hb : b ∈ TT) : GoodIn (a :: TT) (b :: TT) := by
  intro w hw
  have hT : w ∈ TT := by
    rcases List.mem_cons.mp hw with rfl | h
    · exact hb
    · exact h
  exact ⟨List.mem_cons_of_mem _ hT, good_of_word (List.mem_filter.mp hT).2⟩
def CX (p : Program) (m : MethodId) (meth : Method) (c : Code) (s : State) (args : Array Value) (y : MethodName) (cc : ByteArray) (nL : Nat) (ret : Option FieldType) : Prop :=
  p.tables.exec = Jvm.exec ∧ c.code = cc ∧ meth.sig.returnType = ret ∧ c.maxLocals = nL ∧ s.vm.findClass y.cls = some m.cls ∧ meth.locks = false ∧ meth.name = y.name ∧ (∀ w ∈ WS y cc nL ret, w.before args s = true) ∧ NWs s
def WD (G : GG) (A : Nat → Prop) (ws : va_W) (s : State) (H : Heap) (locs : List Loc) : Prop :=
  va_P G.1 vwCl ws H ∧ va_D A ws ∧ va_S A s.heap H locs ∧ va_K G.1 vwCl (TY G) s ∧ (∀ q : Nat, s.heap.size ≤ q → A q) ∧ ZT A s s.heap
def PB (G : GG) (ws : va_W) (sz : Nat) (U : State) : Prop := U.heap.size = sz ∧ va_P G.1 vwCl ws U.heap ∧ va_K G.1 vwCl (TY G) U ∧ va_D (fun _ => True) ws ∧ NWs U ∧ ZT (va_A ws sz) U U.heap
def QB (G : GG) (ws : va_W) (A : Nat → Prop) (t : State) : Prop := va_P G.1 vwCl ws t.heap ∧ va_K G.1 vwCl (TY G) t ∧ va_D A ws
theorem pb_blind {G : GG} {ws : va_W} {sz : Nat} {av : List Value} : FrameBlind (va_Pc av (PB G ws sz)) := by
  intro a U g mk q
  obtain ⟨q0, q1, qP, qK, qD, qN, qZ⟩ := q
  exact ⟨q0, q1, qP, va_K.moved (u := U) (U := U.calling g mk a) (Vm.Alike.refl U.vm) qK, qD, NWs.same (u := U) (U := U.calling g mk a) rfl qN, ZT.moved (u := U) (U := U.calling g mk a) (Vm.Alike.refl U.vm) qZ⟩
theorem ct_of {l : Launch} {y : MethodName} {cc : ByteArray} {nL : Nat} {ret : Option FieldType} {rm : Room} {G : GG} {av : List Value} {ws : va_W} {sz : Nat} {Qc : Array Value → State → Outcome → State → Prop} {mc ms : Nat} {free : Addr → Prop} (hy : plainName y.cls = true) (hn : (lg_sl av).length ≤ nL)
    (body : ∀ (p : Program) (e : Env) (s : State) (m : MethodId) (below : List Frame) (meth : Method) (c : Code) (ls : Array Slot), CX p m meth c s av.toArray y cc nL ret → WD G (va_A ws sz) ws s s.heap [] → s.heap.size = sz → lv_has ls nL (lv_args 0 av) →
      W p l e rm s m av.toArray below meth c s.heap [] 0 0 (MQ below Qc av.toArray s mc ms free) (F0 m 0 ls [])) : Met l y (WS y cc nL ret) rm (va_Pc av (PB G ws sz)) Qc mc ms free := by
  refine Met.ofW (cc := cc) (maxL := nL) (ret := ret) hy rfl ?_
  intro p e s m args below meth c s₁ B hml hv
  obtain ⟨rfl, hsz, hP, hK, hD0, hnw, hz⟩ := hv
  have hl := lv_entry av (n := nL) hn
  rw [lg_entry_eq]
  exact body p e s m below meth c _ ⟨B.exec, B.bytes, B.returns, hml, findClass_of_methodNamed B.named, B.notSynchronized, (name_of_methodNamed B.named B.method).1, atoms_spec (ws := WS y cc nL ret) B.pre, hnw⟩ ⟨hP, hsz ▸ hD0.self, va_S.rf, hK, fun q h => Or.inr (hsz ▸ h), hz⟩ hsz hl
/-- contracts: an int, a long, nothing comes back; the world ws becomes ws' -/
abbrev CtI (l : Launch) (y : MethodName) (cc : ByteArray) (nL : Nat) (ret : Option FieldType) (rm : Room) (G : GG) (av : List Value) (ws ws' : va_W) (sz : Nat) (r : Int32) : Prop := Met l y (WS y cc nL ret) rm (va_Pc av (PB G ws sz)) (va_Qi (fun x (_ : Unit) => x = r) (fun _ t => QB G ws' (va_A ws sz) t) (va_A ws sz)) 0 0 (va_A ws sz)
abbrev CtL (l : Launch) (y : MethodName) (cc : ByteArray) (nL : Nat) (ret : Option FieldType) (rm : Room) (G : GG) (av : List Value) (ws ws' : va_W) (sz : Nat) (r : Int64) : Prop := Met l y (WS y cc nL ret) rm (va_Pc av (PB G ws sz)) (va_Ql (fun x (_ : Unit) => x = r) (fun _ t => QB G ws' (va_A ws sz) t) (va_A ws sz)) 0 0 (va_A ws sz)
abbrev CtV (l : Launch) (y : MethodName) (cc : ByteArray) (nL : Nat) (ret : Option FieldType) (rm : Room) (G : GG) (av : List Value) (ws ws' : va_W) (sz : Nat) : Prop := Met l y (WS y cc nL ret) rm (va_Pc av (PB G ws sz)) (va_Qv (fun (_ : Unit) => True) (fun _ t => QB G ws' (va_A ws sz) t) (va_A ws sz)) 0 0 (va_A ws sz)
/-- the ends of a walk -/
abbrev EnI (below : List Frame) (G : GG) (A : Nat → Prop) (args : Array Value) (s : State) (ws' : va_W) (r : Int32) : State → Prop := MQ below (va_Qi (fun x (_ : Unit) => x = r) (fun _ t => QB G ws' A t) A) args s 0 0 A
abbrev EnL (below : List Frame) (G : GG) (A : Nat → Prop) (args : Array Value) (s : State) (ws' : va_W) (r : Int64) : State → Prop := MQ below (va_Ql (fun x (_ : Unit) => x = r) (fun _ t => QB G ws' A t) A) args s 0 0 A
abbrev EnV (below : List Frame) (G : GG) (A : Nat → Prop) (args : Array Value) (s : State) (ws' : va_W) : State → Prop := MQ below (va_Qv (fun (_ : Unit) => True) (fun _ t => QB G ws' A t) A) args s 0 0 A
def gd {α : Type} (i : Int32) (n : Nat) (k : Option α) : Option α := if ¬ (i < 0 ∨ n ≤ i.toNatClampNeg) then k else none
theorem gdS {α : Type} {i : Int32} {n : Nat} {k : Option α} {r : α} (h : gd i n k = some r) : vp_in i n ∧ k = some r := by
  unfold gd at h
  by_cases hc : ¬ (i < 0 ∨ n ≤ i.toNatClampNeg)
  · rw [if_pos hc] at h
    exact ⟨hc, h⟩
  · rw [if_neg hc] at h
    cases h
def gp {α : Type} (c : Prop) [Decidable c] (k : Option α) : Option α := if c then k else none
theorem gpS {α : Type} {c : Prop} [Decidable c] {k : Option α} {r : α} (h : gp c k = some r) : c ∧ k = some r := by
  unfold gp at h
  by_cases hc : c
  · rw [if_pos hc] at h
    exact ⟨hc, h⟩
  · rw [if_neg hc] at h
    cases h
theorem bdS {α β : Type} {o : Option α} {f : α → Option β} {r : β} (h : o.bind f = some r) : ∃ x, o = some x ∧ f x = some r := Option.bind_eq_some_iff.mp h
def aS (A : Nat → Nat → Int32) (k i : Nat) (x : Int32) : Nat → Nat → Int32 := fun j => if j = k then upd (A k) i x else A j
def jS (J : Nat → Nat → Int64) (k i : Nat) (x : Int64) : Nat → Nat → Int64 := fun j => if j = k then vp_updL (J k) i x else J j
theorem va_P_mem {D : va_G} {cl : List vw_C} {ws : va_W} {H : Heap} : va_P D cl ws H ↔ ∀ q ∈ ws, va_at D cl q H :=
  ⟨fun h q hq => by obtain ⟨k, hk⟩ := List.mem_iff_getElem?.mp hq; exact h k q hk, fun h k q hk => h q (List.mem_of_getElem? hk)⟩
theorem va_D_iff {A : Nat → Prop} {ws : va_W} : va_D A ws ↔ (ws.map Prod.fst).Nodup ∧ ∀ q ∈ ws, A q.1 := by
  constructor
  · intro h
    refine ⟨?_, fun q hq => by obtain ⟨k, hk⟩ := List.mem_iff_getElem?.mp hq; exact h.2 k q hk⟩
    unfold List.Nodup
    rw [List.pairwise_iff_getElem]
    intro i j hi hj hij he
    simp only [List.length_map] at hi hj
    simp only [List.getElem_map] at he
    exact absurd (h.1 i j _ _ (List.getElem?_eq_getElem hi) (List.getElem?_eq_getElem hj) he) (Nat.ne_of_lt hij)
  · intro h
    refine ⟨fun i j p q hp hq he => ?_, fun k q hk => h.2 q (List.mem_of_getElem? hk)⟩
    have h1 := h.1
    unfold List.Nodup at h1
    rw [List.pairwise_iff_getElem] at h1
    obtain ⟨hi, rfl⟩ := List.getElem?_eq_some_iff.mp hp
    obtain ⟨hj, rfl⟩ := List.getElem?_eq_some_iff.mp hq
    rcases Nat.lt_trichotomy i j with hl | hl | hl
    · exact absurd (by rw [List.getElem_map, List.getElem_map]; exact he) (h1 i j (by simpa using hi) (by simpa using hj) hl)
    · exact hl
    · exact absurd (by rw [List.getElem_map, List.getElem_map]; exact he.symm) (h1 j i (by simpa using hj) (by simpa using hi) hl)
theorem va_A_mem {ws : va_W} {sz q : Nat} : va_A ws sz q ↔ q ∈ ws.map Prod.fst ∨ sz ≤ q := by
  unfold va_A
  constructor
  · rintro (⟨k, e, h⟩ | h)
    · exact Or.inl (List.mem_map.mpr ⟨_, List.mem_of_getElem? h, rfl⟩)
    · exact Or.inr h
  · rintro (h | h)
    · obtain ⟨x, hx, rfl⟩ := List.mem_map.mp h
      obtain ⟨k, hk⟩ := List.mem_iff_getElem?.mp hx
      exact Or.inl ⟨k, x.2, hk⟩
    · exact Or.inr h
theorem seg_A {A0 : Nat → Prop} {pre wc post : va_W} {H0 H : Heap} {locs : List Loc} (hD : va_D A0 (pre ++ (wc ++ post))) (hS : va_S A0 H0 H locs) (hA : ∀ q : Nat, H0.size ≤ q → A0 q) : ∀ q, va_A wc H.size q → A0 q := by
  intro q h
  rcases va_A_mem.mp h with h | h
  · obtain ⟨x, hx, rfl⟩ := List.mem_map.mp h
    exact (va_D_iff.mp hD).2 x (by simp [hx])
  · exact hA q (Nat.le_trans hS.1 h)
theorem seg_D {A0 B : Nat → Prop} {pre wc post : va_W} (hD : va_D A0 (pre ++ (wc ++ post))) (hB : ∀ q, A0 q → B q) : va_D B wc := by
  have h := va_D_iff.mp hD
  refine va_D_iff.mpr ⟨?_, fun q hq => hB _ (h.2 q (by simp [hq]))⟩
  have h1 := h.1
  rw [List.map_append, List.map_append, List.nodup_append] at h1
  exact (List.nodup_append.mp h1.2.1).1
theorem seg_P {D : va_G} {cl : List vw_C} {pre wc post : va_W} {H : Heap} (hP : va_P D cl (pre ++ (wc ++ post)) H) : va_P D cl wc H := va_P_mem.mpr fun q hq => va_P_mem.mp hP q (by simp [hq])
/-- behind a call: the segment wc of the world has become wc', the rest has stayed -/
theorem seg_join {A0 : Nat → Prop} {D : va_G} {cl : List vw_C} {pre wc wc' post : va_W} {H H1 : Heap} (hP : va_P D cl (pre ++ (wc ++ post)) H) (hD : va_D A0 (pre ++ (wc ++ post)))
    (hk : ∀ q : Nat, q < H.size → ¬ va_A wc H.size q → H1[q]? = H[q]?) (hF : ∀ q, va_A wc H.size q → A0 q) (hP1 : va_P D cl wc' H1) (hD1 : va_D (va_A wc H.size) wc') : va_P D cl (pre ++ (wc' ++ post)) H1 ∧ va_D A0 (pre ++ (wc' ++ post)) := by
  have hM := va_P_mem.mp hP
  have hd := va_D_iff.mp hD
  have hn := hd.1
  rw [List.map_append, List.map_append, List.nodup_append] at hn
  obtain ⟨n1, n2, n3⟩ := hn
  rw [List.nodup_append] at n2
  obtain ⟨n4, n5, n6⟩ := n2
  have hd1 := va_D_iff.mp hD1
  have off : ∀ q, (q ∈ pre ∨ q ∈ post) → q.1 < H.size ∧ ¬ va_A wc H.size q.1 := by
    intro q hq
    have hlt : q.1 < H.size := (hM q (by rcases hq with h | h <;> simp [h])).lt
    refine ⟨hlt, fun h => ?_⟩
    rcases va_A_mem.mp h with h | h
    · rcases hq with hq | hq
      · exact n3 q.1 (List.mem_map.mpr ⟨q, hq, rfl⟩) q.1 (List.mem_append.mpr (Or.inl h)) rfl
      · exact n6 q.1 h q.1 (List.mem_map.mpr ⟨q, hq, rfl⟩) rfl
    · omega
  refine ⟨va_P_mem.mpr fun q hq => ?_, va_D_iff.mpr ⟨?_, fun q hq => ?_⟩⟩
  · rcases List.mem_append.mp hq with h | h
    · obtain ⟨g1, g2⟩ := off q (Or.inl h)
      exact (hM q (by simp [h])).kept (hk q.1 g1 g2)
    · rcases List.mem_append.mp h with h | h
      · exact va_P_mem.mp hP1 q h
      · obtain ⟨g1, g2⟩ := off q (Or.inr h)
        exact (hM q (by simp [h])).kept (hk q.1 g1 g2)
  · rw [List.map_append, List.map_append, List.nodup_append]
    refine ⟨n1, List.nodup_append.mpr ⟨hd1.1, n5, fun a ha b hb he => ?_⟩, fun a ha b hb he => ?_⟩
    · subst he
      obtain ⟨x, hx, rfl⟩ := List.mem_map.mp ha
      obtain ⟨z, hz, hzx⟩ := List.mem_map.mp hb
      exact (off z (Or.inr hz)).2 (by rw [hzx]; exact hd1.2 x hx)
    · subst he
      obtain ⟨z, hz, hzx⟩ := List.mem_map.mp ha
      rcases List.mem_append.mp hb with hb | hb
      · obtain ⟨x, hx, hxe⟩ := List.mem_map.mp hb
        exact (off z (Or.inl hz)).2 (by rw [hzx, ← hxe]; exact hd1.2 x hx)
      · exact n3 _ ha _ (List.mem_append.mpr (Or.inr hb)) rfl
  · rcases List.mem_append.mp hq with h | h
    · exact hd.2 q (by simp [h])
    · rcases List.mem_append.mp h with h | h
      · exact hF _ (hd1.2 q h)
      · exact hd.2 q (by simp [h])
section CORE
variable {p : Program} {l : Launch} {e : Env} {R : Room} {s : State} {m : MethodId} {args : Array Value} {below : List Frame} {meth : Method} {c : Code} {H : Heap} {locs : List Loc} {cells slots : Nat} {Q : State → Prop}
variable {cc : ByteArray} {pc : Nat} {ls : Array Slot} {rest : List Value} {A : Nat → Prop} {a : Nat} {ws : va_W} {y : MethodName} {nL : Nat} {ret : Option FieldType} {G : GG}
theorem CX.ts (C : CX p m meth c s args y cc nL ret) {w : Cond} (h : w ∈ TT) : w.before args s = true := C.2.2.2.2.2.2.2.1 w (List.mem_cons_of_mem _ h)
theorem CX.ns (C : CX p m meth c s args y cc nL ret) {w : Cond} (h : w ∈ NT) : w.before args s = true := va_Nw.use (by have h2 := (List.mem_filter.mp h).2; cases w <;> first | (simp [isNest] at h2; done) | rfl) (C.2.2.2.2.2.2.2.2 w h)
theorem r_get (C : CX p m meth c s args y cc nL ret) (w : WD G A ws s H locs) (q0 ci k : Nat) {cn : String} {T : u_T} {N idx : Nat} {fs : List Value} (v : Value) (he : ws[q0]? = some (a, .inr (ci, fs))) (hc : vwCl[ci]? = some (cn, T, N)) (hin : ∀ w ∈ u_ws cn T N, w ∈ TT) (hk : k < N) (hl : Cond.fieldLink y.cls idx (T k).1 (T k).2.1 (T k).2.2.1 ∈ TT) (hv : fs[k]? = some v) (hdg : decode cc pc = .ok (.getfield idx, 3))
    (kk : W p l e R s m args below meth c H locs cells slots Q (F0 m (pc + 3) ls (v :: rest))) : W p l e R s m args below meth c H locs cells slots Q (F0 m pc ls (.ref a :: rest)) :=
  va_get C.1 C.2.1 C.2.2.2.2.2.2.2.1 (fun w h => List.mem_cons_of_mem _ (hin w h)) C.2.2.2.2.1 w.2.2.2.1 w.1 q0 he hc k hk (C.ts hl) (fun _ h => h) hv hdg kk
theorem r_getN (C : CX p m meth c s args y cc nL ret) (w : WD G A ws s H locs) (q0 ci k : Nat) {cn host : String} {T : u_T} {N idx : Nat} {fs : List Value} (v : Value) (he : ws[q0]? = some (a, .inr (ci, fs))) (hc : vwCl[ci]? = some (cn, T, N)) (hin : ∀ w ∈ u_ws cn T N, w ∈ TT) (hk : k < N) (hl : Cond.fieldLinkNest y.cls idx (T k).1 (T k).2.1 (T k).2.2.1 host ∈ NT) (hv : fs[k]? = some v) (hdg : decode cc pc = .ok (.getfield idx, 3))
    (kk : W p l e R s m args below meth c H locs cells slots Q (F0 m (pc + 3) ls (v :: rest))) : W p l e R s m args below meth c H locs cells slots Q (F0 m pc ls (.ref a :: rest)) :=
  va_getN C.1 C.2.1 C.2.2.2.2.2.2.2.1 (fun w h => List.mem_cons_of_mem _ (hin w h)) C.2.2.2.2.1 w.2.2.2.1 w.1 q0 he hc k hk (C.ns hl) (fun _ h => h) hv hdg kk
theorem r_put (C : CX p m meth c s args y cc nL ret) (w : WD G A ws s H locs) (q0 ci k : Nat) {cn : String} {T : u_T} {N idx : Nat} {fs : List Value} {v : Value} (ws' : va_W) {ty0 : Nat → FieldType} (hty : ∀ k, k < N → parseFieldDescriptor (T k).2.2.1 = some (ty0 k)) (hnm : ∀ a, a < N → ∀ b, b < N → a ≠ b → (T a).2.1 ≠ (T b).2.1) (he : ws[q0]? = some (a, .inr (ci, fs))) (hc : vwCl[ci]? = some (cn, T, N)) (hin : ∀ w ∈ u_ws cn T N, w ∈ TT) (hk : k < N) (hl : Cond.fieldLink y.cls idx (T k).1 (T k).2.1 (T k).2.2.1 ∈ TT) (hfin : (T k).2.2.2 = false) (hn : narrow (ty0 k) v = v) (hfit : fits (ty0 k) v = true) (hlen : k < fs.length) (hws : ws.set q0 (a, .inr (ci, fs.set k v)) = ws') (hdg : decode cc pc = .ok (.putfield idx, 3))
    (kk : ∀ (H1 : Heap) (locs1 : List Loc), WD G A ws' s H1 locs1 → W p l e R s m args below meth c H1 locs1 cells slots Q (F0 m (pc + 3) ls rest)) : W p l e R s m args below meth c H locs cells slots Q (F0 m pc ls (v :: .ref a :: rest)) :=
  va_put C.1 C.2.1 C.2.2.2.2.2.2.2.1 (fun w h => List.mem_cons_of_mem _ (hin w h)) ty0 hty hnm C.2.2.2.2.1 w.2.2.2.1 w.1 w.2.1 w.2.2.1 q0 he hc k hk (C.ts hl) (fun _ h => h) hfin (hty k hk) hn hfit hlen hdg (fun H1 locs1 h1 h2 h3 => kk H1 locs1 ⟨hws ▸ h1, hws ▸ h2, h3, w.2.2.2⟩)
theorem r_putN (C : CX p m meth c s args y cc nL ret) (w : WD G A ws s H locs) (q0 ci k : Nat) {cn host : String} {T : u_T} {N idx : Nat} {fs : List Value} {v : Value} (ws' : va_W) {ty0 : Nat → FieldType} (hty : ∀ k, k < N → parseFieldDescriptor (T k).2.2.1 = some (ty0 k)) (hnm : ∀ a, a < N → ∀ b, b < N → a ≠ b → (T a).2.1 ≠ (T b).2.1) (he : ws[q0]? = some (a, .inr (ci, fs))) (hc : vwCl[ci]? = some (cn, T, N)) (hin : ∀ w ∈ u_ws cn T N, w ∈ TT) (hk : k < N) (hl : Cond.fieldLinkNest y.cls idx (T k).1 (T k).2.1 (T k).2.2.1 host ∈ NT) (hfin : (T k).2.2.2 = false) (hn : narrow (ty0 k) v = v) (hfit : fits (ty0 k) v = true) (hlen : k < fs.length) (hws : ws.set q0 (a, .inr (ci, fs.set k v)) = ws') (hdg : decode cc pc = .ok (.putfield idx, 3))
    (kk : ∀ (H1 : Heap) (locs1 : List Loc), WD G A ws' s H1 locs1 → W p l e R s m args below meth c H1 locs1 cells slots Q (F0 m (pc + 3) ls rest)) : W p l e R s m args below meth c H locs cells slots Q (F0 m pc ls (v :: .ref a :: rest)) :=
  va_putN C.1 C.2.1 C.2.2.2.2.2.2.2.1 (fun w h => List.mem_cons_of_mem _ (hin w h)) ty0 hty hnm C.2.2.2.2.1 w.2.2.2.1 w.1 w.2.1 w.2.2.1 q0 he hc k hk (C.ns hl) (fun _ h => h) hfin (hty k hk) hn hfit hlen hdg (fun H1 locs1 h1 h2 h3 => kk H1 locs1 ⟨hws ▸ h1, hws ▸ h2, h3, w.2.2.2⟩)
theorem r_iald (C : CX p m meth c s args y cc nL ret) (w : WD G A ws s H locs) (q0 : Nat) {n : Nat} {f : Nat → Int32} {i : Int32} (v : Int32) (ha : ws[q0]? = some (a, .inl (G.2 0, n, .inl f))) (hv : f i.toNatClampNeg = v) (hin : vp_in i n) (hdg : decode cc pc = .ok (.iaload, 1))
    (kk : W p l e R s m args below meth c H locs cells slots Q (F0 m (pc + 1) ls (.int v :: rest))) : W p l e R s m args below meth c H locs cells slots Q (F0 m pc ls (.int i :: .ref a :: rest)) := by
  subst hv; exact va_iald C.1 C.2.1 w.2.2.2.1 w.1 q0 0 ha rfl hin hdg kk
theorem r_zald (C : CX p m meth c s args y cc nL ret) (w : WD G A ws s H locs) (q0 : Nat) {n : Nat} {f : Nat → Int32} {i : Int32} (v : Int32) (ha : ws[q0]? = some (a, .inl (G.2 2, n, .inl f))) (hv : f i.toNatClampNeg = v) (hin : vp_in i n) (hdg : decode cc pc = .ok (.baload, 1))
    (kk : W p l e R s m args below meth c H locs cells slots Q (F0 m (pc + 1) ls (.int v :: rest))) : W p l e R s m args below meth c H locs cells slots Q (F0 m pc ls (.int i :: .ref a :: rest)) := by
  subst hv; exact va_zald C.1 C.2.1 w.2.2.2.1 w.1 q0 2 ha rfl hin hdg kk
theorem r_lald (C : CX p m meth c s args y cc nL ret) (w : WD G A ws s H locs) (q0 : Nat) {n : Nat} {f : Nat → Int64} {i : Int32} (v : Int64) (ha : ws[q0]? = some (a, .inl (G.2 1, n, .inr (.inl f)))) (hv : f i.toNatClampNeg = v) (hin : vp_in i n) (hdg : decode cc pc = .ok (.laload, 1))
    (kk : W p l e R s m args below meth c H locs cells slots Q (F0 m (pc + 1) ls (.long v :: rest))) : W p l e R s m args below meth c H locs cells slots Q (F0 m pc ls (.int i :: .ref a :: rest)) := by
  subst hv; exact va_lald C.1 C.2.1 w.2.2.2.1 w.1 q0 1 ha rfl hin hdg kk
theorem r_iast (C : CX p m meth c s args y cc nL ret) (w : WD G A ws s H locs) (q0 : Nat) {n : Nat} {f : Nat → Int32} {i x : Int32} (ws' : va_W) (ha : ws[q0]? = some (a, .inl (G.2 0, n, .inl f))) (hin : vp_in i n) (hws : ws.set q0 (a, .inl (G.2 0, n, .inl (upd f i.toNatClampNeg x))) = ws') (hdg : decode cc pc = .ok (.iastore, 1))
    (kk : ∀ (H1 : Heap) (locs1 : List Loc), WD G A ws' s H1 locs1 → W p l e R s m args below meth c H1 locs1 cells slots Q (F0 m (pc + 1) ls rest)) : W p l e R s m args below meth c H locs cells slots Q (F0 m pc ls (.int x :: .int i :: .ref a :: rest)) :=
  va_iast C.1 C.2.1 w.2.2.2.1 w.1 w.2.1 w.2.2.1 q0 0 ha rfl hin hdg (fun H1 locs1 h1 h2 h3 => kk H1 locs1 ⟨hws ▸ h1, hws ▸ h2, h3, w.2.2.2⟩)
theorem r_zast (C : CX p m meth c s args y cc nL ret) (w : WD G A ws s H locs) (q0 : Nat) {n : Nat} {f : Nat → Int32} {i x : Int32} (ws' : va_W) (ha : ws[q0]? = some (a, .inl (G.2 2, n, .inl f))) (hx : vp_nar .boolean x = x) (hin : vp_in i n) (hws : ws.set q0 (a, .inl (G.2 2, n, .inl (upd f i.toNatClampNeg x))) = ws') (hdg : decode cc pc = .ok (.bastore, 1))
    (kk : ∀ (H1 : Heap) (locs1 : List Loc), WD G A ws' s H1 locs1 → W p l e R s m args below meth c H1 locs1 cells slots Q (F0 m (pc + 1) ls rest)) : W p l e R s m args below meth c H locs cells slots Q (F0 m pc ls (.int x :: .int i :: .ref a :: rest)) :=
  va_zast C.1 C.2.1 w.2.2.2.1 w.1 w.2.1 w.2.2.1 q0 2 ha rfl hin hdg (fun H1 locs1 h1 h2 h3 => by rw [hx] at h1 h2; exact kk H1 locs1 ⟨hws ▸ h1, hws ▸ h2, h3, w.2.2.2⟩)
theorem r_last (C : CX p m meth c s args y cc nL ret) (w : WD G A ws s H locs) (q0 : Nat) {n : Nat} {f : Nat → Int64} {i : Int32} {x : Int64} (ws' : va_W) (ha : ws[q0]? = some (a, .inl (G.2 1, n, .inr (.inl f)))) (hin : vp_in i n) (hws : ws.set q0 (a, .inl (G.2 1, n, .inr (.inl (vp_updL f i.toNatClampNeg x)))) = ws') (hdg : decode cc pc = .ok (.lastore, 1))
    (kk : ∀ (H1 : Heap) (locs1 : List Loc), WD G A ws' s H1 locs1 → W p l e R s m args below meth c H1 locs1 cells slots Q (F0 m (pc + 1) ls rest)) : W p l e R s m args below meth c H locs cells slots Q (F0 m pc ls (.long x :: .int i :: .ref a :: rest)) :=
  va_last C.1 C.2.1 w.2.2.2.1 w.1 w.2.1 w.2.2.1 q0 1 ha rfl hin hdg (fun H1 locs1 h1 h2 h3 => kk H1 locs1 ⟨hws ▸ h1, hws ▸ h2, h3, w.2.2.2⟩)
/-- returns -/
theorem ret_I (C : CX p m meth c s args y cc nL (some .int)) (w : WD G A ws s H locs) {v r : Int32} {ws' : va_W} (hv : v = r) (hws : ws = ws') (hdg : decode cc pc = .ok (.ireturn, 1)) : W p l e R s m args below meth c H locs 0 0 (EnI below G A args s ws' r) (F0 m pc ls [.int v]) := by
  subst hv; subst hws
  have hlk := C.2.2.2.2.2.1
  exact W.iret (free := A) C.1 C.2.1 C.2.2.1 (fun t ht hW => ⟨⟨v, (), rfl, rfl, by rw [ht]; exact w.1, va_K.moved hW.alike w.2.2.2.1, w.2.1⟩, w.2.2.1.F ht⟩) w.2.2.1.2.2 hdg
theorem ret_Z (C : CX p m meth c s args y cc nL (some .boolean)) (w : WD G A ws s H locs) {v r : Int32} {ws' : va_W} (hb : v = 0 ∨ v = 1) (hv : v = r) (hws : ws = ws') (hdg : decode cc pc = .ok (.ireturn, 1)) : W p l e R s m args below meth c H locs 0 0 (EnI below G A args s ws' r) (F0 m pc ls [.int v]) := by
  subst hv; subst hws
  have hlk := C.2.2.2.2.2.1
  exact W.zret (free := A) (ty := .boolean) C.1 C.2.1 C.2.2.1 (by rcases hb with rfl | rfl <;> rfl) (fun t ht hW => ⟨⟨v, (), rfl, rfl, by rw [ht]; exact w.1, va_K.moved hW.alike w.2.2.2.1, w.2.1⟩, w.2.2.1.F ht⟩) w.2.2.1.2.2 hdg
theorem ret_L (C : CX p m meth c s args y cc nL (some .long)) (w : WD G A ws s H locs) {v r : Int64} {ws' : va_W} (hv : v = r) (hws : ws = ws') (hdg : decode cc pc = .ok (.lreturn, 1)) : W p l e R s m args below meth c H locs 0 0 (EnL below G A args s ws' r) (F0 m pc ls [.long v]) := by
  subst hv; subst hws
  have hlk := C.2.2.2.2.2.1
  exact W.lret (free := A) C.1 C.2.1 C.2.2.1 (fun t ht hW => ⟨⟨v, (), rfl, rfl, by rw [ht]; exact w.1, va_K.moved hW.alike w.2.2.2.1, w.2.1⟩, w.2.2.1.F ht⟩) w.2.2.1.2.2 hdg
theorem ret_V (C : CX p m meth c s args y cc nL none) (w : WD G A ws s H locs) {ws' : va_W} (hws : ws = ws') (hdg : decode cc pc = .ok (.return_, 1)) : W p l e R s m args below meth c H locs 0 0 (EnV below G A args s ws') (F0 m pc ls []) := by
  subst hws
  have hlk := C.2.2.2.2.2.1
  exact W.vret (free := A) C.1 C.2.1 C.2.2.1 (fun t ht hW => ⟨⟨(), rfl, trivial, by rw [ht]; exact w.1, va_K.moved hW.alike w.2.2.2.1, w.2.1⟩, w.2.2.1.F ht⟩) w.2.2.1.2.2 hdg
/-- calls -/
theorem WD.pb {pre wc post : va_W} (hnw : NWs s) (w : WD G A (pre ++ (wc ++ post)) s H locs) : ∀ U : State, U.heap = H → s.WarmedH U.vm → PB G wc H.size U := by
  intro U hU hW
  have hF := seg_A w.2.1 w.2.2.1 w.2.2.2.2.1
  refine ⟨by rw [hU], by rw [hU]; exact seg_P w.1, va_K.moved hW.alike w.2.2.2.1, seg_D w.2.1 (fun _ _ => trivial), hnw.warm hW, ?_⟩
  rw [hU]
  exact (ZT.moved hW.alike (w.2.2.2.2.2.kept w.2.2.1.2.1)).narrow hF
theorem WD.seg {pre wc wc' post : va_W} {t : State} {H1 : Heap} {locs1 : List Loc} (w : WD G A (pre ++ (wc ++ post)) s H locs) (ht : t.heap = H1) (hB : QB G wc' (va_A wc H.size) t) (hk : ∀ q : Nat, q < H.size → ¬ va_A wc H.size q → H1[q]? = H[q]?) (hS : va_S A s.heap H1 locs1) : WD G A (pre ++ (wc' ++ post)) s H1 locs1 := by
  obtain ⟨hP1, hK1, hD1⟩ := hB
  rw [ht] at hP1
  obtain ⟨h1, h2⟩ := seg_join w.1 w.2.1 hk (seg_A w.2.1 w.2.2.1 w.2.2.2.2.1) hP1 hD1
  exact ⟨h1, h2, hS, w.2.2.2⟩
theorem cl_i {pre wc wc' post : va_W} {r : Int32} {st0 : List Value} {av : Array Value} (w : WD G A (pre ++ (wc ++ post)) s H locs) (hr : va_Run p l e R s m args below meth c H locs cells slots 0 0 (F0 m pc ls st0) rest (va_Qi (fun x (_ : Unit) => x = r) (fun _ t => QB G wc' (va_A wc H.size) t) (va_A wc H.size) av) (va_A wc H.size))
    (kk : ∀ (H1 : Heap) (locs1 : List Loc), WD G A (pre ++ (wc' ++ post)) s H1 locs1 → W p l e R s m args below meth c H1 locs1 cells slots Q (F0 m (pc + 3) ls (.int r :: rest))) : W p l e R s m args below meth c H locs cells slots Q (F0 m pc ls st0) := by
  have hF := seg_A w.2.1 w.2.2.1 w.2.2.2.2.1
  refine va_calli hr w.2.2.1 (fun q _ h => hF q h) hF (fun x u t H1 locs1 ht hvm hx hB hz hk hS => ?_)
  subst hx
  exact kk H1 locs1 (w.seg ht hB hk hS)
theorem cl_l {pre wc wc' post : va_W} {r : Int64} {st0 : List Value} {av : Array Value} (w : WD G A (pre ++ (wc ++ post)) s H locs) (hr : va_Run p l e R s m args below meth c H locs cells slots 0 0 (F0 m pc ls st0) rest (va_Ql (fun x (_ : Unit) => x = r) (fun _ t => QB G wc' (va_A wc H.size) t) (va_A wc H.size) av) (va_A wc H.size))
    (kk : ∀ (H1 : Heap) (locs1 : List Loc), WD G A (pre ++ (wc' ++ post)) s H1 locs1 → W p l e R s m args below meth c H1 locs1 cells slots Q (F0 m (pc + 3) ls (.long r :: rest))) : W p l e R s m args below meth c H locs cells slots Q (F0 m pc ls st0) := by
  have hF := seg_A w.2.1 w.2.2.1 w.2.2.2.2.1
  refine va_calll hr w.2.2.1 (fun q _ h => hF q h) hF (fun x u t H1 locs1 ht hvm hx hB hz hk hS => ?_)
  subst hx
  exact kk H1 locs1 (w.seg ht hB hk hS)
theorem cl_v {pre wc wc' post : va_W} {st0 : List Value} {av : Array Value} (w : WD G A (pre ++ (wc ++ post)) s H locs) (hr : va_Run p l e R s m args below meth c H locs cells slots 0 0 (F0 m pc ls st0) rest (va_Qv (fun (_ : Unit) => True) (fun _ t => QB G wc' (va_A wc H.size) t) (va_A wc H.size) av) (va_A wc H.size))
    (kk : ∀ (H1 : Heap) (locs1 : List Loc), WD G A (pre ++ (wc' ++ post)) s H1 locs1 → W p l e R s m args below meth c H1 locs1 cells slots Q (F0 m (pc + 3) ls rest)) : W p l e R s m args below meth c H locs cells slots Q (F0 m pc ls st0) := by
  have hF := seg_A w.2.1 w.2.2.1 w.2.2.2.2.1
  refine va_callv hr w.2.2.1 (fun q _ h => hF q h) hF (fun u t H1 locs1 ht hvm hx hB hz hk hS => ?_)
  exact kk H1 locs1 (w.seg ht hB hk hS)
variable {y' : MethodName} {cc' : ByteArray} {nL' na idx mc ms : Nat} {ret' : Option FieldType} {rm' : Room} {Qc : Array Value → State → Outcome → State → Prop} {free : Addr → Prop} {As st : List Value} {b : Nat} {host : String}
theorem cb_of (C : CX p m meth c s args y cc nL ret) (mt : MTd y' cc' nL' ret' na) (hl : Cond.methodLink y.cls idx y' ∈ TT) (hR : rm'.frames + 1 ≤ R.frames ∧ 8 + (nL' + 11) + rm'.locals ≤ R.locals) : CallB R s args y.cls idx y' cc' nL' ret' (WS y' cc' nL' ret') rm' rm'.cells rm'.slots na :=
  callB_of (Ts := WS y cc nL ret) na C.2.2.2.2.2.2.2.1 (gd_ws mt.1) rfl rfl rfl (C.ts mt.2.1) (C.ts hl) ⟨mt.2.2.1.1, mt.2.2.1.2, mt.2.2.2⟩ hR
theorem cn_of (C : CX p m meth c s args y cc nL ret) (mt : MTd y' cc' nL' ret' na) (hl : Cond.methodLinkNest y.cls idx y' host ∈ NT) (hR : rm'.frames + 1 ≤ R.frames ∧ 8 + (nL' + 11) + rm'.locals ≤ R.locals) : va_CN R s args y.cls idx y' host cc' nL' ret' (WS y' cc' nL' ret') rm' rm'.cells rm'.slots na :=
  va_cnB (Ts := WS y cc nL ret) na C.2.2.2.2.2.2.2.1 (gd_ws mt.1) rfl rfl rfl (C.2.2.2.2.2.2.2.2 _ hl) (C.ts mt.2.1) ⟨mt.2.2.1.1, mt.2.2.1.2, mt.2.2.2⟩ hR
theorem run_V {pre wc post : va_W} {fs : List Value} (C : CX p m meth c s args y cc nL ret) (w : WD G A (pre ++ (wc ++ post)) s H locs) (hM : Met l y' (WS y' cc' nL' ret') rm' (va_Pc (.ref b :: As) (PB G wc H.size)) Qc rm'.cells rm'.slots free) (mt : MTv y' cc' nL' ret' na) (hl : Cond.methodLink y.cls idx y' ∈ TT) (ci : Nat) {T : u_T} {N : Nat} (hc : vwCl[ci]? = some (y'.cls, T, N)) (he : wc[0]? = some (b, .inr (ci, fs))) (hna : As.length = na) (hstk : st = As.reverse ++ .ref b :: rest) (hR : rm'.frames + 1 ≤ R.frames ∧ 8 + (nL' + 11) + rm'.locals ≤ R.locals) (hsz : ls.size = nL) (hst : (rest.map fun v => v.category).sum ≤ 8) (hdg : decode cc pc = .ok (.invokevirtual idx, 3)) (hf : cells + rm'.cells ≤ R.cells ∧ slots + rm'.slots ≤ R.slots) :
    va_Run p l e R s m args below meth c H locs cells slots rm'.cells rm'.slots (F0 m pc ls st) rest (Qc (Value.ref b :: As).toArray) free :=
  va_runV (As := As) (rest := rest) (Ts := WS y cc nL ret) (own := y.cls) (C := y'.cls) (n := na) ⟨C.1, C.2.1, C.2.2.2.1, C.2.2.2.2.1, C.2.2.2.2.2.2.2.1⟩ hM ⟨cb_of C mt.1 hl hR, C.ts mt.2.1, C.ts mt.2.2⟩ ⟨pb_blind, va_recv w.2.2.2.1 (seg_P w.1) hc he, fun U hU hW => ⟨rfl, w.pb C.2.2.2.2.2.2.2.2 U hU hW⟩⟩ rfl hna hsz hstk (lv_room hst) hdg hf
theorem run_VN {pre wc post : va_W} {fs : List Value} (C : CX p m meth c s args y cc nL ret) (w : WD G A (pre ++ (wc ++ post)) s H locs) (hM : Met l y' (WS y' cc' nL' ret') rm' (va_Pc (.ref b :: As) (PB G wc H.size)) Qc rm'.cells rm'.slots free) (mt : MTv y' cc' nL' ret' na) (hl : Cond.methodLinkNest y.cls idx y' host ∈ NT) (ci : Nat) {T : u_T} {N : Nat} (hc : vwCl[ci]? = some (y'.cls, T, N)) (he : wc[0]? = some (b, .inr (ci, fs))) (hna : As.length = na) (hstk : st = As.reverse ++ .ref b :: rest) (hR : rm'.frames + 1 ≤ R.frames ∧ 8 + (nL' + 11) + rm'.locals ≤ R.locals) (hsz : ls.size = nL) (hst : (rest.map fun v => v.category).sum ≤ 8) (hdg : decode cc pc = .ok (.invokevirtual idx, 3)) (hf : cells + rm'.cells ≤ R.cells ∧ slots + rm'.slots ≤ R.slots) :
    va_Run p l e R s m args below meth c H locs cells slots rm'.cells rm'.slots (F0 m pc ls st) rest (Qc (Value.ref b :: As).toArray) free :=
  va_runVN (As := As) (rest := rest) (Ts := WS y cc nL ret) (own := y.cls) (C := y'.cls) (n := na) ⟨C.1, C.2.1, C.2.2.2.1, C.2.2.2.2.1, C.2.2.2.2.2.2.2.1⟩ hM ⟨cn_of C mt.1 hl hR, C.ts mt.2.1, C.ts mt.2.2⟩ ⟨pb_blind, va_recv w.2.2.2.1 (seg_P w.1) hc he, fun U hU hW => ⟨rfl, w.pb C.2.2.2.2.2.2.2.2 U hU hW⟩⟩ rfl hna hsz hstk (lv_room hst) hdg hf
theorem run_S {pre wc post : va_W} (C : CX p m meth c s args y cc nL ret) (w : WD G A (pre ++ (wc ++ post)) s H locs) (hM : Met l y' (WS y' cc' nL' ret') rm' (va_Pc As (PB G wc H.size)) Qc rm'.cells rm'.slots free) (mt : MTs y' cc' nL' ret' na) (hl : Cond.methodLink y.cls idx y' ∈ TT) (hna : As.length = na) (hstk : st = As.reverse ++ rest) (hR : rm'.frames + 1 ≤ R.frames ∧ 8 + (nL' + 11) + rm'.locals ≤ R.locals) (hsz : ls.size = nL) (hst : (rest.map fun v => v.category).sum ≤ 8) (hdg : decode cc pc = .ok (.invokestatic idx, 3)) (hf : cells + rm'.cells ≤ R.cells ∧ slots + rm'.slots ≤ R.slots) :
    va_Run p l e R s m args below meth c H locs cells slots rm'.cells rm'.slots (F0 m pc ls st) rest (Qc As.toArray) free :=
  va_runS (As := As) (rest := rest) (Ts := WS y cc nL ret) (own := y.cls) (n := na) ⟨C.1, C.2.1, C.2.2.2.1, C.2.2.2.2.1, C.2.2.2.2.2.2.2.1⟩ hM ⟨cb_of C mt.1 hl hR, C.ts mt.2⟩ ⟨pb_blind, fun U hU hW => ⟨rfl, w.pb C.2.2.2.2.2.2.2.2 U hU hW⟩⟩ rfl hna hsz hstk (lv_room hst) hdg hf
theorem run_SN {pre wc post : va_W} (C : CX p m meth c s args y cc nL ret) (w : WD G A (pre ++ (wc ++ post)) s H locs) (hM : Met l y' (WS y' cc' nL' ret') rm' (va_Pc As (PB G wc H.size)) Qc rm'.cells rm'.slots free) (mt : MTs y' cc' nL' ret' na) (hl : Cond.methodLinkNest y.cls idx y' host ∈ NT) (hna : As.length = na) (hstk : st = As.reverse ++ rest) (hR : rm'.frames + 1 ≤ R.frames ∧ 8 + (nL' + 11) + rm'.locals ≤ R.locals) (hsz : ls.size = nL) (hst : (rest.map fun v => v.category).sum ≤ 8) (hdg : decode cc pc = .ok (.invokestatic idx, 3)) (hf : cells + rm'.cells ≤ R.cells ∧ slots + rm'.slots ≤ R.slots) :
    va_Run p l e R s m args below meth c H locs cells slots rm'.cells rm'.slots (F0 m pc ls st) rest (Qc As.toArray) free :=
  va_runSN (As := As) (rest := rest) (Ts := WS y cc nL ret) (own := y.cls) (n := na) ⟨C.1, C.2.1, C.2.2.2.1, C.2.2.2.2.1, C.2.2.2.2.2.2.2.1⟩ hM ⟨cn_of C mt.1 hl hR, C.ts mt.2, trivial⟩ ⟨pb_blind, fun U hU hW => ⟨rfl, w.pb C.2.2.2.2.2.2.2.2 U hU hW⟩⟩ rfl hna hsz hstk (lv_room hst) hdg hf
theorem run_I {pre wc post : va_W} (C : CX p m meth c s args y cc nL ret) (w : WD G A (pre ++ (wc ++ post)) s H locs) (hM : Met l y' (WS y' cc' nL' none) rm' (va_Pc (.ref b :: As) (PB G wc H.size)) Qc rm'.cells rm'.slots free) (mt : MTi y' cc' nL' none na) (hl : Cond.methodLink y.cls idx y' ∈ TT) (hna : As.length = na) (hstk : st = As.reverse ++ .ref b :: rest) (hR : rm'.frames + 1 ≤ R.frames ∧ 8 + (nL' + 11) + rm'.locals ≤ R.locals) (hsz : ls.size = nL) (hst : (rest.map fun v => v.category).sum ≤ 8) (hdg : decode cc pc = .ok (.invokespecial idx, 3)) (hf : cells + rm'.cells ≤ R.cells ∧ slots + rm'.slots ≤ R.slots) :
    va_Run p l e R s m args below meth c H locs cells slots rm'.cells rm'.slots (F0 m pc ls st) rest (Qc (Value.ref b :: As).toArray) free :=
  va_runI (As := As) (rest := rest) (Ts := WS y cc nL ret) (own := y.cls) (n := na) ⟨C.1, C.2.1, C.2.2.2.1, C.2.2.2.2.1, C.2.2.2.2.2.2.2.1⟩ hM ⟨cb_of C mt.1 hl hR, mt.2.1, C.ts mt.2.2⟩ ⟨pb_blind, fun U hU hW => ⟨rfl, w.pb C.2.2.2.2.2.2.2.2 U hU hW⟩⟩ rfl hna hsz hstk (lv_room hst) hdg hf
theorem run_IN {pre wc post : va_W} (C : CX p m meth c s args y cc nL ret) (w : WD G A (pre ++ (wc ++ post)) s H locs) (hM : Met l y' (WS y' cc' nL' none) rm' (va_Pc (.ref b :: As) (PB G wc H.size)) Qc rm'.cells rm'.slots free) (mt : MTi y' cc' nL' none na) (hl : Cond.methodLinkNest y.cls idx y' host ∈ NT) (hna : As.length = na) (hstk : st = As.reverse ++ .ref b :: rest) (hR : rm'.frames + 1 ≤ R.frames ∧ 8 + (nL' + 11) + rm'.locals ≤ R.locals) (hsz : ls.size = nL) (hst : (rest.map fun v => v.category).sum ≤ 8) (hdg : decode cc pc = .ok (.invokespecial idx, 3)) (hf : cells + rm'.cells ≤ R.cells ∧ slots + rm'.slots ≤ R.slots) :
    va_Run p l e R s m args below meth c H locs cells slots rm'.cells rm'.slots (F0 m pc ls st) rest (Qc (Value.ref b :: As).toArray) free :=
  va_runIN (As := As) (rest := rest) (Ts := WS y cc nL ret) (own := y.cls) (n := na) ⟨C.1, C.2.1, C.2.2.2.1, C.2.2.2.2.1, C.2.2.2.2.2.2.2.1⟩ hM ⟨cn_of C mt.1 hl hR, mt.2.1, C.ts mt.2.2⟩ ⟨pb_blind, fun U hU hW => ⟨rfl, w.pb C.2.2.2.2.2.2.2.2 U hU hW⟩⟩ rfl hna hsz hstk (lv_room hst) hdg hf
end CORE
end
