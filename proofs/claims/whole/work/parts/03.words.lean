/-! the words of the tables that every method may use (the good ones), and the nest words -/
def TT : List Cond := lw_tbl.filter goodWord
theorem tt_in {w : Cond} {i : Nat} (h : lw_tbl[i]? = some w) (g : goodWord w = true) : w ∈ TT := List.mem_filter.mpr ⟨List.mem_of_getElem? h, g⟩
theorem tt_all {ws : List Cond} (h : ∀ w ∈ ws, w ∈ lw_tbl) (g : ws.all goodWord = true) : ∀ w ∈ ws, w ∈ TT := fun w hw => List.mem_filter.mpr ⟨h w hw, List.all_eq_true.mp g w hw⟩
def isNest : Cond → Bool
  | .fieldLinkNest .. => true
  | .methodLinkNest .. => true
  | _ => false
def NT : List Cond := lw_tbl.filter isNest
theorem nt_in {w : Cond} {i : Nat} (h : lw_tbl[i]? = some w) (g : isNest w = true) : w ∈ NT := List.mem_filter.mpr ⟨List.mem_of_getElem? h, g⟩
theorem tt_0 : Cond.selects RX4 yX4_addFirm yX4_addFirm ∈ TT := tt_in (i := 0) (by decide +kernel) rfl
theorem tt_1 : Cond.selects RX4 yX4_hasFirm yX4_hasFirm ∈ TT := tt_in (i := 1) (by decide +kernel) rfl
theorem tt_2 : Cond.selects RX4 yX4_addObject yX4_addObject ∈ TT := tt_in (i := 2) (by decide +kernel) rfl
theorem tt_3 : Cond.selects RX5 yX5_reach yX5_reach ∈ TT := tt_in (i := 3) (by decide +kernel) rfl
theorem tt_4 : Cond.selects RX4 yX4_hasObject yX4_hasObject ∈ TT := tt_in (i := 4) (by decide +kernel) rfl
theorem tt_5 : Cond.selects RX4 yX4_onWriting yX4_onWriting ∈ TT := tt_in (i := 5) (by decide +kernel) rfl
theorem tt_6 : Cond.selects RX4 yX4_letRead yX4_letRead ∈ TT := tt_in (i := 6) (by decide +kernel) rfl
theorem tt_7 : Cond.selects RX4 yX4_onReading yX4_onReading ∈ TT := tt_in (i := 7) (by decide +kernel) rfl
theorem tt_8 : Cond.selects RX1 yX1_anyRuns yX1_anyRuns ∈ TT := tt_in (i := 8) (by decide +kernel) rfl
theorem tt_9 : Cond.selects RX1 yX1_runs yX1_runs ∈ TT := tt_in (i := 9) (by decide +kernel) rfl
theorem tt_10 : Cond.selects RX3 yX3_isFull yX3_isFull ∈ TT := tt_in (i := 10) (by decide +kernel) rfl
theorem tt_11 : Cond.selects RX4 yX4_showFirm yX4_showFirm ∈ TT := tt_in (i := 11) (by decide +kernel) rfl
theorem tt_12 : Cond.selects RX4 yX4_teachFirm yX4_teachFirm ∈ TT := tt_in (i := 12) (by decide +kernel) rfl
theorem tt_13 : Cond.selects RX3 yX3_add yX3_add ∈ TT := tt_in (i := 13) (by decide +kernel) rfl
theorem tt_14 : Cond.selects RX3 yX3_linkDue yX3_linkDue ∈ TT := tt_in (i := 14) (by decide +kernel) rfl
theorem tt_15 : Cond.selects RX1 yX1_openDuties yX1_openDuties ∈ TT := tt_in (i := 15) (by decide +kernel) rfl
theorem tt_16 : Cond.selects RX1 yX1_anyDue yX1_anyDue ∈ TT := tt_in (i := 16) (by decide +kernel) rfl
theorem tt_17 : Cond.selects RX1 yX1_due yX1_due ∈ TT := tt_in (i := 17) (by decide +kernel) rfl
theorem tt_18 : Cond.selects RX1 yX1_isFull yX1_isFull ∈ TT := tt_in (i := 18) (by decide +kernel) rfl
theorem tt_19 : Cond.selects RX1 yX1_addGlass yX1_addGlass ∈ TT := tt_in (i := 19) (by decide +kernel) rfl
theorem tt_20 : Cond.selects RX1 yX1_has yX1_has ∈ TT := tt_in (i := 20) (by decide +kernel) rfl
theorem tt_21 : Cond.selects RX5 yX5_alterableKind yX5_alterableKind ∈ TT := tt_in (i := 21) (by decide +kernel) rfl
theorem tt_22 : Cond.selects RX5 yX5_kindAt yX5_kindAt ∈ TT := tt_in (i := 22) (by decide +kernel) rfl
theorem tt_23 : Cond.selects RX2 yX2_taskBits yX2_taskBits ∈ TT := tt_in (i := 23) (by decide +kernel) rfl
theorem tt_24 : Cond.selects RX2 yX2_addTask yX2_addTask ∈ TT := tt_in (i := 24) (by decide +kernel) rfl
theorem tt_25 : Cond.selects RX2 yX2_arePair yX2_arePair ∈ TT := tt_in (i := 25) (by decide +kernel) rfl
theorem tt_26 : Cond.selects RX2 yX2_hasTask yX2_hasTask ∈ TT := tt_in (i := 26) (by decide +kernel) rfl
theorem tt_27 : Cond.selects RX5 yX5_caseAt yX5_caseAt ∈ TT := tt_in (i := 27) (by decide +kernel) rfl
theorem tt_28 : Cond.selects RX0 yX0_verdict yX0_verdict ∈ TT := tt_in (i := 28) (by decide +kernel) rfl
theorem tt_29 : Cond.selects RX0 yX0_leftBits yX0_leftBits ∈ TT := tt_in (i := 29) (by decide +kernel) rfl
theorem tt_30 : Cond.selects RX0 yX0_bitsDoneBy yX0_bitsDoneBy ∈ TT := tt_in (i := 30) (by decide +kernel) rfl
theorem tt_31 : Cond.selects RX0 yX0_wouldStick yX0_wouldStick ∈ TT := tt_in (i := 31) (by decide +kernel) rfl
theorem tt_32 : Cond.selects RX0 yX0_couldEnd yX0_couldEnd ∈ TT := tt_in (i := 32) (by decide +kernel) rfl
theorem tt_33 : Cond.selects RX2 yX2_tasksWithin yX2_tasksWithin ∈ TT := tt_in (i := 33) (by decide +kernel) rfl
theorem tt_34 : Cond.selects RX0 yX0_sharedWith yX0_sharedWith ∈ TT := tt_in (i := 34) (by decide +kernel) rfl
theorem tt_35 : Cond.selects RX2 yX2_allows yX2_allows ∈ TT := tt_in (i := 35) (by decide +kernel) rfl
theorem tt_36 : Cond.selects RX3 yX3_hasCell yX3_hasCell ∈ TT := tt_in (i := 36) (by decide +kernel) rfl
theorem tt_37 : Cond.selects RX3 yX3_hasEntry yX3_hasEntry ∈ TT := tt_in (i := 37) (by decide +kernel) rfl
theorem tt_38 : Cond.selects RX3 yX3_firstWrong yX3_firstWrong ∈ TT := tt_in (i := 38) (by decide +kernel) rfl
theorem tt_39 : Cond.selects RX6 yX6_access yX6_access ∈ TT := tt_in (i := 39) (by decide +kernel) rfl
theorem tt_40 : Cond.selects RX6 yX6_isWalled yX6_isWalled ∈ TT := tt_in (i := 40) (by decide +kernel) rfl
theorem tt_41 : Cond.selects RX6 yX6_isOpen yX6_isOpen ∈ TT := tt_in (i := 41) (by decide +kernel) rfl
theorem tt_42 : Cond.selects RX6 yX6_hasGlass yX6_hasGlass ∈ TT := tt_in (i := 42) (by decide +kernel) rfl
theorem tt_43 : Cond.selects RX6 yX6_enter yX6_enter ∈ TT := tt_in (i := 43) (by decide +kernel) rfl
theorem tt_44 : Cond.selects RX6 yX6_linkAt yX6_linkAt ∈ TT := tt_in (i := 44) (by decide +kernel) rfl
theorem tt_45 : Cond.selects RX6 yX6_duties yX6_duties ∈ TT := tt_in (i := 45) (by decide +kernel) rfl
theorem tt_46 : Cond.selects RX6 yX6_isLate yX6_isLate ∈ TT := tt_in (i := 46) (by decide +kernel) rfl
theorem tt_47 : Cond.selects RX6 yX6_isFree yX6_isFree ∈ TT := tt_in (i := 47) (by decide +kernel) rfl
theorem tt_48 : Cond.selects RX6 yX6_arePair yX6_arePair ∈ TT := tt_in (i := 48) (by decide +kernel) rfl
theorem tt_49 : Cond.selects RX6 yX6_canBe yX6_canBe ∈ TT := tt_in (i := 49) (by decide +kernel) rfl
theorem tt_50 : Cond.selects RX6 yX6_isFit yX6_isFit ∈ TT := tt_in (i := 50) (by decide +kernel) rfl
theorem tt_51 : Cond.selects RX6 yX6_isTask yX6_isTask ∈ TT := tt_in (i := 51) (by decide +kernel) rfl
theorem tt_52 : Cond.initialized RL ∈ TT := tt_in (i := 52) (by decide +kernel) rfl
theorem tt_53 : Cond.initialized RX5 ∈ TT := tt_in (i := 53) (by decide +kernel) rfl
theorem tt_54 : Cond.initialized RX4 ∈ TT := tt_in (i := 54) (by decide +kernel) rfl
theorem tt_55 : Cond.initialized RX1 ∈ TT := tt_in (i := 55) (by decide +kernel) rfl
theorem tt_56 : Cond.initialized RX3 ∈ TT := tt_in (i := 56) (by decide +kernel) rfl
theorem tt_57 : Cond.initialized RX6 ∈ TT := tt_in (i := 57) (by decide +kernel) rfl
theorem tt_58 : Cond.initialized RJ9 ∈ TT := tt_in (i := 58) (by decide +kernel) rfl
theorem tt_59 : Cond.initialized RX2 ∈ TT := tt_in (i := 59) (by decide +kernel) rfl
theorem tt_60 : Cond.initialized RX0 ∈ TT := tt_in (i := 60) (by decide +kernel) rfl
theorem tt_61 : Cond.initialized RJ6 ∈ TT := tt_in (i := 61) (by decide +kernel) rfl
theorem tt_62 : Cond.classLink RL 7 RX5 ∈ TT := tt_in (i := 62) (by decide +kernel) rfl
theorem tt_63 : Cond.instantiable RX5 9 ∈ TT := tt_in (i := 63) (by decide +kernel) rfl
theorem tt_64 : Cond.methodLink RL 9 yX5_init ∈ TT := tt_in (i := 64) (by decide +kernel) rfl
theorem tt_65 : Cond.instanceMethod yX5_init ∈ TT := tt_in (i := 65) (by decide +kernel) rfl
theorem tt_66 : Cond.code yX5_init cX5_init 1 none ∈ TT := tt_in (i := 66) (by decide +kernel) rfl
theorem tt_67 : Cond.methodLink RX5 1 objectInit ∈ TT := tt_in (i := 67) (by decide +kernel) rfl
theorem tt_68 : Cond.instanceMethod objectInit ∈ TT := tt_in (i := 68) (by decide +kernel) rfl
theorem tt_69 : Cond.code objectInit ⟨#[0xb1]⟩ 1 none ∈ TT := tt_in (i := 69) (by decide +kernel) rfl
theorem tt_70 : Cond.classLink RX5 13 RX4 ∈ TT := tt_in (i := 70) (by decide +kernel) rfl
theorem tt_71 : Cond.instantiable RX4 7 ∈ TT := tt_in (i := 71) (by decide +kernel) rfl
theorem nn_72 : Cond.methodLinkNest RX5 15 yX4_init "WallDesk" ∈ NT := nt_in (i := 72) (by decide +kernel) rfl
theorem tt_73 : Cond.instanceMethod yX4_init ∈ TT := tt_in (i := 73) (by decide +kernel) rfl
theorem tt_74 : Cond.code yX4_init cX4_init 1 none ∈ TT := tt_in (i := 74) (by decide +kernel) rfl
theorem tt_75 : Cond.methodLink RX4 3 objectInit ∈ TT := tt_in (i := 75) (by decide +kernel) rfl
theorem tt_76 : Cond.fieldLink RX4 9 (TX4 0).1 (TX4 0).2.1 (TX4 0).2.2.1 ∈ TT := tt_in (i := 76) (by decide +kernel) rfl
theorem tt_77 : Cond.fieldLink RX4 15 (TX4 1).1 (TX4 1).2.1 (TX4 1).2.2.1 ∈ TT := tt_in (i := 77) (by decide +kernel) rfl
theorem tt_78 : Cond.fieldLink RX4 18 (TX4 2).1 (TX4 2).2.1 (TX4 2).2.2.1 ∈ TT := tt_in (i := 78) (by decide +kernel) rfl
theorem nn_79 : Cond.fieldLinkNest RX5 245 (TX4 2).1 (TX4 2).2.1 (TX4 2).2.2.1 "WallDesk" ∈ NT := nt_in (i := 79) (by decide +kernel) rfl
theorem tt_80 : Cond.fieldLink RX4 21 (TX4 3).1 (TX4 3).2.1 (TX4 3).2.2.1 ∈ TT := tt_in (i := 80) (by decide +kernel) rfl
theorem nn_81 : Cond.fieldLinkNest RX5 201 (TX4 3).1 (TX4 3).2.1 (TX4 3).2.2.1 "WallDesk" ∈ NT := nt_in (i := 81) (by decide +kernel) rfl
theorem tt_82 : Cond.fieldLink RX4 24 (TX4 4).1 (TX4 4).2.1 (TX4 4).2.2.1 ∈ TT := tt_in (i := 82) (by decide +kernel) rfl
theorem nn_83 : Cond.fieldLinkNest RX5 204 (TX4 4).1 (TX4 4).2.1 (TX4 4).2.2.1 "WallDesk" ∈ NT := nt_in (i := 83) (by decide +kernel) rfl
theorem tt_84 : Cond.fieldLink RX4 27 (TX4 5).1 (TX4 5).2.1 (TX4 5).2.2.1 ∈ TT := tt_in (i := 84) (by decide +kernel) rfl
theorem nn_85 : Cond.fieldLinkNest RX5 232 (TX4 5).1 (TX4 5).2.1 (TX4 5).2.2.1 "WallDesk" ∈ NT := nt_in (i := 85) (by decide +kernel) rfl
theorem tt_86 : Cond.fieldLink RX4 35 (TX4 6).1 (TX4 6).2.1 (TX4 6).2.2.1 ∈ TT := tt_in (i := 86) (by decide +kernel) rfl
theorem nn_87 : Cond.fieldLinkNest RX5 235 (TX4 6).1 (TX4 6).2.1 (TX4 6).2.2.1 "WallDesk" ∈ NT := nt_in (i := 87) (by decide +kernel) rfl
theorem tt_103 : Cond.arrayClass .int ∈ TT := tt_in (i := 103) (by decide +kernel) rfl
theorem tt_104 : Cond.classLink RX5 20 RX1 ∈ TT := tt_in (i := 104) (by decide +kernel) rfl
theorem tt_105 : Cond.instantiable RX1 5 ∈ TT := tt_in (i := 105) (by decide +kernel) rfl
theorem nn_106 : Cond.methodLinkNest RX5 22 yX1_init "WallDesk" ∈ NT := nt_in (i := 106) (by decide +kernel) rfl
theorem tt_107 : Cond.instanceMethod yX1_init ∈ TT := tt_in (i := 107) (by decide +kernel) rfl
theorem tt_108 : Cond.code yX1_init cX1_init 1 none ∈ TT := tt_in (i := 108) (by decide +kernel) rfl
theorem tt_109 : Cond.methodLink RX1 3 objectInit ∈ TT := tt_in (i := 109) (by decide +kernel) rfl
theorem tt_110 : Cond.fieldLink RX1 9 (TX1 0).1 (TX1 0).2.1 (TX1 0).2.2.1 ∈ TT := tt_in (i := 110) (by decide +kernel) rfl
theorem nn_111 : Cond.fieldLinkNest RX5 108 (TX1 0).1 (TX1 0).2.1 (TX1 0).2.2.1 "WallDesk" ∈ NT := nt_in (i := 111) (by decide +kernel) rfl
theorem tt_112 : Cond.fieldLink RX1 15 (TX1 1).1 (TX1 1).2.1 (TX1 1).2.2.1 ∈ TT := tt_in (i := 112) (by decide +kernel) rfl
theorem nn_113 : Cond.fieldLinkNest RX5 207 (TX1 1).1 (TX1 1).2.1 (TX1 1).2.2.1 "WallDesk" ∈ NT := nt_in (i := 113) (by decide +kernel) rfl
theorem tt_114 : Cond.fieldLink RX1 18 (TX1 2).1 (TX1 2).2.1 (TX1 2).2.2.1 ∈ TT := tt_in (i := 114) (by decide +kernel) rfl
theorem nn_115 : Cond.fieldLinkNest RX5 210 (TX1 2).1 (TX1 2).2.1 (TX1 2).2.2.1 "WallDesk" ∈ NT := nt_in (i := 115) (by decide +kernel) rfl
theorem tt_116 : Cond.fieldLink RX1 21 (TX1 3).1 (TX1 3).2.1 (TX1 3).2.2.1 ∈ TT := tt_in (i := 116) (by decide +kernel) rfl
theorem nn_117 : Cond.fieldLinkNest RX5 101 (TX1 3).1 (TX1 3).2.1 (TX1 3).2.2.1 "WallDesk" ∈ NT := nt_in (i := 117) (by decide +kernel) rfl
theorem tt_118 : Cond.fieldLink RX1 25 (TX1 4).1 (TX1 4).2.1 (TX1 4).2.2.1 ∈ TT := tt_in (i := 118) (by decide +kernel) rfl
theorem nn_119 : Cond.fieldLinkNest RX5 238 (TX1 4).1 (TX1 4).2.1 (TX1 4).2.2.1 "WallDesk" ∈ NT := nt_in (i := 119) (by decide +kernel) rfl
theorem tt_131 : Cond.arrayClass .boolean ∈ TT := tt_in (i := 131) (by decide +kernel) rfl
theorem tt_132 : Cond.classLink RX5 27 RX2 ∈ TT := tt_in (i := 132) (by decide +kernel) rfl
theorem tt_134 : Cond.classLink RX5 33 RX0 ∈ TT := tt_in (i := 134) (by decide +kernel) rfl
theorem tt_136 : Cond.classLink RX5 39 RX3 ∈ TT := tt_in (i := 136) (by decide +kernel) rfl
theorem tt_137 : Cond.instantiable RX3 3 ∈ TT := tt_in (i := 137) (by decide +kernel) rfl
theorem nn_138 : Cond.methodLinkNest RX5 41 yX3_init "WallDesk" ∈ NT := nt_in (i := 138) (by decide +kernel) rfl
theorem tt_139 : Cond.instanceMethod yX3_init ∈ TT := tt_in (i := 139) (by decide +kernel) rfl
theorem tt_140 : Cond.code yX3_init cX3_init 1 none ∈ TT := tt_in (i := 140) (by decide +kernel) rfl
theorem tt_141 : Cond.methodLink RX3 3 objectInit ∈ TT := tt_in (i := 141) (by decide +kernel) rfl
theorem tt_142 : Cond.fieldLink RX3 11 (TX3 0).1 (TX3 0).2.1 (TX3 0).2.2.1 ∈ TT := tt_in (i := 142) (by decide +kernel) rfl
theorem nn_143 : Cond.fieldLinkNest RX5 219 (TX3 0).1 (TX3 0).2.1 (TX3 0).2.2.1 "WallDesk" ∈ NT := nt_in (i := 143) (by decide +kernel) rfl
theorem tt_144 : Cond.fieldLink RX3 15 (TX3 1).1 (TX3 1).2.1 (TX3 1).2.2.1 ∈ TT := tt_in (i := 144) (by decide +kernel) rfl
theorem nn_145 : Cond.fieldLinkNest RX5 225 (TX3 1).1 (TX3 1).2.1 (TX3 1).2.2.1 "WallDesk" ∈ NT := nt_in (i := 145) (by decide +kernel) rfl
theorem tt_146 : Cond.fieldLink RX3 19 (TX3 2).1 (TX3 2).2.1 (TX3 2).2.2.1 ∈ TT := tt_in (i := 146) (by decide +kernel) rfl
theorem nn_147 : Cond.fieldLinkNest RX5 241 (TX3 2).1 (TX3 2).2.1 (TX3 2).2.2.1 "WallDesk" ∈ NT := nt_in (i := 147) (by decide +kernel) rfl
theorem tt_155 : Cond.arrayClass .long ∈ TT := tt_in (i := 155) (by decide +kernel) rfl
theorem tt_156 : Cond.fieldLink RX5 9 (TX5 0).1 (TX5 0).2.1 (TX5 0).2.2.1 ∈ TT := tt_in (i := 156) (by decide +kernel) rfl
theorem tt_157 : Cond.fieldLink RX5 16 (TX5 1).1 (TX5 1).2.1 (TX5 1).2.2.1 ∈ TT := tt_in (i := 157) (by decide +kernel) rfl
theorem tt_158 : Cond.fieldLink RX5 23 (TX5 2).1 (TX5 2).2.1 (TX5 2).2.2.1 ∈ TT := tt_in (i := 158) (by decide +kernel) rfl
theorem tt_159 : Cond.fieldLink RX5 29 (TX5 3).1 (TX5 3).2.1 (TX5 3).2.2.1 ∈ TT := tt_in (i := 159) (by decide +kernel) rfl
theorem tt_160 : Cond.fieldLink RX5 35 (TX5 4).1 (TX5 4).2.1 (TX5 4).2.2.1 ∈ TT := tt_in (i := 160) (by decide +kernel) rfl
theorem tt_161 : Cond.fieldLink RX5 42 (TX5 5).1 (TX5 5).2.1 (TX5 5).2.2.1 ∈ TT := tt_in (i := 161) (by decide +kernel) rfl
theorem tt_162 : Cond.fieldLink RX5 120 (TX5 6).1 (TX5 6).2.1 (TX5 6).2.2.1 ∈ TT := tt_in (i := 162) (by decide +kernel) rfl
theorem tt_163 : Cond.fieldLink RX5 157 (TX5 7).1 (TX5 7).2.1 (TX5 7).2.2.1 ∈ TT := tt_in (i := 163) (by decide +kernel) rfl
theorem tt_164 : Cond.fieldLink RX5 46 (TX5 8).1 (TX5 8).2.1 (TX5 8).2.2.1 ∈ TT := tt_in (i := 164) (by decide +kernel) rfl
theorem tt_184 : Cond.methodLink RL 13 yX5_tick ∈ TT := tt_in (i := 184) (by decide +kernel) rfl
theorem tt_185 : Cond.instanceMethod yX5_tick ∈ TT := tt_in (i := 185) (by decide +kernel) rfl
theorem tt_186 : Cond.selects RX5 yX5_tick yX5_tick ∈ TT := tt_in (i := 186) (by decide +kernel) rfl
theorem tt_187 : Cond.code yX5_tick cX5_tick 2 (some .int) ∈ TT := tt_in (i := 187) (by decide +kernel) rfl
theorem tt_188 : Cond.constant RX5 50 (100000) ∈ TT := tt_in (i := 188) (by decide +kernel) rfl
theorem tt_189 : Cond.methodLink RL 18 yX5_roles ∈ TT := tt_in (i := 189) (by decide +kernel) rfl
theorem tt_190 : Cond.instanceMethod yX5_roles ∈ TT := tt_in (i := 190) (by decide +kernel) rfl
theorem tt_191 : Cond.selects RX5 yX5_roles yX5_roles ∈ TT := tt_in (i := 191) (by decide +kernel) rfl
theorem tt_192 : Cond.code yX5_roles cX5_roles 4 (some .int) ∈ TT := tt_in (i := 192) (by decide +kernel) rfl
theorem tt_193 : Cond.methodLink RX5 51 yX5_isUser ∈ TT := tt_in (i := 193) (by decide +kernel) rfl
theorem tt_194 : Cond.static yX5_isUser ∈ TT := tt_in (i := 194) (by decide +kernel) rfl
theorem tt_195 : Cond.code yX5_isUser cX5_isUser 1 (some .boolean) ∈ TT := tt_in (i := 195) (by decide +kernel) rfl
theorem tt_196 : Cond.methodLink RX5 55 yX5_isBelow ∈ TT := tt_in (i := 196) (by decide +kernel) rfl
theorem tt_197 : Cond.static yX5_isBelow ∈ TT := tt_in (i := 197) (by decide +kernel) rfl
theorem tt_198 : Cond.code yX5_isBelow cX5_isBelow 2 (some .boolean) ∈ TT := tt_in (i := 198) (by decide +kernel) rfl
theorem tt_199 : Cond.methodLink RL 23 yX5_firm ∈ TT := tt_in (i := 199) (by decide +kernel) rfl
theorem tt_200 : Cond.instanceMethod yX5_firm ∈ TT := tt_in (i := 200) (by decide +kernel) rfl
theorem tt_201 : Cond.selects RX5 yX5_firm yX5_firm ∈ TT := tt_in (i := 201) (by decide +kernel) rfl
theorem tt_202 : Cond.code yX5_firm cX5_firm 2 (some .int) ∈ TT := tt_in (i := 202) (by decide +kernel) rfl
theorem nn_203 : Cond.methodLinkNest RX5 59 yX4_addFirm "WallDesk" ∈ NT := nt_in (i := 203) (by decide +kernel) rfl
theorem tt_205 : Cond.instanceMethod yX4_addFirm ∈ TT := tt_in (i := 205) (by decide +kernel) rfl
theorem tt_206 : Cond.code yX4_addFirm cX4_addFirm 2 (some .int) ∈ TT := tt_in (i := 206) (by decide +kernel) rfl
theorem tt_207 : Cond.methodLink RL 27 yX5_object ∈ TT := tt_in (i := 207) (by decide +kernel) rfl
theorem tt_208 : Cond.instanceMethod yX5_object ∈ TT := tt_in (i := 208) (by decide +kernel) rfl
theorem tt_209 : Cond.selects RX5 yX5_object yX5_object ∈ TT := tt_in (i := 209) (by decide +kernel) rfl
theorem tt_210 : Cond.code yX5_object cX5_object 2 (some .int) ∈ TT := tt_in (i := 210) (by decide +kernel) rfl
theorem nn_211 : Cond.methodLinkNest RX5 63 yX4_hasFirm "WallDesk" ∈ NT := nt_in (i := 211) (by decide +kernel) rfl
theorem tt_213 : Cond.instanceMethod yX4_hasFirm ∈ TT := tt_in (i := 213) (by decide +kernel) rfl
theorem tt_214 : Cond.code yX4_hasFirm cX4_hasFirm 2 (some .boolean) ∈ TT := tt_in (i := 214) (by decide +kernel) rfl
theorem nn_215 : Cond.methodLinkNest RX4 31 yX5_isBelow "WallDesk" ∈ NT := nt_in (i := 215) (by decide +kernel) rfl
theorem nn_216 : Cond.methodLinkNest RX5 66 yX4_addObject "WallDesk" ∈ NT := nt_in (i := 216) (by decide +kernel) rfl
theorem tt_218 : Cond.instanceMethod yX4_addObject ∈ TT := tt_in (i := 218) (by decide +kernel) rfl
theorem tt_219 : Cond.code yX4_addObject cX4_addObject 2 (some .int) ∈ TT := tt_in (i := 219) (by decide +kernel) rfl
theorem tt_220 : Cond.methodLink RL 31 yX5_read ∈ TT := tt_in (i := 220) (by decide +kernel) rfl
theorem tt_221 : Cond.instanceMethod yX5_read ∈ TT := tt_in (i := 221) (by decide +kernel) rfl
theorem tt_222 : Cond.selects RX5 yX5_read yX5_read ∈ TT := tt_in (i := 222) (by decide +kernel) rfl
theorem tt_223 : Cond.code yX5_read cX5_read 3 (some .int) ∈ TT := tt_in (i := 223) (by decide +kernel) rfl
theorem tt_224 : Cond.methodLink RX5 69 yX5_reach ∈ TT := tt_in (i := 224) (by decide +kernel) rfl
theorem tt_226 : Cond.instanceMethod yX5_reach ∈ TT := tt_in (i := 226) (by decide +kernel) rfl
theorem tt_227 : Cond.code yX5_reach cX5_reach 7 (some .int) ∈ TT := tt_in (i := 227) (by decide +kernel) rfl
theorem nn_228 : Cond.methodLinkNest RX5 242 yX4_hasObject "WallDesk" ∈ NT := nt_in (i := 228) (by decide +kernel) rfl
theorem tt_230 : Cond.instanceMethod yX4_hasObject ∈ TT := tt_in (i := 230) (by decide +kernel) rfl
theorem tt_231 : Cond.code yX4_hasObject cX4_hasObject 2 (some .boolean) ∈ TT := tt_in (i := 231) (by decide +kernel) rfl
theorem nn_232 : Cond.methodLinkNest RX5 248 yX4_onWriting "WallDesk" ∈ NT := nt_in (i := 232) (by decide +kernel) rfl
theorem tt_234 : Cond.instanceMethod yX4_onWriting ∈ TT := tt_in (i := 234) (by decide +kernel) rfl
theorem tt_235 : Cond.code yX4_onWriting cX4_onWriting 4 (some .int) ∈ TT := tt_in (i := 235) (by decide +kernel) rfl
theorem tt_236 : Cond.methodLink RX4 41 yX4_letRead ∈ TT := tt_in (i := 236) (by decide +kernel) rfl
theorem tt_238 : Cond.instanceMethod yX4_letRead ∈ TT := tt_in (i := 238) (by decide +kernel) rfl
theorem tt_239 : Cond.code yX4_letRead cX4_letRead 4 (some .boolean) ∈ TT := tt_in (i := 239) (by decide +kernel) rfl
theorem nn_240 : Cond.methodLinkNest RX4 38 yX5_hasBit "WallDesk" ∈ NT := nt_in (i := 240) (by decide +kernel) rfl
theorem tt_241 : Cond.static yX5_hasBit ∈ TT := tt_in (i := 241) (by decide +kernel) rfl
theorem tt_242 : Cond.code yX5_hasBit cX5_hasBit 2 (some .boolean) ∈ TT := tt_in (i := 242) (by decide +kernel) rfl
theorem nn_243 : Cond.methodLinkNest RX5 251 yX4_onReading "WallDesk" ∈ NT := nt_in (i := 243) (by decide +kernel) rfl
theorem tt_245 : Cond.instanceMethod yX4_onReading ∈ TT := tt_in (i := 245) (by decide +kernel) rfl
theorem tt_246 : Cond.code yX4_onReading cX4_onReading 3 (some .int) ∈ TT := tt_in (i := 246) (by decide +kernel) rfl
theorem nn_247 : Cond.methodLinkNest RX5 76 yX1_anyRuns "WallDesk" ∈ NT := nt_in (i := 247) (by decide +kernel) rfl
theorem tt_249 : Cond.instanceMethod yX1_anyRuns ∈ TT := tt_in (i := 249) (by decide +kernel) rfl
theorem tt_250 : Cond.code yX1_anyRuns cX1_anyRuns 5 (some .boolean) ∈ TT := tt_in (i := 250) (by decide +kernel) rfl
theorem tt_251 : Cond.methodLink RX1 33 yX1_runs ∈ TT := tt_in (i := 251) (by decide +kernel) rfl
theorem tt_253 : Cond.instanceMethod yX1_runs ∈ TT := tt_in (i := 253) (by decide +kernel) rfl
theorem tt_254 : Cond.code yX1_runs cX1_runs 3 (some .boolean) ∈ TT := tt_in (i := 254) (by decide +kernel) rfl
theorem nn_255 : Cond.methodLinkNest RX5 90 yX3_isFull "WallDesk" ∈ NT := nt_in (i := 255) (by decide +kernel) rfl
theorem tt_257 : Cond.instanceMethod yX3_isFull ∈ TT := tt_in (i := 257) (by decide +kernel) rfl
theorem tt_258 : Cond.code yX3_isFull cX3_isFull 1 (some .boolean) ∈ TT := tt_in (i := 258) (by decide +kernel) rfl
theorem nn_259 : Cond.methodLinkNest RX5 254 yX4_showFirm "WallDesk" ∈ NT := nt_in (i := 259) (by decide +kernel) rfl
theorem tt_261 : Cond.instanceMethod yX4_showFirm ∈ TT := tt_in (i := 261) (by decide +kernel) rfl
theorem tt_262 : Cond.code yX4_showFirm cX4_showFirm 3 none ∈ TT := tt_in (i := 262) (by decide +kernel) rfl
theorem nn_263 : Cond.methodLinkNest RX5 258 yX4_teachFirm "WallDesk" ∈ NT := nt_in (i := 263) (by decide +kernel) rfl
theorem tt_265 : Cond.instanceMethod yX4_teachFirm ∈ TT := tt_in (i := 265) (by decide +kernel) rfl
theorem tt_266 : Cond.code yX4_teachFirm cX4_teachFirm 3 none ∈ TT := tt_in (i := 266) (by decide +kernel) rfl
theorem tt_267 : Cond.methodLink RX5 197 yX5_asNumber ∈ TT := tt_in (i := 267) (by decide +kernel) rfl
theorem tt_268 : Cond.static yX5_asNumber ∈ TT := tt_in (i := 268) (by decide +kernel) rfl
theorem tt_269 : Cond.code yX5_asNumber cX5_asNumber 1 (some .int) ∈ TT := tt_in (i := 269) (by decide +kernel) rfl
theorem nn_270 : Cond.methodLinkNest RX5 94 yX3_add "WallDesk" ∈ NT := nt_in (i := 270) (by decide +kernel) rfl
theorem tt_272 : Cond.instanceMethod yX3_add ∈ TT := tt_in (i := 272) (by decide +kernel) rfl
theorem tt_273 : Cond.code yX3_add cX3_add 7 none ∈ TT := tt_in (i := 273) (by decide +kernel) rfl
theorem tt_274 : Cond.methodLink RX3 31 yX3_linkDue ∈ TT := tt_in (i := 274) (by decide +kernel) rfl
theorem tt_276 : Cond.instanceMethod yX3_linkDue ∈ TT := tt_in (i := 276) (by decide +kernel) rfl
theorem tt_277 : Cond.code yX3_linkDue cX3_linkDue 6 (some .long) ∈ TT := tt_in (i := 277) (by decide +kernel) rfl
theorem tt_278 : Cond.constantLong RX3 35 (-7046029254386353131) ∈ TT := tt_in (i := 278) (by decide +kernel) rfl
theorem tt_279 : Cond.constantLong RX3 37 (-4658895280553007687) ∈ TT := tt_in (i := 279) (by decide +kernel) rfl
theorem tt_280 : Cond.constantLong RX3 39 (-7723592293110705685) ∈ TT := tt_in (i := 280) (by decide +kernel) rfl
theorem tt_281 : Cond.methodLink RL 35 yX5_write ∈ TT := tt_in (i := 281) (by decide +kernel) rfl
theorem tt_282 : Cond.instanceMethod yX5_write ∈ TT := tt_in (i := 282) (by decide +kernel) rfl
theorem tt_283 : Cond.selects RX5 yX5_write yX5_write ∈ TT := tt_in (i := 283) (by decide +kernel) rfl
theorem tt_284 : Cond.code yX5_write cX5_write 3 (some .int) ∈ TT := tt_in (i := 284) (by decide +kernel) rfl
theorem tt_285 : Cond.methodLink RL 39 yX5_glass ∈ TT := tt_in (i := 285) (by decide +kernel) rfl
theorem tt_286 : Cond.instanceMethod yX5_glass ∈ TT := tt_in (i := 286) (by decide +kernel) rfl
theorem tt_287 : Cond.selects RX5 yX5_glass yX5_glass ∈ TT := tt_in (i := 287) (by decide +kernel) rfl
theorem tt_288 : Cond.code yX5_glass cX5_glass 5 (some .int) ∈ TT := tt_in (i := 288) (by decide +kernel) rfl
theorem nn_289 : Cond.methodLinkNest RX5 73 yX4_letRead "WallDesk" ∈ NT := nt_in (i := 289) (by decide +kernel) rfl
theorem nn_290 : Cond.methodLinkNest RX5 80 yX1_openDuties "WallDesk" ∈ NT := nt_in (i := 290) (by decide +kernel) rfl
theorem tt_292 : Cond.instanceMethod yX1_openDuties ∈ TT := tt_in (i := 292) (by decide +kernel) rfl
theorem tt_293 : Cond.code yX1_openDuties cX1_openDuties 4 (some .int) ∈ TT := tt_in (i := 293) (by decide +kernel) rfl
theorem nn_294 : Cond.methodLinkNest RX5 83 yX1_anyDue "WallDesk" ∈ NT := nt_in (i := 294) (by decide +kernel) rfl
theorem tt_296 : Cond.instanceMethod yX1_anyDue ∈ TT := tt_in (i := 296) (by decide +kernel) rfl
theorem tt_297 : Cond.code yX1_anyDue cX1_anyDue 4 (some .boolean) ∈ TT := tt_in (i := 297) (by decide +kernel) rfl
theorem tt_298 : Cond.methodLink RX1 36 yX1_due ∈ TT := tt_in (i := 298) (by decide +kernel) rfl
theorem tt_300 : Cond.instanceMethod yX1_due ∈ TT := tt_in (i := 300) (by decide +kernel) rfl
theorem tt_301 : Cond.code yX1_due cX1_due 2 (some .int) ∈ TT := tt_in (i := 301) (by decide +kernel) rfl
theorem nn_302 : Cond.methodLinkNest RX5 86 yX1_isFull "WallDesk" ∈ NT := nt_in (i := 302) (by decide +kernel) rfl
theorem tt_304 : Cond.instanceMethod yX1_isFull ∈ TT := tt_in (i := 304) (by decide +kernel) rfl
theorem tt_305 : Cond.code yX1_isFull cX1_isFull 1 (some .boolean) ∈ TT := tt_in (i := 305) (by decide +kernel) rfl
theorem nn_306 : Cond.methodLinkNest RX5 91 yX1_addGlass "WallDesk" ∈ NT := nt_in (i := 306) (by decide +kernel) rfl
theorem tt_308 : Cond.instanceMethod yX1_addGlass ∈ TT := tt_in (i := 308) (by decide +kernel) rfl
theorem tt_309 : Cond.code yX1_addGlass cX1_addGlass 4 (some .int) ∈ TT := tt_in (i := 309) (by decide +kernel) rfl
theorem tt_310 : Cond.methodLink RL 44 yX5_takeOff ∈ TT := tt_in (i := 310) (by decide +kernel) rfl
theorem tt_311 : Cond.instanceMethod yX5_takeOff ∈ TT := tt_in (i := 311) (by decide +kernel) rfl
theorem tt_312 : Cond.selects RX5 yX5_takeOff yX5_takeOff ∈ TT := tt_in (i := 312) (by decide +kernel) rfl
theorem tt_313 : Cond.code yX5_takeOff cX5_takeOff 3 (some .int) ∈ TT := tt_in (i := 313) (by decide +kernel) rfl
theorem nn_314 : Cond.methodLinkNest RX5 98 yX1_has "WallDesk" ∈ NT := nt_in (i := 314) (by decide +kernel) rfl
theorem tt_316 : Cond.instanceMethod yX1_has ∈ TT := tt_in (i := 316) (by decide +kernel) rfl
theorem tt_317 : Cond.code yX1_has cX1_has 2 (some .boolean) ∈ TT := tt_in (i := 317) (by decide +kernel) rfl
theorem nn_318 : Cond.methodLinkNest RX1 29 yX5_isBelow "WallDesk" ∈ NT := nt_in (i := 318) (by decide +kernel) rfl
theorem tt_319 : Cond.methodLink RX5 105 yX5_hasBit ∈ TT := tt_in (i := 319) (by decide +kernel) rfl
theorem nn_320 : Cond.methodLinkNest RX5 111 yX1_due "WallDesk" ∈ NT := nt_in (i := 320) (by decide +kernel) rfl
theorem tt_321 : Cond.methodLink RX5 114 Lib.Math.max.name ∈ TT := tt_in (i := 321) (by decide +kernel) rfl
theorem tt_322 : Cond.static Lib.Math.max.name ∈ TT := tt_in (i := 322) (by decide +kernel) rfl
theorem tt_323 : Cond.code Lib.Math.max.name Lib.Math.max.code 2 (some .int) ∈ TT := tt_in (i := 323) (by decide +kernel) rfl
theorem tt_324 : Cond.methodLink RL 48 yX5_kind ∈ TT := tt_in (i := 324) (by decide +kernel) rfl
theorem tt_325 : Cond.instanceMethod yX5_kind ∈ TT := tt_in (i := 325) (by decide +kernel) rfl
theorem tt_326 : Cond.selects RX5 yX5_kind yX5_kind ∈ TT := tt_in (i := 326) (by decide +kernel) rfl
theorem tt_327 : Cond.code yX5_kind cX5_kind 1 (some .int) ∈ TT := tt_in (i := 327) (by decide +kernel) rfl
theorem tt_328 : Cond.instantiable RX2 7 ∈ TT := tt_in (i := 328) (by decide +kernel) rfl
theorem nn_329 : Cond.methodLinkNest RX5 123 yX2_init "WallDesk" ∈ NT := nt_in (i := 329) (by decide +kernel) rfl
theorem tt_330 : Cond.instanceMethod yX2_init ∈ TT := tt_in (i := 330) (by decide +kernel) rfl
theorem tt_331 : Cond.code yX2_init cX2_init 1 none ∈ TT := tt_in (i := 331) (by decide +kernel) rfl
theorem tt_332 : Cond.methodLink RX2 3 objectInit ∈ TT := tt_in (i := 332) (by decide +kernel) rfl
theorem tt_333 : Cond.fieldLink RX2 9 (TX2 0).1 (TX2 0).2.1 (TX2 0).2.2.1 ∈ TT := tt_in (i := 333) (by decide +kernel) rfl
theorem nn_334 : Cond.fieldLinkNest RX0 43 (TX2 0).1 (TX2 0).2.1 (TX2 0).2.2.1 "WallDesk" ∈ NT := nt_in (i := 334) (by decide +kernel) rfl
theorem tt_335 : Cond.fieldLink RX2 15 (TX2 1).1 (TX2 1).2.1 (TX2 1).2.2.1 ∈ TT := tt_in (i := 335) (by decide +kernel) rfl
theorem nn_336 : Cond.fieldLinkNest RX0 40 (TX2 1).1 (TX2 1).2.1 (TX2 1).2.2.1 "WallDesk" ∈ NT := nt_in (i := 336) (by decide +kernel) rfl
theorem tt_337 : Cond.fieldLink RX2 18 (TX2 2).1 (TX2 2).2.1 (TX2 2).2.2.1 ∈ TT := tt_in (i := 337) (by decide +kernel) rfl
theorem nn_338 : Cond.fieldLinkNest RX0 46 (TX2 2).1 (TX2 2).2.1 (TX2 2).2.2.1 "WallDesk" ∈ NT := nt_in (i := 338) (by decide +kernel) rfl
theorem nn_339 : Cond.fieldLinkNest RX5 138 (TX2 2).1 (TX2 2).2.1 (TX2 2).2.2.1 "WallDesk" ∈ NT := nt_in (i := 339) (by decide +kernel) rfl
theorem tt_340 : Cond.fieldLink RX2 21 (TX2 3).1 (TX2 3).2.1 (TX2 3).2.2.1 ∈ TT := tt_in (i := 340) (by decide +kernel) rfl
theorem nn_341 : Cond.fieldLinkNest RX0 49 (TX2 3).1 (TX2 3).2.1 (TX2 3).2.2.1 "WallDesk" ∈ NT := nt_in (i := 341) (by decide +kernel) rfl
theorem nn_342 : Cond.fieldLinkNest RX5 145 (TX2 3).1 (TX2 3).2.1 (TX2 3).2.2.1 "WallDesk" ∈ NT := nt_in (i := 342) (by decide +kernel) rfl
theorem tt_343 : Cond.fieldLink RX2 28 (TX2 4).1 (TX2 4).2.1 (TX2 4).2.2.1 ∈ TT := tt_in (i := 343) (by decide +kernel) rfl
theorem nn_344 : Cond.fieldLinkNest RX0 19 (TX2 4).1 (TX2 4).2.1 (TX2 4).2.2.1 "WallDesk" ∈ NT := nt_in (i := 344) (by decide +kernel) rfl
theorem nn_345 : Cond.fieldLinkNest RX5 154 (TX2 4).1 (TX2 4).2.1 (TX2 4).2.2.1 "WallDesk" ∈ NT := nt_in (i := 345) (by decide +kernel) rfl
theorem tt_346 : Cond.fieldLink RX2 24 (TX2 5).1 (TX2 5).2.1 (TX2 5).2.2.1 ∈ TT := tt_in (i := 346) (by decide +kernel) rfl
theorem nn_347 : Cond.fieldLinkNest RX0 57 (TX2 5).1 (TX2 5).2.1 (TX2 5).2.2.1 "WallDesk" ∈ NT := nt_in (i := 347) (by decide +kernel) rfl
theorem nn_348 : Cond.fieldLinkNest RX5 148 (TX2 5).1 (TX2 5).2.1 (TX2 5).2.2.1 "WallDesk" ∈ NT := nt_in (i := 348) (by decide +kernel) rfl
theorem nn_349 : Cond.fieldLinkNest RX5 160 (TX2 6).1 (TX2 6).2.1 (TX2 6).2.2.1 "WallDesk" ∈ NT := nt_in (i := 349) (by decide +kernel) rfl
theorem tt_365 : Cond.methodLink RL 53 yX5_task ∈ TT := tt_in (i := 365) (by decide +kernel) rfl
theorem tt_366 : Cond.instanceMethod yX5_task ∈ TT := tt_in (i := 366) (by decide +kernel) rfl
theorem tt_367 : Cond.selects RX5 yX5_task yX5_task ∈ TT := tt_in (i := 367) (by decide +kernel) rfl
theorem tt_368 : Cond.code yX5_task cX5_task 5 (some .int) ∈ TT := tt_in (i := 368) (by decide +kernel) rfl
theorem tt_369 : Cond.methodLink RX5 124 yX5_alterableKind ∈ TT := tt_in (i := 369) (by decide +kernel) rfl
theorem tt_371 : Cond.instanceMethod yX5_alterableKind ∈ TT := tt_in (i := 371) (by decide +kernel) rfl
theorem tt_372 : Cond.code yX5_alterableKind cX5_alterableKind 3 (some (.object "WallDesk$Kind")) ∈ TT := tt_in (i := 372) (by decide +kernel) rfl
theorem tt_373 : Cond.methodLink RX5 151 yX5_kindAt ∈ TT := tt_in (i := 373) (by decide +kernel) rfl
theorem tt_375 : Cond.instanceMethod yX5_kindAt ∈ TT := tt_in (i := 375) (by decide +kernel) rfl
theorem tt_376 : Cond.code yX5_kindAt cX5_kindAt 2 (some (.object "WallDesk$Kind")) ∈ TT := tt_in (i := 376) (by decide +kernel) rfl
theorem nn_377 : Cond.methodLinkNest RX5 128 yX2_taskBits "WallDesk" ∈ NT := nt_in (i := 377) (by decide +kernel) rfl
theorem tt_379 : Cond.instanceMethod yX2_taskBits ∈ TT := tt_in (i := 379) (by decide +kernel) rfl
theorem tt_380 : Cond.code yX2_taskBits cX2_taskBits 1 (some .int) ∈ TT := tt_in (i := 380) (by decide +kernel) rfl
theorem nn_381 : Cond.methodLinkNest RX5 132 yX2_addTask "WallDesk" ∈ NT := nt_in (i := 381) (by decide +kernel) rfl
theorem tt_383 : Cond.instanceMethod yX2_addTask ∈ TT := tt_in (i := 383) (by decide +kernel) rfl
theorem tt_384 : Cond.code yX2_addTask cX2_addTask 3 (some .int) ∈ TT := tt_in (i := 384) (by decide +kernel) rfl
theorem tt_385 : Cond.methodLink RL 57 yX5_apart ∈ TT := tt_in (i := 385) (by decide +kernel) rfl
theorem tt_386 : Cond.instanceMethod yX5_apart ∈ TT := tt_in (i := 386) (by decide +kernel) rfl
theorem tt_387 : Cond.selects RX5 yX5_apart yX5_apart ∈ TT := tt_in (i := 387) (by decide +kernel) rfl
theorem tt_388 : Cond.code yX5_apart cX5_apart 5 (some .int) ∈ TT := tt_in (i := 388) (by decide +kernel) rfl
theorem nn_389 : Cond.methodLinkNest RX5 135 yX2_arePair "WallDesk" ∈ NT := nt_in (i := 389) (by decide +kernel) rfl
theorem tt_391 : Cond.instanceMethod yX2_arePair ∈ TT := tt_in (i := 391) (by decide +kernel) rfl
theorem tt_392 : Cond.code yX2_arePair cX2_arePair 3 (some .boolean) ∈ TT := tt_in (i := 392) (by decide +kernel) rfl
theorem tt_393 : Cond.methodLink RX2 35 yX2_hasTask ∈ TT := tt_in (i := 393) (by decide +kernel) rfl
theorem tt_395 : Cond.instanceMethod yX2_hasTask ∈ TT := tt_in (i := 395) (by decide +kernel) rfl
theorem tt_396 : Cond.code yX2_hasTask cX2_hasTask 2 (some .boolean) ∈ TT := tt_in (i := 396) (by decide +kernel) rfl
theorem nn_397 : Cond.methodLinkNest RX2 31 yX5_isBelow "WallDesk" ∈ NT := nt_in (i := 397) (by decide +kernel) rfl
theorem tt_398 : Cond.methodLink RX5 141 yX5_joinPair ∈ TT := tt_in (i := 398) (by decide +kernel) rfl
theorem tt_399 : Cond.static yX5_joinPair ∈ TT := tt_in (i := 399) (by decide +kernel) rfl
theorem tt_400 : Cond.code yX5_joinPair cX5_joinPair 4 (some .int) ∈ TT := tt_in (i := 400) (by decide +kernel) rfl
theorem tt_401 : Cond.methodLink RL 61 yX5_bound ∈ TT := tt_in (i := 401) (by decide +kernel) rfl
theorem tt_402 : Cond.instanceMethod yX5_bound ∈ TT := tt_in (i := 402) (by decide +kernel) rfl
theorem tt_403 : Cond.selects RX5 yX5_bound yX5_bound ∈ TT := tt_in (i := 403) (by decide +kernel) rfl
theorem tt_404 : Cond.code yX5_bound cX5_bound 5 (some .int) ∈ TT := tt_in (i := 404) (by decide +kernel) rfl
theorem tt_405 : Cond.methodLink RL 65 yX5_most ∈ TT := tt_in (i := 405) (by decide +kernel) rfl
theorem tt_406 : Cond.instanceMethod yX5_most ∈ TT := tt_in (i := 406) (by decide +kernel) rfl
theorem tt_407 : Cond.selects RX5 yX5_most yX5_most ∈ TT := tt_in (i := 407) (by decide +kernel) rfl
theorem tt_408 : Cond.code yX5_most cX5_most 5 (some .int) ∈ TT := tt_in (i := 408) (by decide +kernel) rfl
theorem tt_409 : Cond.methodLink RL 69 yX5_open ∈ TT := tt_in (i := 409) (by decide +kernel) rfl
theorem tt_410 : Cond.instanceMethod yX5_open ∈ TT := tt_in (i := 410) (by decide +kernel) rfl
theorem tt_411 : Cond.selects RX5 yX5_open yX5_open ∈ TT := tt_in (i := 411) (by decide +kernel) rfl
theorem tt_412 : Cond.code yX5_open cX5_open 3 (some .int) ∈ TT := tt_in (i := 412) (by decide +kernel) rfl
theorem tt_413 : Cond.instantiable RX0 2 ∈ TT := tt_in (i := 413) (by decide +kernel) rfl
theorem nn_414 : Cond.methodLinkNest RX5 164 yX0_init "WallDesk" ∈ NT := nt_in (i := 414) (by decide +kernel) rfl
theorem tt_415 : Cond.instanceMethod yX0_init ∈ TT := tt_in (i := 415) (by decide +kernel) rfl
theorem tt_416 : Cond.code yX0_init cX0_init 2 none ∈ TT := tt_in (i := 416) (by decide +kernel) rfl
theorem tt_417 : Cond.methodLink RX0 3 objectInit ∈ TT := tt_in (i := 417) (by decide +kernel) rfl
theorem tt_418 : Cond.fieldLink RX0 15 (TX0 0).1 (TX0 0).2.1 (TX0 0).2.2.1 ∈ TT := tt_in (i := 418) (by decide +kernel) rfl
theorem nn_419 : Cond.fieldLinkNest RX5 171 (TX0 0).1 (TX0 0).2.1 (TX0 0).2.2.1 "WallDesk" ∈ NT := nt_in (i := 419) (by decide +kernel) rfl
theorem tt_420 : Cond.fieldLink RX0 9 (TX0 1).1 (TX0 1).2.1 (TX0 1).2.2.1 ∈ TT := tt_in (i := 420) (by decide +kernel) rfl
theorem nn_421 : Cond.fieldLinkNest RX5 182 (TX0 1).1 (TX0 1).2.1 (TX0 1).2.2.1 "WallDesk" ∈ NT := nt_in (i := 421) (by decide +kernel) rfl
theorem tt_427 : Cond.methodLink RL 73 yX5_perform ∈ TT := tt_in (i := 427) (by decide +kernel) rfl
theorem tt_428 : Cond.instanceMethod yX5_perform ∈ TT := tt_in (i := 428) (by decide +kernel) rfl
theorem tt_429 : Cond.selects RX5 yX5_perform yX5_perform ∈ TT := tt_in (i := 429) (by decide +kernel) rfl
theorem tt_430 : Cond.code yX5_perform cX5_perform 6 (some .int) ∈ TT := tt_in (i := 430) (by decide +kernel) rfl
theorem tt_431 : Cond.methodLink RX5 167 yX5_caseAt ∈ TT := tt_in (i := 431) (by decide +kernel) rfl
theorem tt_433 : Cond.instanceMethod yX5_caseAt ∈ TT := tt_in (i := 433) (by decide +kernel) rfl
theorem tt_434 : Cond.code yX5_caseAt cX5_caseAt 2 (some (.object "WallDesk$Case")) ∈ TT := tt_in (i := 434) (by decide +kernel) rfl
theorem nn_435 : Cond.methodLinkNest RX5 175 yX2_hasTask "WallDesk" ∈ NT := nt_in (i := 435) (by decide +kernel) rfl
theorem nn_436 : Cond.methodLinkNest RX5 178 yX0_verdict "WallDesk" ∈ NT := nt_in (i := 436) (by decide +kernel) rfl
theorem tt_438 : Cond.instanceMethod yX0_verdict ∈ TT := tt_in (i := 438) (by decide +kernel) rfl
theorem tt_439 : Cond.code yX0_verdict cX0_verdict 6 (some .int) ∈ TT := tt_in (i := 439) (by decide +kernel) rfl
theorem nn_440 : Cond.methodLinkNest RX0 29 yX2_taskBits "WallDesk" ∈ NT := nt_in (i := 440) (by decide +kernel) rfl
theorem tt_441 : Cond.methodLink RX0 33 yX0_leftBits ∈ TT := tt_in (i := 441) (by decide +kernel) rfl
theorem tt_443 : Cond.instanceMethod yX0_leftBits ∈ TT := tt_in (i := 443) (by decide +kernel) rfl
theorem tt_444 : Cond.code yX0_leftBits cX0_leftBits 1 (some .int) ∈ TT := tt_in (i := 444) (by decide +kernel) rfl
theorem tt_445 : Cond.methodLink RX0 25 yX0_bitsDoneBy ∈ TT := tt_in (i := 445) (by decide +kernel) rfl
theorem tt_447 : Cond.instanceMethod yX0_bitsDoneBy ∈ TT := tt_in (i := 447) (by decide +kernel) rfl
theorem tt_448 : Cond.code yX0_bitsDoneBy cX0_bitsDoneBy 4 (some .int) ∈ TT := tt_in (i := 448) (by decide +kernel) rfl
theorem nn_449 : Cond.methodLinkNest RX0 36 yX5_hasBit "WallDesk" ∈ NT := nt_in (i := 449) (by decide +kernel) rfl
theorem tt_450 : Cond.methodLink RX0 52 yJ6_bitCount_0f7a4 ∈ TT := tt_in (i := 450) (by decide +kernel) rfl
theorem tt_451 : Cond.static yJ6_bitCount_0f7a4 ∈ TT := tt_in (i := 451) (by decide +kernel) rfl
theorem tt_452 : Cond.code yJ6_bitCount_0f7a4 cJ6_bitCount_0f7a4 1 (some .int) ∈ TT := tt_in (i := 452) (by decide +kernel) rfl
theorem tt_453 : Cond.constant RJ6 265 (1431655765) ∈ TT := tt_in (i := 453) (by decide +kernel) rfl
theorem tt_454 : Cond.constant RJ6 266 (858993459) ∈ TT := tt_in (i := 454) (by decide +kernel) rfl
theorem tt_455 : Cond.constant RJ6 267 (252645135) ∈ TT := tt_in (i := 455) (by decide +kernel) rfl
theorem tt_456 : Cond.methodLink RX0 60 yX0_wouldStick ∈ TT := tt_in (i := 456) (by decide +kernel) rfl
theorem tt_458 : Cond.instanceMethod yX0_wouldStick ∈ TT := tt_in (i := 458) (by decide +kernel) rfl
theorem tt_459 : Cond.code yX0_wouldStick cX0_wouldStick 5 (some .boolean) ∈ TT := tt_in (i := 459) (by decide +kernel) rfl
theorem tt_460 : Cond.methodLink RX0 64 yX0_couldEnd ∈ TT := tt_in (i := 460) (by decide +kernel) rfl
theorem tt_462 : Cond.instanceMethod yX0_couldEnd ∈ TT := tt_in (i := 462) (by decide +kernel) rfl
theorem tt_463 : Cond.code yX0_couldEnd cX0_couldEnd 7 (some .boolean) ∈ TT := tt_in (i := 463) (by decide +kernel) rfl
theorem nn_464 : Cond.methodLinkNest RX0 68 yX2_tasksWithin "WallDesk" ∈ NT := nt_in (i := 464) (by decide +kernel) rfl
theorem tt_466 : Cond.instanceMethod yX2_tasksWithin ∈ TT := tt_in (i := 466) (by decide +kernel) rfl
theorem tt_467 : Cond.code yX2_tasksWithin cX2_tasksWithin 4 (some .int) ∈ TT := tt_in (i := 467) (by decide +kernel) rfl
theorem nn_468 : Cond.methodLinkNest RX2 39 yX5_hasBit "WallDesk" ∈ NT := nt_in (i := 468) (by decide +kernel) rfl
theorem tt_469 : Cond.methodLink RX0 71 yX0_sharedWith ∈ TT := tt_in (i := 469) (by decide +kernel) rfl
theorem tt_471 : Cond.instanceMethod yX0_sharedWith ∈ TT := tt_in (i := 471) (by decide +kernel) rfl
theorem tt_472 : Cond.code yX0_sharedWith cX0_sharedWith 8 (some .long) ∈ TT := tt_in (i := 472) (by decide +kernel) rfl
theorem nn_473 : Cond.methodLinkNest RX0 75 yX2_allows "WallDesk" ∈ NT := nt_in (i := 473) (by decide +kernel) rfl
theorem tt_475 : Cond.instanceMethod yX2_allows ∈ TT := tt_in (i := 475) (by decide +kernel) rfl
theorem tt_476 : Cond.code yX2_allows cX2_allows 3 (some .boolean) ∈ TT := tt_in (i := 476) (by decide +kernel) rfl
theorem tt_477 : Cond.methodLink RX2 42 yJ6_bitCount_0f7a4 ∈ TT := tt_in (i := 477) (by decide +kernel) rfl
theorem tt_478 : Cond.methodLink RX0 79 yX0_setsWithoutAnyOf ∈ TT := tt_in (i := 478) (by decide +kernel) rfl
theorem tt_479 : Cond.static yX0_setsWithoutAnyOf ∈ TT := tt_in (i := 479) (by decide +kernel) rfl
theorem tt_480 : Cond.code yX0_setsWithoutAnyOf cX0_setsWithoutAnyOf 4 (some .long) ∈ TT := tt_in (i := 480) (by decide +kernel) rfl
theorem tt_481 : Cond.constantLong RX0 83 (-1) ∈ TT := tt_in (i := 481) (by decide +kernel) rfl
theorem tt_482 : Cond.fieldLink RX0 85 "WallDesk$Case" "SETS_WITHOUT" "[J" ∈ TT := tt_in (i := 482) (by decide +kernel) rfl
theorem nn_484 : Cond.methodLinkNest RX5 185 yX0_leftBits "WallDesk" ∈ NT := nt_in (i := 484) (by decide +kernel) rfl
theorem tt_485 : Cond.methodLink RX5 188 yJ6_bitCount_0f7a4 ∈ TT := tt_in (i := 485) (by decide +kernel) rfl
theorem tt_486 : Cond.methodLink RL 77 yX5_canEnd ∈ TT := tt_in (i := 486) (by decide +kernel) rfl
theorem tt_487 : Cond.instanceMethod yX5_canEnd ∈ TT := tt_in (i := 487) (by decide +kernel) rfl
theorem tt_488 : Cond.selects RX5 yX5_canEnd yX5_canEnd ∈ TT := tt_in (i := 488) (by decide +kernel) rfl
theorem tt_489 : Cond.code yX5_canEnd cX5_canEnd 3 (some .int) ∈ TT := tt_in (i := 489) (by decide +kernel) rfl
theorem nn_490 : Cond.methodLinkNest RX5 193 yX0_couldEnd "WallDesk" ∈ NT := nt_in (i := 490) (by decide +kernel) rfl
theorem tt_491 : Cond.methodLink RL 81 yX5_doer ∈ TT := tt_in (i := 491) (by decide +kernel) rfl
theorem tt_492 : Cond.instanceMethod yX5_doer ∈ TT := tt_in (i := 492) (by decide +kernel) rfl
theorem tt_493 : Cond.selects RX5 yX5_doer yX5_doer ∈ TT := tt_in (i := 493) (by decide +kernel) rfl
theorem tt_494 : Cond.code yX5_doer cX5_doer 4 (some .int) ∈ TT := tt_in (i := 494) (by decide +kernel) rfl
theorem tt_495 : Cond.methodLink RL 85 yX5_told ∈ TT := tt_in (i := 495) (by decide +kernel) rfl
theorem tt_496 : Cond.instanceMethod yX5_told ∈ TT := tt_in (i := 496) (by decide +kernel) rfl
theorem tt_497 : Cond.selects RX5 yX5_told yX5_told ∈ TT := tt_in (i := 497) (by decide +kernel) rfl
theorem tt_498 : Cond.code yX5_told cX5_told 3 (some .int) ∈ TT := tt_in (i := 498) (by decide +kernel) rfl
theorem tt_499 : Cond.methodLink RL 89 yX5_glassTold ∈ TT := tt_in (i := 499) (by decide +kernel) rfl
theorem tt_500 : Cond.instanceMethod yX5_glassTold ∈ TT := tt_in (i := 500) (by decide +kernel) rfl
theorem tt_501 : Cond.selects RX5 yX5_glassTold yX5_glassTold ∈ TT := tt_in (i := 501) (by decide +kernel) rfl
theorem tt_502 : Cond.code yX5_glassTold cX5_glassTold 3 (some .int) ∈ TT := tt_in (i := 502) (by decide +kernel) rfl
theorem nn_503 : Cond.methodLinkNest RX5 213 yX1_runs "WallDesk" ∈ NT := nt_in (i := 503) (by decide +kernel) rfl
theorem tt_504 : Cond.methodLink RL 93 yX5_entry ∈ TT := tt_in (i := 504) (by decide +kernel) rfl
theorem tt_505 : Cond.instanceMethod yX5_entry ∈ TT := tt_in (i := 505) (by decide +kernel) rfl
theorem tt_506 : Cond.selects RX5 yX5_entry yX5_entry ∈ TT := tt_in (i := 506) (by decide +kernel) rfl
theorem tt_507 : Cond.code yX5_entry cX5_entry 3 (some .int) ∈ TT := tt_in (i := 507) (by decide +kernel) rfl
theorem nn_508 : Cond.methodLinkNest RX5 216 yX3_hasCell "WallDesk" ∈ NT := nt_in (i := 508) (by decide +kernel) rfl
theorem tt_510 : Cond.instanceMethod yX3_hasCell ∈ TT := tt_in (i := 510) (by decide +kernel) rfl
theorem tt_511 : Cond.code yX3_hasCell cX3_hasCell 3 (some .boolean) ∈ TT := tt_in (i := 511) (by decide +kernel) rfl
theorem tt_512 : Cond.methodLink RX3 27 yX3_hasEntry ∈ TT := tt_in (i := 512) (by decide +kernel) rfl
theorem tt_514 : Cond.instanceMethod yX3_hasEntry ∈ TT := tt_in (i := 514) (by decide +kernel) rfl
theorem tt_515 : Cond.code yX3_hasEntry cX3_hasEntry 2 (some .boolean) ∈ TT := tt_in (i := 515) (by decide +kernel) rfl
theorem nn_516 : Cond.methodLinkNest RX3 23 yX5_isBelow "WallDesk" ∈ NT := nt_in (i := 516) (by decide +kernel) rfl
theorem tt_517 : Cond.methodLink RL 97 yX5_link ∈ TT := tt_in (i := 517) (by decide +kernel) rfl
theorem tt_518 : Cond.instanceMethod yX5_link ∈ TT := tt_in (i := 518) (by decide +kernel) rfl
theorem tt_519 : Cond.selects RX5 yX5_link yX5_link ∈ TT := tt_in (i := 519) (by decide +kernel) rfl
theorem tt_520 : Cond.code yX5_link cX5_link 2 (some .long) ∈ TT := tt_in (i := 520) (by decide +kernel) rfl
theorem nn_521 : Cond.methodLinkNest RX5 222 yX3_hasEntry "WallDesk" ∈ NT := nt_in (i := 521) (by decide +kernel) rfl
theorem tt_522 : Cond.methodLink RL 102 yX5_alter ∈ TT := tt_in (i := 522) (by decide +kernel) rfl
theorem tt_523 : Cond.instanceMethod yX5_alter ∈ TT := tt_in (i := 523) (by decide +kernel) rfl
theorem tt_524 : Cond.selects RX5 yX5_alter yX5_alter ∈ TT := tt_in (i := 524) (by decide +kernel) rfl
theorem tt_525 : Cond.code yX5_alter cX5_alter 5 (some .int) ∈ TT := tt_in (i := 525) (by decide +kernel) rfl
theorem tt_526 : Cond.methodLink RL 106 yX5_check ∈ TT := tt_in (i := 526) (by decide +kernel) rfl
theorem tt_527 : Cond.instanceMethod yX5_check ∈ TT := tt_in (i := 527) (by decide +kernel) rfl
theorem tt_528 : Cond.selects RX5 yX5_check yX5_check ∈ TT := tt_in (i := 528) (by decide +kernel) rfl
theorem tt_529 : Cond.code yX5_check cX5_check 1 (some .int) ∈ TT := tt_in (i := 529) (by decide +kernel) rfl
theorem nn_530 : Cond.methodLinkNest RX5 229 yX3_firstWrong "WallDesk" ∈ NT := nt_in (i := 530) (by decide +kernel) rfl
theorem tt_532 : Cond.instanceMethod yX3_firstWrong ∈ TT := tt_in (i := 532) (by decide +kernel) rfl
theorem tt_533 : Cond.code yX3_firstWrong cX3_firstWrong 2 (some .int) ∈ TT := tt_in (i := 533) (by decide +kernel) rfl
theorem tt_534 : Cond.methodLink RL 110 yX5_count ∈ TT := tt_in (i := 534) (by decide +kernel) rfl
theorem tt_535 : Cond.instanceMethod yX5_count ∈ TT := tt_in (i := 535) (by decide +kernel) rfl
theorem tt_536 : Cond.selects RX5 yX5_count yX5_count ∈ TT := tt_in (i := 536) (by decide +kernel) rfl
theorem tt_537 : Cond.code yX5_count cX5_count 2 (some .int) ∈ TT := tt_in (i := 537) (by decide +kernel) rfl
theorem tt_538 : Cond.classLink RL 10 RX6 ∈ TT := tt_in (i := 538) (by decide +kernel) rfl
theorem tt_539 : Cond.instantiable RX6 27 ∈ TT := tt_in (i := 539) (by decide +kernel) rfl
theorem tt_540 : Cond.methodLink RL 12 yX6_init ∈ TT := tt_in (i := 540) (by decide +kernel) rfl
theorem tt_541 : Cond.instanceMethod yX6_init ∈ TT := tt_in (i := 541) (by decide +kernel) rfl
theorem tt_542 : Cond.code yX6_init cX6_init 1 none ∈ TT := tt_in (i := 542) (by decide +kernel) rfl
theorem tt_543 : Cond.methodLink RX6 1 objectInit ∈ TT := tt_in (i := 543) (by decide +kernel) rfl
theorem tt_544 : Cond.fieldLink RX6 72 (TX6 0).1 (TX6 0).2.1 (TX6 0).2.2.1 ∈ TT := tt_in (i := 544) (by decide +kernel) rfl
theorem tt_545 : Cond.fieldLink RX6 7 (TX6 1).1 (TX6 1).2.1 (TX6 1).2.2.1 ∈ TT := tt_in (i := 545) (by decide +kernel) rfl
theorem tt_546 : Cond.fieldLink RX6 13 (TX6 2).1 (TX6 2).2.1 (TX6 2).2.2.1 ∈ TT := tt_in (i := 546) (by decide +kernel) rfl
theorem tt_547 : Cond.fieldLink RX6 16 (TX6 3).1 (TX6 3).2.1 (TX6 3).2.2.1 ∈ TT := tt_in (i := 547) (by decide +kernel) rfl
theorem tt_548 : Cond.fieldLink RX6 19 (TX6 4).1 (TX6 4).2.1 (TX6 4).2.2.1 ∈ TT := tt_in (i := 548) (by decide +kernel) rfl
theorem tt_549 : Cond.fieldLink RX6 85 (TX6 5).1 (TX6 5).2.1 (TX6 5).2.2.1 ∈ TT := tt_in (i := 549) (by decide +kernel) rfl
theorem tt_550 : Cond.fieldLink RX6 22 (TX6 6).1 (TX6 6).2.1 (TX6 6).2.2.1 ∈ TT := tt_in (i := 550) (by decide +kernel) rfl
theorem tt_551 : Cond.fieldLink RX6 88 (TX6 7).1 (TX6 7).2.1 (TX6 7).2.2.1 ∈ TT := tt_in (i := 551) (by decide +kernel) rfl
theorem tt_552 : Cond.fieldLink RX6 25 (TX6 8).1 (TX6 8).2.1 (TX6 8).2.2.1 ∈ TT := tt_in (i := 552) (by decide +kernel) rfl
theorem tt_553 : Cond.fieldLink RX6 28 (TX6 9).1 (TX6 9).2.1 (TX6 9).2.2.1 ∈ TT := tt_in (i := 553) (by decide +kernel) rfl
theorem tt_554 : Cond.fieldLink RX6 31 (TX6 10).1 (TX6 10).2.1 (TX6 10).2.2.1 ∈ TT := tt_in (i := 554) (by decide +kernel) rfl
theorem tt_555 : Cond.fieldLink RX6 34 (TX6 11).1 (TX6 11).2.1 (TX6 11).2.2.1 ∈ TT := tt_in (i := 555) (by decide +kernel) rfl
theorem tt_556 : Cond.fieldLink RX6 111 (TX6 12).1 (TX6 12).2.1 (TX6 12).2.2.1 ∈ TT := tt_in (i := 556) (by decide +kernel) rfl
theorem tt_557 : Cond.fieldLink RX6 38 (TX6 13).1 (TX6 13).2.1 (TX6 13).2.2.1 ∈ TT := tt_in (i := 557) (by decide +kernel) rfl
theorem tt_558 : Cond.fieldLink RX6 41 (TX6 14).1 (TX6 14).2.1 (TX6 14).2.2.1 ∈ TT := tt_in (i := 558) (by decide +kernel) rfl
theorem tt_559 : Cond.fieldLink RX6 44 (TX6 15).1 (TX6 15).2.1 (TX6 15).2.2.1 ∈ TT := tt_in (i := 559) (by decide +kernel) rfl
theorem tt_560 : Cond.fieldLink RX6 47 (TX6 16).1 (TX6 16).2.1 (TX6 16).2.2.1 ∈ TT := tt_in (i := 560) (by decide +kernel) rfl
theorem tt_561 : Cond.fieldLink RX6 50 (TX6 17).1 (TX6 17).2.1 (TX6 17).2.2.1 ∈ TT := tt_in (i := 561) (by decide +kernel) rfl
theorem tt_562 : Cond.fieldLink RX6 53 (TX6 18).1 (TX6 18).2.1 (TX6 18).2.2.1 ∈ TT := tt_in (i := 562) (by decide +kernel) rfl
theorem tt_563 : Cond.fieldLink RX6 142 (TX6 19).1 (TX6 19).2.1 (TX6 19).2.2.1 ∈ TT := tt_in (i := 563) (by decide +kernel) rfl
theorem tt_564 : Cond.fieldLink RX6 56 (TX6 20).1 (TX6 20).2.1 (TX6 20).2.2.1 ∈ TT := tt_in (i := 564) (by decide +kernel) rfl
theorem tt_565 : Cond.fieldLink RX6 59 (TX6 21).1 (TX6 21).2.1 (TX6 21).2.2.1 ∈ TT := tt_in (i := 565) (by decide +kernel) rfl
theorem tt_566 : Cond.fieldLink RX6 145 (TX6 22).1 (TX6 22).2.1 (TX6 22).2.2.1 ∈ TT := tt_in (i := 566) (by decide +kernel) rfl
theorem tt_567 : Cond.fieldLink RX6 62 (TX6 23).1 (TX6 23).2.1 (TX6 23).2.2.1 ∈ TT := tt_in (i := 567) (by decide +kernel) rfl
theorem tt_568 : Cond.fieldLink RX6 65 (TX6 24).1 (TX6 24).2.1 (TX6 24).2.2.1 ∈ TT := tt_in (i := 568) (by decide +kernel) rfl
theorem tt_569 : Cond.fieldLink RX6 101 (TX6 25).1 (TX6 25).2.1 (TX6 25).2.2.1 ∈ TT := tt_in (i := 569) (by decide +kernel) rfl
theorem tt_570 : Cond.fieldLink RX6 69 (TX6 26).1 (TX6 26).2.1 (TX6 26).2.2.1 ∈ TT := tt_in (i := 570) (by decide +kernel) rfl
theorem tt_626 : Cond.methodLink RL 17 yX6_tick ∈ TT := tt_in (i := 626) (by decide +kernel) rfl
theorem tt_627 : Cond.instanceMethod yX6_tick ∈ TT := tt_in (i := 627) (by decide +kernel) rfl
theorem tt_628 : Cond.selects RX6 yX6_tick yX6_tick ∈ TT := tt_in (i := 628) (by decide +kernel) rfl
theorem tt_629 : Cond.code yX6_tick cX6_tick 2 (some .int) ∈ TT := tt_in (i := 629) (by decide +kernel) rfl
theorem tt_630 : Cond.methodLink RX6 76 yX6_isIn ∈ TT := tt_in (i := 630) (by decide +kernel) rfl
theorem tt_631 : Cond.static yX6_isIn ∈ TT := tt_in (i := 631) (by decide +kernel) rfl
theorem tt_632 : Cond.code yX6_isIn cX6_isIn 3 (some .boolean) ∈ TT := tt_in (i := 632) (by decide +kernel) rfl
theorem tt_633 : Cond.constant RX6 80 (100000) ∈ TT := tt_in (i := 633) (by decide +kernel) rfl
theorem tt_634 : Cond.methodLink RL 22 yX6_roles ∈ TT := tt_in (i := 634) (by decide +kernel) rfl
theorem tt_635 : Cond.instanceMethod yX6_roles ∈ TT := tt_in (i := 635) (by decide +kernel) rfl
theorem tt_636 : Cond.selects RX6 yX6_roles yX6_roles ∈ TT := tt_in (i := 636) (by decide +kernel) rfl
theorem tt_637 : Cond.code yX6_roles cX6_roles 4 (some .int) ∈ TT := tt_in (i := 637) (by decide +kernel) rfl
theorem tt_638 : Cond.methodLink RX6 81 yX6_isUser ∈ TT := tt_in (i := 638) (by decide +kernel) rfl
theorem tt_639 : Cond.static yX6_isUser ∈ TT := tt_in (i := 639) (by decide +kernel) rfl
theorem tt_640 : Cond.code yX6_isUser cX6_isUser 1 (some .boolean) ∈ TT := tt_in (i := 640) (by decide +kernel) rfl
theorem tt_641 : Cond.methodLink RL 26 yX6_firm ∈ TT := tt_in (i := 641) (by decide +kernel) rfl
theorem tt_642 : Cond.instanceMethod yX6_firm ∈ TT := tt_in (i := 642) (by decide +kernel) rfl
theorem tt_643 : Cond.selects RX6 yX6_firm yX6_firm ∈ TT := tt_in (i := 643) (by decide +kernel) rfl
theorem tt_644 : Cond.code yX6_firm cX6_firm 2 (some .int) ∈ TT := tt_in (i := 644) (by decide +kernel) rfl
theorem tt_645 : Cond.methodLink RL 30 yX6_object ∈ TT := tt_in (i := 645) (by decide +kernel) rfl
theorem tt_646 : Cond.instanceMethod yX6_object ∈ TT := tt_in (i := 646) (by decide +kernel) rfl
theorem tt_647 : Cond.selects RX6 yX6_object yX6_object ∈ TT := tt_in (i := 647) (by decide +kernel) rfl
theorem tt_648 : Cond.code yX6_object cX6_object 2 (some .int) ∈ TT := tt_in (i := 648) (by decide +kernel) rfl
theorem tt_649 : Cond.methodLink RL 34 yX6_read ∈ TT := tt_in (i := 649) (by decide +kernel) rfl
theorem tt_650 : Cond.instanceMethod yX6_read ∈ TT := tt_in (i := 650) (by decide +kernel) rfl
theorem tt_651 : Cond.selects RX6 yX6_read yX6_read ∈ TT := tt_in (i := 651) (by decide +kernel) rfl
theorem tt_652 : Cond.code yX6_read cX6_read 3 (some .int) ∈ TT := tt_in (i := 652) (by decide +kernel) rfl
theorem tt_653 : Cond.methodLink RX6 114 yX6_access ∈ TT := tt_in (i := 653) (by decide +kernel) rfl
theorem tt_655 : Cond.instanceMethod yX6_access ∈ TT := tt_in (i := 655) (by decide +kernel) rfl
theorem tt_656 : Cond.code yX6_access cX6_access 9 (some .int) ∈ TT := tt_in (i := 656) (by decide +kernel) rfl
theorem tt_657 : Cond.methodLink RX6 118 yX6_isWalled ∈ TT := tt_in (i := 657) (by decide +kernel) rfl
theorem tt_659 : Cond.instanceMethod yX6_isWalled ∈ TT := tt_in (i := 659) (by decide +kernel) rfl
theorem tt_660 : Cond.code yX6_isWalled cX6_isWalled 4 (some .boolean) ∈ TT := tt_in (i := 660) (by decide +kernel) rfl
theorem tt_661 : Cond.methodLink RX6 108 yX6_isOpen ∈ TT := tt_in (i := 661) (by decide +kernel) rfl
theorem tt_663 : Cond.instanceMethod yX6_isOpen ∈ TT := tt_in (i := 663) (by decide +kernel) rfl
theorem tt_664 : Cond.code yX6_isOpen cX6_isOpen 2 (some .boolean) ∈ TT := tt_in (i := 664) (by decide +kernel) rfl
theorem tt_665 : Cond.methodLink RX6 122 yX6_hasGlass ∈ TT := tt_in (i := 665) (by decide +kernel) rfl
theorem tt_667 : Cond.instanceMethod yX6_hasGlass ∈ TT := tt_in (i := 667) (by decide +kernel) rfl
theorem tt_668 : Cond.code yX6_hasGlass cX6_hasGlass 4 (some .boolean) ∈ TT := tt_in (i := 668) (by decide +kernel) rfl
theorem tt_669 : Cond.methodLink RX6 125 yX6_enter ∈ TT := tt_in (i := 669) (by decide +kernel) rfl
theorem tt_671 : Cond.instanceMethod yX6_enter ∈ TT := tt_in (i := 671) (by decide +kernel) rfl
theorem tt_672 : Cond.code yX6_enter cX6_enter 6 none ∈ TT := tt_in (i := 672) (by decide +kernel) rfl
theorem tt_673 : Cond.methodLink RX6 104 yX6_linkAt ∈ TT := tt_in (i := 673) (by decide +kernel) rfl
theorem tt_675 : Cond.instanceMethod yX6_linkAt ∈ TT := tt_in (i := 675) (by decide +kernel) rfl
theorem tt_676 : Cond.code yX6_linkAt cX6_linkAt 3 (some .long) ∈ TT := tt_in (i := 676) (by decide +kernel) rfl
theorem tt_677 : Cond.methodLink RX6 97 yX6_linkOf ∈ TT := tt_in (i := 677) (by decide +kernel) rfl
theorem tt_678 : Cond.static yX6_linkOf ∈ TT := tt_in (i := 678) (by decide +kernel) rfl
theorem tt_679 : Cond.code yX6_linkOf cX6_linkOf 10 (some .long) ∈ TT := tt_in (i := 679) (by decide +kernel) rfl
theorem tt_680 : Cond.constantLong RX6 91 (-7046029254386353131) ∈ TT := tt_in (i := 680) (by decide +kernel) rfl
theorem tt_681 : Cond.constantLong RX6 93 (-4658895280553007687) ∈ TT := tt_in (i := 681) (by decide +kernel) rfl
theorem tt_682 : Cond.constantLong RX6 95 (-7723592293110705685) ∈ TT := tt_in (i := 682) (by decide +kernel) rfl
theorem tt_683 : Cond.methodLink RL 38 yX6_write ∈ TT := tt_in (i := 683) (by decide +kernel) rfl
theorem tt_684 : Cond.instanceMethod yX6_write ∈ TT := tt_in (i := 684) (by decide +kernel) rfl
theorem tt_685 : Cond.selects RX6 yX6_write yX6_write ∈ TT := tt_in (i := 685) (by decide +kernel) rfl
theorem tt_686 : Cond.code yX6_write cX6_write 3 (some .int) ∈ TT := tt_in (i := 686) (by decide +kernel) rfl
theorem tt_687 : Cond.methodLink RL 43 yX6_glass ∈ TT := tt_in (i := 687) (by decide +kernel) rfl
theorem tt_688 : Cond.instanceMethod yX6_glass ∈ TT := tt_in (i := 688) (by decide +kernel) rfl
theorem tt_689 : Cond.selects RX6 yX6_glass yX6_glass ∈ TT := tt_in (i := 689) (by decide +kernel) rfl
theorem tt_690 : Cond.code yX6_glass cX6_glass 4 (some .int) ∈ TT := tt_in (i := 690) (by decide +kernel) rfl
theorem tt_691 : Cond.methodLink RX6 129 yX6_duties ∈ TT := tt_in (i := 691) (by decide +kernel) rfl
theorem tt_693 : Cond.instanceMethod yX6_duties ∈ TT := tt_in (i := 693) (by decide +kernel) rfl
theorem tt_694 : Cond.code yX6_duties cX6_duties 4 (some .int) ∈ TT := tt_in (i := 694) (by decide +kernel) rfl
theorem tt_695 : Cond.methodLink RX6 133 yX6_isLate ∈ TT := tt_in (i := 695) (by decide +kernel) rfl
theorem tt_697 : Cond.instanceMethod yX6_isLate ∈ TT := tt_in (i := 697) (by decide +kernel) rfl
theorem tt_698 : Cond.code yX6_isLate cX6_isLate 3 (some .boolean) ∈ TT := tt_in (i := 698) (by decide +kernel) rfl
theorem tt_699 : Cond.methodLink RL 47 yX6_takeOff ∈ TT := tt_in (i := 699) (by decide +kernel) rfl
theorem tt_700 : Cond.instanceMethod yX6_takeOff ∈ TT := tt_in (i := 700) (by decide +kernel) rfl
theorem tt_701 : Cond.selects RX6 yX6_takeOff yX6_takeOff ∈ TT := tt_in (i := 701) (by decide +kernel) rfl
theorem tt_702 : Cond.code yX6_takeOff cX6_takeOff 3 (some .int) ∈ TT := tt_in (i := 702) (by decide +kernel) rfl
theorem tt_703 : Cond.methodLink RX6 136 Lib.Math.max.name ∈ TT := tt_in (i := 703) (by decide +kernel) rfl
theorem tt_704 : Cond.methodLink RL 52 yX6_kind ∈ TT := tt_in (i := 704) (by decide +kernel) rfl
theorem tt_705 : Cond.instanceMethod yX6_kind ∈ TT := tt_in (i := 705) (by decide +kernel) rfl
theorem tt_706 : Cond.selects RX6 yX6_kind yX6_kind ∈ TT := tt_in (i := 706) (by decide +kernel) rfl
theorem tt_707 : Cond.code yX6_kind cX6_kind 1 (some .int) ∈ TT := tt_in (i := 707) (by decide +kernel) rfl
theorem tt_708 : Cond.methodLink RL 56 yX6_task ∈ TT := tt_in (i := 708) (by decide +kernel) rfl
theorem tt_709 : Cond.instanceMethod yX6_task ∈ TT := tt_in (i := 709) (by decide +kernel) rfl
theorem tt_710 : Cond.selects RX6 yX6_task yX6_task ∈ TT := tt_in (i := 710) (by decide +kernel) rfl
theorem tt_711 : Cond.code yX6_task cX6_task 5 (some .int) ∈ TT := tt_in (i := 711) (by decide +kernel) rfl
theorem tt_712 : Cond.methodLink RX6 148 yX6_isFree ∈ TT := tt_in (i := 712) (by decide +kernel) rfl
theorem tt_714 : Cond.instanceMethod yX6_isFree ∈ TT := tt_in (i := 714) (by decide +kernel) rfl
theorem tt_715 : Cond.code yX6_isFree cX6_isFree 4 (some .boolean) ∈ TT := tt_in (i := 715) (by decide +kernel) rfl
theorem tt_716 : Cond.methodLink RL 60 yX6_apart ∈ TT := tt_in (i := 716) (by decide +kernel) rfl
theorem tt_717 : Cond.instanceMethod yX6_apart ∈ TT := tt_in (i := 717) (by decide +kernel) rfl
theorem tt_718 : Cond.selects RX6 yX6_apart yX6_apart ∈ TT := tt_in (i := 718) (by decide +kernel) rfl
theorem tt_719 : Cond.code yX6_apart cX6_apart 5 (some .int) ∈ TT := tt_in (i := 719) (by decide +kernel) rfl
theorem tt_720 : Cond.methodLink RX6 154 yX6_arePair ∈ TT := tt_in (i := 720) (by decide +kernel) rfl
theorem tt_722 : Cond.instanceMethod yX6_arePair ∈ TT := tt_in (i := 722) (by decide +kernel) rfl
theorem tt_723 : Cond.code yX6_arePair cX6_arePair 4 (some .boolean) ∈ TT := tt_in (i := 723) (by decide +kernel) rfl
theorem tt_724 : Cond.methodLink RX6 157 yX6_pair ∈ TT := tt_in (i := 724) (by decide +kernel) rfl
theorem tt_725 : Cond.static yX6_pair ∈ TT := tt_in (i := 725) (by decide +kernel) rfl
theorem tt_726 : Cond.code yX6_pair cX6_pair 3 (some .int) ∈ TT := tt_in (i := 726) (by decide +kernel) rfl
theorem tt_727 : Cond.methodLink RX6 151 Lib.Math.min.name ∈ TT := tt_in (i := 727) (by decide +kernel) rfl
theorem tt_728 : Cond.static Lib.Math.min.name ∈ TT := tt_in (i := 728) (by decide +kernel) rfl
theorem tt_729 : Cond.code Lib.Math.min.name Lib.Math.min.code 2 (some .int) ∈ TT := tt_in (i := 729) (by decide +kernel) rfl
theorem tt_730 : Cond.methodLink RL 64 yX6_bound ∈ TT := tt_in (i := 730) (by decide +kernel) rfl
theorem tt_731 : Cond.instanceMethod yX6_bound ∈ TT := tt_in (i := 731) (by decide +kernel) rfl
theorem tt_732 : Cond.selects RX6 yX6_bound yX6_bound ∈ TT := tt_in (i := 732) (by decide +kernel) rfl
theorem tt_733 : Cond.code yX6_bound cX6_bound 5 (some .int) ∈ TT := tt_in (i := 733) (by decide +kernel) rfl
theorem tt_734 : Cond.methodLink RL 68 yX6_most ∈ TT := tt_in (i := 734) (by decide +kernel) rfl
theorem tt_735 : Cond.instanceMethod yX6_most ∈ TT := tt_in (i := 735) (by decide +kernel) rfl
theorem tt_736 : Cond.selects RX6 yX6_most yX6_most ∈ TT := tt_in (i := 736) (by decide +kernel) rfl
theorem tt_737 : Cond.code yX6_most cX6_most 4 (some .int) ∈ TT := tt_in (i := 737) (by decide +kernel) rfl
theorem tt_738 : Cond.methodLink RL 72 yX6_open ∈ TT := tt_in (i := 738) (by decide +kernel) rfl
theorem tt_739 : Cond.instanceMethod yX6_open ∈ TT := tt_in (i := 739) (by decide +kernel) rfl
theorem tt_740 : Cond.selects RX6 yX6_open yX6_open ∈ TT := tt_in (i := 740) (by decide +kernel) rfl
theorem tt_741 : Cond.code yX6_open cX6_open 3 (some .int) ∈ TT := tt_in (i := 741) (by decide +kernel) rfl
theorem tt_742 : Cond.methodLink RL 80 yX6_canEnd ∈ TT := tt_in (i := 742) (by decide +kernel) rfl
theorem tt_743 : Cond.instanceMethod yX6_canEnd ∈ TT := tt_in (i := 743) (by decide +kernel) rfl
theorem tt_744 : Cond.selects RX6 yX6_canEnd yX6_canEnd ∈ TT := tt_in (i := 744) (by decide +kernel) rfl
theorem tt_745 : Cond.code yX6_canEnd cX6_canEnd 2 (some .int) ∈ TT := tt_in (i := 745) (by decide +kernel) rfl
theorem tt_746 : Cond.methodLink RX6 163 yX6_canBe ∈ TT := tt_in (i := 746) (by decide +kernel) rfl
theorem tt_748 : Cond.instanceMethod yX6_canBe ∈ TT := tt_in (i := 748) (by decide +kernel) rfl
theorem tt_749 : Cond.code yX6_canBe cX6_canBe 7 (some .boolean) ∈ TT := tt_in (i := 749) (by decide +kernel) rfl
theorem tt_750 : Cond.methodLink RX6 160 yX6_isFit ∈ TT := tt_in (i := 750) (by decide +kernel) rfl
theorem tt_752 : Cond.instanceMethod yX6_isFit ∈ TT := tt_in (i := 752) (by decide +kernel) rfl
theorem tt_753 : Cond.code yX6_isFit cX6_isFit 5 (some .boolean) ∈ TT := tt_in (i := 753) (by decide +kernel) rfl
theorem tt_754 : Cond.methodLink RL 84 yX6_doer ∈ TT := tt_in (i := 754) (by decide +kernel) rfl
theorem tt_755 : Cond.instanceMethod yX6_doer ∈ TT := tt_in (i := 755) (by decide +kernel) rfl
theorem tt_756 : Cond.selects RX6 yX6_doer yX6_doer ∈ TT := tt_in (i := 756) (by decide +kernel) rfl
theorem tt_757 : Cond.code yX6_doer cX6_doer 3 (some .int) ∈ TT := tt_in (i := 757) (by decide +kernel) rfl
theorem tt_758 : Cond.methodLink RX6 166 yX6_isTask ∈ TT := tt_in (i := 758) (by decide +kernel) rfl
theorem tt_760 : Cond.instanceMethod yX6_isTask ∈ TT := tt_in (i := 760) (by decide +kernel) rfl
theorem tt_761 : Cond.code yX6_isTask cX6_isTask 3 (some .boolean) ∈ TT := tt_in (i := 761) (by decide +kernel) rfl
theorem tt_762 : Cond.methodLink RL 76 yX6_perform ∈ TT := tt_in (i := 762) (by decide +kernel) rfl
theorem tt_763 : Cond.instanceMethod yX6_perform ∈ TT := tt_in (i := 763) (by decide +kernel) rfl
theorem tt_764 : Cond.selects RX6 yX6_perform yX6_perform ∈ TT := tt_in (i := 764) (by decide +kernel) rfl
theorem tt_765 : Cond.code yX6_perform cX6_perform 14 (some .int) ∈ TT := tt_in (i := 765) (by decide +kernel) rfl
theorem tt_766 : Cond.methodLink RL 88 yX6_told ∈ TT := tt_in (i := 766) (by decide +kernel) rfl
theorem tt_767 : Cond.instanceMethod yX6_told ∈ TT := tt_in (i := 767) (by decide +kernel) rfl
theorem tt_768 : Cond.selects RX6 yX6_told yX6_told ∈ TT := tt_in (i := 768) (by decide +kernel) rfl
theorem tt_769 : Cond.code yX6_told cX6_told 3 (some .int) ∈ TT := tt_in (i := 769) (by decide +kernel) rfl
theorem tt_770 : Cond.methodLink RL 92 yX6_glassTold ∈ TT := tt_in (i := 770) (by decide +kernel) rfl
theorem tt_771 : Cond.instanceMethod yX6_glassTold ∈ TT := tt_in (i := 771) (by decide +kernel) rfl
theorem tt_772 : Cond.selects RX6 yX6_glassTold yX6_glassTold ∈ TT := tt_in (i := 772) (by decide +kernel) rfl
theorem tt_773 : Cond.code yX6_glassTold cX6_glassTold 3 (some .int) ∈ TT := tt_in (i := 773) (by decide +kernel) rfl
theorem tt_774 : Cond.methodLink RL 96 yX6_entry ∈ TT := tt_in (i := 774) (by decide +kernel) rfl
theorem tt_775 : Cond.instanceMethod yX6_entry ∈ TT := tt_in (i := 775) (by decide +kernel) rfl
theorem tt_776 : Cond.selects RX6 yX6_entry yX6_entry ∈ TT := tt_in (i := 776) (by decide +kernel) rfl
theorem tt_777 : Cond.code yX6_entry cX6_entry 3 (some .int) ∈ TT := tt_in (i := 777) (by decide +kernel) rfl
theorem tt_778 : Cond.methodLink RL 101 yX6_link ∈ TT := tt_in (i := 778) (by decide +kernel) rfl
theorem tt_779 : Cond.instanceMethod yX6_link ∈ TT := tt_in (i := 779) (by decide +kernel) rfl
theorem tt_780 : Cond.selects RX6 yX6_link yX6_link ∈ TT := tt_in (i := 780) (by decide +kernel) rfl
theorem tt_781 : Cond.code yX6_link cX6_link 2 (some .long) ∈ TT := tt_in (i := 781) (by decide +kernel) rfl
theorem tt_782 : Cond.methodLink RL 105 yX6_alter ∈ TT := tt_in (i := 782) (by decide +kernel) rfl
theorem tt_783 : Cond.instanceMethod yX6_alter ∈ TT := tt_in (i := 783) (by decide +kernel) rfl
theorem tt_784 : Cond.selects RX6 yX6_alter yX6_alter ∈ TT := tt_in (i := 784) (by decide +kernel) rfl
theorem tt_785 : Cond.code yX6_alter cX6_alter 5 (some .int) ∈ TT := tt_in (i := 785) (by decide +kernel) rfl
theorem tt_786 : Cond.methodLink RL 109 yX6_check ∈ TT := tt_in (i := 786) (by decide +kernel) rfl
theorem tt_787 : Cond.instanceMethod yX6_check ∈ TT := tt_in (i := 787) (by decide +kernel) rfl
theorem tt_788 : Cond.selects RX6 yX6_check yX6_check ∈ TT := tt_in (i := 788) (by decide +kernel) rfl
theorem tt_789 : Cond.code yX6_check cX6_check 2 (some .int) ∈ TT := tt_in (i := 789) (by decide +kernel) rfl
theorem tt_790 : Cond.methodLink RL 113 yX6_count ∈ TT := tt_in (i := 790) (by decide +kernel) rfl
theorem tt_791 : Cond.instanceMethod yX6_count ∈ TT := tt_in (i := 791) (by decide +kernel) rfl
theorem tt_792 : Cond.selects RX6 yX6_count yX6_count ∈ TT := tt_in (i := 792) (by decide +kernel) rfl
theorem tt_793 : Cond.code yX6_count cX6_count 2 (some .int) ∈ TT := tt_in (i := 793) (by decide +kernel) rfl
theorem inX0 : ∀ w ∈ u_ws RX0 TX0 2, w ∈ TT := tt_all (by decide +kernel) (by decide +kernel)
theorem inX1 : ∀ w ∈ u_ws RX1 TX1 5, w ∈ TT := tt_all (by decide +kernel) (by decide +kernel)
theorem inX2 : ∀ w ∈ u_ws RX2 TX2 7, w ∈ TT := tt_all (by decide +kernel) (by decide +kernel)
theorem inX3 : ∀ w ∈ u_ws RX3 TX3 3, w ∈ TT := tt_all (by decide +kernel) (by decide +kernel)
theorem inX4 : ∀ w ∈ u_ws RX4 TX4 7, w ∈ TT := tt_all (by decide +kernel) (by decide +kernel)
theorem inX5 : ∀ w ∈ u_ws RX5 TX5 9, w ∈ TT := tt_all (by decide +kernel) (by decide +kernel)
theorem inX6 : ∀ w ∈ u_ws RX6 TX6 27, w ∈ TT := tt_all (by decide +kernel) (by decide +kernel)
/-- what a call needs of the tables about its callee -/
def MTd (y : MethodName) (cc : ByteArray) (n : Nat) (ret : Option FieldType) (na : Nat) : Prop := Cond.code y cc n ret ∈ TT ∧ Cond.initialized y.cls ∈ TT ∧ (y.cls ≠ "java/lang/invoke/MethodHandle" ∧ y.cls ≠ "java/lang/invoke/VarHandle") ∧ (parseMethodDescriptor y.desc).map (fun d => d.parameters.length) = some na
def MTv (y : MethodName) (cc : ByteArray) (n : Nat) (ret : Option FieldType) (na : Nat) : Prop := MTd y cc n ret na ∧ Cond.instanceMethod y ∈ TT ∧ Cond.selects y.cls y y ∈ TT
def MTs (y : MethodName) (cc : ByteArray) (n : Nat) (ret : Option FieldType) (na : Nat) : Prop := MTd y cc n ret na ∧ Cond.static y ∈ TT
def MTi (y : MethodName) (cc : ByteArray) (n : Nat) (ret : Option FieldType) (na : Nat) : Prop := MTd y cc n ret na ∧ y.name = "<init>" ∧ Cond.instanceMethod y ∈ TT
theorem mt_X0_init : MTi yX0_init cX0_init 2 none 1 := ⟨⟨tt_416, tt_60, ⟨by decide +kernel, by decide +kernel⟩, by decide +kernel⟩, rfl, tt_415⟩
theorem mt_X0_bitsDoneBy : MTv yX0_bitsDoneBy cX0_bitsDoneBy 4 (some .int) 1 := ⟨⟨tt_448, tt_60, ⟨by decide +kernel, by decide +kernel⟩, by decide +kernel⟩, tt_447, tt_30⟩
theorem mt_X0_leftBits : MTv yX0_leftBits cX0_leftBits 1 (some .int) 0 := ⟨⟨tt_444, tt_60, ⟨by decide +kernel, by decide +kernel⟩, by decide +kernel⟩, tt_443, tt_29⟩
theorem mt_X0_verdict : MTv yX0_verdict cX0_verdict 6 (some .int) 3 := ⟨⟨tt_439, tt_60, ⟨by decide +kernel, by decide +kernel⟩, by decide +kernel⟩, tt_438, tt_28⟩
theorem mt_X0_wouldStick : MTv yX0_wouldStick cX0_wouldStick 5 (some .boolean) 3 := ⟨⟨tt_459, tt_60, ⟨by decide +kernel, by decide +kernel⟩, by decide +kernel⟩, tt_458, tt_31⟩
theorem mt_X0_couldEnd : MTv yX0_couldEnd cX0_couldEnd 7 (some .boolean) 1 := ⟨⟨tt_463, tt_60, ⟨by decide +kernel, by decide +kernel⟩, by decide +kernel⟩, tt_462, tt_32⟩
theorem mt_X0_sharedWith : MTv yX0_sharedWith cX0_sharedWith 8 (some .long) 3 := ⟨⟨tt_472, tt_60, ⟨by decide +kernel, by decide +kernel⟩, by decide +kernel⟩, tt_471, tt_34⟩
theorem mt_X0_setsWithoutAnyOf : MTs yX0_setsWithoutAnyOf cX0_setsWithoutAnyOf 4 (some .long) 1 := ⟨⟨tt_480, tt_60, ⟨by decide +kernel, by decide +kernel⟩, by decide +kernel⟩, tt_479⟩
theorem mt_X1_init : MTi yX1_init cX1_init 1 none 0 := ⟨⟨tt_108, tt_55, ⟨by decide +kernel, by decide +kernel⟩, by decide +kernel⟩, rfl, tt_107⟩
theorem mt_X1_has : MTv yX1_has cX1_has 2 (some .boolean) 1 := ⟨⟨tt_317, tt_55, ⟨by decide +kernel, by decide +kernel⟩, by decide +kernel⟩, tt_316, tt_20⟩
theorem mt_X1_isFull : MTv yX1_isFull cX1_isFull 1 (some .boolean) 0 := ⟨⟨tt_305, tt_55, ⟨by decide +kernel, by decide +kernel⟩, by decide +kernel⟩, tt_304, tt_18⟩
theorem mt_X1_addGlass : MTv yX1_addGlass cX1_addGlass 4 (some .int) 3 := ⟨⟨tt_309, tt_55, ⟨by decide +kernel, by decide +kernel⟩, by decide +kernel⟩, tt_308, tt_19⟩
theorem mt_X1_runs : MTv yX1_runs cX1_runs 3 (some .boolean) 2 := ⟨⟨tt_254, tt_55, ⟨by decide +kernel, by decide +kernel⟩, by decide +kernel⟩, tt_253, tt_9⟩
theorem mt_X1_due : MTv yX1_due cX1_due 2 (some .int) 1 := ⟨⟨tt_301, tt_55, ⟨by decide +kernel, by decide +kernel⟩, by decide +kernel⟩, tt_300, tt_17⟩
theorem mt_X1_anyRuns : MTv yX1_anyRuns cX1_anyRuns 5 (some .boolean) 3 := ⟨⟨tt_250, tt_55, ⟨by decide +kernel, by decide +kernel⟩, by decide +kernel⟩, tt_249, tt_8⟩
theorem mt_X1_openDuties : MTv yX1_openDuties cX1_openDuties 4 (some .int) 1 := ⟨⟨tt_293, tt_55, ⟨by decide +kernel, by decide +kernel⟩, by decide +kernel⟩, tt_292, tt_15⟩
theorem mt_X1_anyDue : MTv yX1_anyDue cX1_anyDue 4 (some .boolean) 2 := ⟨⟨tt_297, tt_55, ⟨by decide +kernel, by decide +kernel⟩, by decide +kernel⟩, tt_296, tt_16⟩
theorem mt_X2_init : MTi yX2_init cX2_init 1 none 0 := ⟨⟨tt_331, tt_59, ⟨by decide +kernel, by decide +kernel⟩, by decide +kernel⟩, rfl, tt_330⟩
theorem mt_X2_hasTask : MTv yX2_hasTask cX2_hasTask 2 (some .boolean) 1 := ⟨⟨tt_396, tt_59, ⟨by decide +kernel, by decide +kernel⟩, by decide +kernel⟩, tt_395, tt_26⟩
theorem mt_X2_arePair : MTv yX2_arePair cX2_arePair 3 (some .boolean) 2 := ⟨⟨tt_392, tt_59, ⟨by decide +kernel, by decide +kernel⟩, by decide +kernel⟩, tt_391, tt_25⟩
theorem mt_X2_taskBits : MTv yX2_taskBits cX2_taskBits 1 (some .int) 0 := ⟨⟨tt_380, tt_59, ⟨by decide +kernel, by decide +kernel⟩, by decide +kernel⟩, tt_379, tt_23⟩
theorem mt_X2_addTask : MTv yX2_addTask cX2_addTask 3 (some .int) 2 := ⟨⟨tt_384, tt_59, ⟨by decide +kernel, by decide +kernel⟩, by decide +kernel⟩, tt_383, tt_24⟩
theorem mt_X2_tasksWithin : MTv yX2_tasksWithin cX2_tasksWithin 4 (some .int) 1 := ⟨⟨tt_467, tt_59, ⟨by decide +kernel, by decide +kernel⟩, by decide +kernel⟩, tt_466, tt_33⟩
theorem mt_X2_allows : MTv yX2_allows cX2_allows 3 (some .boolean) 1 := ⟨⟨tt_476, tt_59, ⟨by decide +kernel, by decide +kernel⟩, by decide +kernel⟩, tt_475, tt_35⟩
theorem mt_X3_init : MTi yX3_init cX3_init 1 none 0 := ⟨⟨tt_140, tt_56, ⟨by decide +kernel, by decide +kernel⟩, by decide +kernel⟩, rfl, tt_139⟩
theorem mt_X3_isFull : MTv yX3_isFull cX3_isFull 1 (some .boolean) 0 := ⟨⟨tt_258, tt_56, ⟨by decide +kernel, by decide +kernel⟩, by decide +kernel⟩, tt_257, tt_10⟩
theorem mt_X3_hasEntry : MTv yX3_hasEntry cX3_hasEntry 2 (some .boolean) 1 := ⟨⟨tt_515, tt_56, ⟨by decide +kernel, by decide +kernel⟩, by decide +kernel⟩, tt_514, tt_37⟩
theorem mt_X3_hasCell : MTv yX3_hasCell cX3_hasCell 3 (some .boolean) 2 := ⟨⟨tt_511, tt_56, ⟨by decide +kernel, by decide +kernel⟩, by decide +kernel⟩, tt_510, tt_36⟩
theorem mt_X3_add : MTv yX3_add cX3_add 7 none 5 := ⟨⟨tt_273, tt_56, ⟨by decide +kernel, by decide +kernel⟩, by decide +kernel⟩, tt_272, tt_13⟩
theorem mt_X3_linkDue : MTv yX3_linkDue cX3_linkDue 6 (some .long) 1 := ⟨⟨tt_277, tt_56, ⟨by decide +kernel, by decide +kernel⟩, by decide +kernel⟩, tt_276, tt_14⟩
theorem mt_X3_firstWrong : MTv yX3_firstWrong cX3_firstWrong 2 (some .int) 0 := ⟨⟨tt_533, tt_56, ⟨by decide +kernel, by decide +kernel⟩, by decide +kernel⟩, tt_532, tt_38⟩
theorem mt_X4_init : MTi yX4_init cX4_init 1 none 0 := ⟨⟨tt_74, tt_54, ⟨by decide +kernel, by decide +kernel⟩, by decide +kernel⟩, rfl, tt_73⟩
theorem mt_X4_hasFirm : MTv yX4_hasFirm cX4_hasFirm 2 (some .boolean) 1 := ⟨⟨tt_214, tt_54, ⟨by decide +kernel, by decide +kernel⟩, by decide +kernel⟩, tt_213, tt_1⟩
theorem mt_X4_hasObject : MTv yX4_hasObject cX4_hasObject 2 (some .boolean) 1 := ⟨⟨tt_231, tt_54, ⟨by decide +kernel, by decide +kernel⟩, by decide +kernel⟩, tt_230, tt_4⟩
theorem mt_X4_addFirm : MTv yX4_addFirm cX4_addFirm 2 (some .int) 1 := ⟨⟨tt_206, tt_54, ⟨by decide +kernel, by decide +kernel⟩, by decide +kernel⟩, tt_205, tt_0⟩
theorem mt_X4_addObject : MTv yX4_addObject cX4_addObject 2 (some .int) 1 := ⟨⟨tt_219, tt_54, ⟨by decide +kernel, by decide +kernel⟩, by decide +kernel⟩, tt_218, tt_2⟩
theorem mt_X4_letRead : MTv yX4_letRead cX4_letRead 4 (some .boolean) 2 := ⟨⟨tt_239, tt_54, ⟨by decide +kernel, by decide +kernel⟩, by decide +kernel⟩, tt_238, tt_6⟩
theorem mt_X4_onReading : MTv yX4_onReading cX4_onReading 3 (some .int) 2 := ⟨⟨tt_246, tt_54, ⟨by decide +kernel, by decide +kernel⟩, by decide +kernel⟩, tt_245, tt_7⟩
theorem mt_X4_onWriting : MTv yX4_onWriting cX4_onWriting 4 (some .int) 2 := ⟨⟨tt_235, tt_54, ⟨by decide +kernel, by decide +kernel⟩, by decide +kernel⟩, tt_234, tt_5⟩
theorem mt_X4_teachFirm : MTv yX4_teachFirm cX4_teachFirm 3 none 2 := ⟨⟨tt_266, tt_54, ⟨by decide +kernel, by decide +kernel⟩, by decide +kernel⟩, tt_265, tt_12⟩
theorem mt_X4_showFirm : MTv yX4_showFirm cX4_showFirm 3 none 2 := ⟨⟨tt_262, tt_54, ⟨by decide +kernel, by decide +kernel⟩, by decide +kernel⟩, tt_261, tt_11⟩
theorem mt_X5_init : MTi yX5_init cX5_init 1 none 0 := ⟨⟨tt_66, tt_53, ⟨by decide +kernel, by decide +kernel⟩, by decide +kernel⟩, rfl, tt_65⟩
theorem mt_X5_tick : MTv yX5_tick cX5_tick 2 (some .int) 1 := ⟨⟨tt_187, tt_53, ⟨by decide +kernel, by decide +kernel⟩, by decide +kernel⟩, tt_185, tt_186⟩
theorem mt_X5_roles : MTv yX5_roles cX5_roles 4 (some .int) 2 := ⟨⟨tt_192, tt_53, ⟨by decide +kernel, by decide +kernel⟩, by decide +kernel⟩, tt_190, tt_191⟩
theorem mt_X5_firm : MTv yX5_firm cX5_firm 2 (some .int) 1 := ⟨⟨tt_202, tt_53, ⟨by decide +kernel, by decide +kernel⟩, by decide +kernel⟩, tt_200, tt_201⟩
theorem mt_X5_object : MTv yX5_object cX5_object 2 (some .int) 1 := ⟨⟨tt_210, tt_53, ⟨by decide +kernel, by decide +kernel⟩, by decide +kernel⟩, tt_208, tt_209⟩
theorem mt_X5_read : MTv yX5_read cX5_read 3 (some .int) 2 := ⟨⟨tt_223, tt_53, ⟨by decide +kernel, by decide +kernel⟩, by decide +kernel⟩, tt_221, tt_222⟩
theorem mt_X5_write : MTv yX5_write cX5_write 3 (some .int) 2 := ⟨⟨tt_284, tt_53, ⟨by decide +kernel, by decide +kernel⟩, by decide +kernel⟩, tt_282, tt_283⟩
theorem mt_X5_glass : MTv yX5_glass cX5_glass 5 (some .int) 3 := ⟨⟨tt_288, tt_53, ⟨by decide +kernel, by decide +kernel⟩, by decide +kernel⟩, tt_286, tt_287⟩
theorem mt_X5_takeOff : MTv yX5_takeOff cX5_takeOff 3 (some .int) 2 := ⟨⟨tt_313, tt_53, ⟨by decide +kernel, by decide +kernel⟩, by decide +kernel⟩, tt_311, tt_312⟩
theorem mt_X5_kind : MTv yX5_kind cX5_kind 1 (some .int) 0 := ⟨⟨tt_327, tt_53, ⟨by decide +kernel, by decide +kernel⟩, by decide +kernel⟩, tt_325, tt_326⟩
theorem mt_X5_task : MTv yX5_task cX5_task 5 (some .int) 3 := ⟨⟨tt_368, tt_53, ⟨by decide +kernel, by decide +kernel⟩, by decide +kernel⟩, tt_366, tt_367⟩
theorem mt_X5_apart : MTv yX5_apart cX5_apart 5 (some .int) 3 := ⟨⟨tt_388, tt_53, ⟨by decide +kernel, by decide +kernel⟩, by decide +kernel⟩, tt_386, tt_387⟩
theorem mt_X5_bound : MTv yX5_bound cX5_bound 5 (some .int) 3 := ⟨⟨tt_404, tt_53, ⟨by decide +kernel, by decide +kernel⟩, by decide +kernel⟩, tt_402, tt_403⟩
theorem mt_X5_most : MTv yX5_most cX5_most 5 (some .int) 2 := ⟨⟨tt_408, tt_53, ⟨by decide +kernel, by decide +kernel⟩, by decide +kernel⟩, tt_406, tt_407⟩
theorem mt_X5_open : MTv yX5_open cX5_open 3 (some .int) 1 := ⟨⟨tt_412, tt_53, ⟨by decide +kernel, by decide +kernel⟩, by decide +kernel⟩, tt_410, tt_411⟩
theorem mt_X5_perform : MTv yX5_perform cX5_perform 6 (some .int) 3 := ⟨⟨tt_430, tt_53, ⟨by decide +kernel, by decide +kernel⟩, by decide +kernel⟩, tt_428, tt_429⟩
theorem mt_X5_canEnd : MTv yX5_canEnd cX5_canEnd 3 (some .int) 1 := ⟨⟨tt_489, tt_53, ⟨by decide +kernel, by decide +kernel⟩, by decide +kernel⟩, tt_487, tt_488⟩
theorem mt_X5_doer : MTv yX5_doer cX5_doer 4 (some .int) 2 := ⟨⟨tt_494, tt_53, ⟨by decide +kernel, by decide +kernel⟩, by decide +kernel⟩, tt_492, tt_493⟩
theorem mt_X5_told : MTv yX5_told cX5_told 3 (some .int) 2 := ⟨⟨tt_498, tt_53, ⟨by decide +kernel, by decide +kernel⟩, by decide +kernel⟩, tt_496, tt_497⟩
theorem mt_X5_glassTold : MTv yX5_glassTold cX5_glassTold 3 (some .int) 2 := ⟨⟨tt_502, tt_53, ⟨by decide +kernel, by decide +kernel⟩, by decide +kernel⟩, tt_500, tt_501⟩
theorem mt_X5_entry : MTv yX5_entry cX5_entry 3 (some .int) 2 := ⟨⟨tt_507, tt_53, ⟨by decide +kernel, by decide +kernel⟩, by decide +kernel⟩, tt_505, tt_506⟩
theorem mt_X5_link : MTv yX5_link cX5_link 2 (some .long) 1 := ⟨⟨tt_520, tt_53, ⟨by decide +kernel, by decide +kernel⟩, by decide +kernel⟩, tt_518, tt_519⟩
theorem mt_X5_alter : MTv yX5_alter cX5_alter 5 (some .int) 3 := ⟨⟨tt_525, tt_53, ⟨by decide +kernel, by decide +kernel⟩, by decide +kernel⟩, tt_523, tt_524⟩
theorem mt_X5_check : MTv yX5_check cX5_check 1 (some .int) 0 := ⟨⟨tt_529, tt_53, ⟨by decide +kernel, by decide +kernel⟩, by decide +kernel⟩, tt_527, tt_528⟩
theorem mt_X5_count : MTv yX5_count cX5_count 2 (some .int) 1 := ⟨⟨tt_537, tt_53, ⟨by decide +kernel, by decide +kernel⟩, by decide +kernel⟩, tt_535, tt_536⟩
theorem mt_X5_reach : MTv yX5_reach cX5_reach 7 (some .int) 3 := ⟨⟨tt_227, tt_53, ⟨by decide +kernel, by decide +kernel⟩, by decide +kernel⟩, tt_226, tt_3⟩
theorem mt_X5_kindAt : MTv yX5_kindAt cX5_kindAt 2 (some (.object "WallDesk$Kind")) 1 := ⟨⟨tt_376, tt_53, ⟨by decide +kernel, by decide +kernel⟩, by decide +kernel⟩, tt_375, tt_22⟩
theorem mt_X5_alterableKind : MTv yX5_alterableKind cX5_alterableKind 3 (some (.object "WallDesk$Kind")) 1 := ⟨⟨tt_372, tt_53, ⟨by decide +kernel, by decide +kernel⟩, by decide +kernel⟩, tt_371, tt_21⟩
theorem mt_X5_caseAt : MTv yX5_caseAt cX5_caseAt 2 (some (.object "WallDesk$Case")) 1 := ⟨⟨tt_434, tt_53, ⟨by decide +kernel, by decide +kernel⟩, by decide +kernel⟩, tt_433, tt_27⟩
theorem mt_X5_isUser : MTs yX5_isUser cX5_isUser 1 (some .boolean) 1 := ⟨⟨tt_195, tt_53, ⟨by decide +kernel, by decide +kernel⟩, by decide +kernel⟩, tt_194⟩
theorem mt_X5_isBelow : MTs yX5_isBelow cX5_isBelow 2 (some .boolean) 2 := ⟨⟨tt_198, tt_53, ⟨by decide +kernel, by decide +kernel⟩, by decide +kernel⟩, tt_197⟩
theorem mt_X5_hasBit : MTs yX5_hasBit cX5_hasBit 2 (some .boolean) 2 := ⟨⟨tt_242, tt_53, ⟨by decide +kernel, by decide +kernel⟩, by decide +kernel⟩, tt_241⟩
theorem mt_X5_asNumber : MTs yX5_asNumber cX5_asNumber 1 (some .int) 1 := ⟨⟨tt_269, tt_53, ⟨by decide +kernel, by decide +kernel⟩, by decide +kernel⟩, tt_268⟩
theorem mt_X5_joinPair : MTs yX5_joinPair cX5_joinPair 4 (some .int) 3 := ⟨⟨tt_400, tt_53, ⟨by decide +kernel, by decide +kernel⟩, by decide +kernel⟩, tt_399⟩
theorem mt_X6_init : MTi yX6_init cX6_init 1 none 0 := ⟨⟨tt_542, tt_57, ⟨by decide +kernel, by decide +kernel⟩, by decide +kernel⟩, rfl, tt_541⟩
theorem mt_X6_isIn : MTs yX6_isIn cX6_isIn 3 (some .boolean) 3 := ⟨⟨tt_632, tt_57, ⟨by decide +kernel, by decide +kernel⟩, by decide +kernel⟩, tt_631⟩
theorem mt_X6_isUser : MTs yX6_isUser cX6_isUser 1 (some .boolean) 1 := ⟨⟨tt_640, tt_57, ⟨by decide +kernel, by decide +kernel⟩, by decide +kernel⟩, tt_639⟩
theorem mt_X6_tick : MTv yX6_tick cX6_tick 2 (some .int) 1 := ⟨⟨tt_629, tt_57, ⟨by decide +kernel, by decide +kernel⟩, by decide +kernel⟩, tt_627, tt_628⟩
theorem mt_X6_roles : MTv yX6_roles cX6_roles 4 (some .int) 2 := ⟨⟨tt_637, tt_57, ⟨by decide +kernel, by decide +kernel⟩, by decide +kernel⟩, tt_635, tt_636⟩
theorem mt_X6_firm : MTv yX6_firm cX6_firm 2 (some .int) 1 := ⟨⟨tt_644, tt_57, ⟨by decide +kernel, by decide +kernel⟩, by decide +kernel⟩, tt_642, tt_643⟩
theorem mt_X6_object : MTv yX6_object cX6_object 2 (some .int) 1 := ⟨⟨tt_648, tt_57, ⟨by decide +kernel, by decide +kernel⟩, by decide +kernel⟩, tt_646, tt_647⟩
theorem mt_X6_linkOf : MTs yX6_linkOf cX6_linkOf 10 (some .long) 6 := ⟨⟨tt_679, tt_57, ⟨by decide +kernel, by decide +kernel⟩, by decide +kernel⟩, tt_678⟩
theorem mt_X6_linkAt : MTv yX6_linkAt cX6_linkAt 3 (some .long) 1 := ⟨⟨tt_676, tt_57, ⟨by decide +kernel, by decide +kernel⟩, by decide +kernel⟩, tt_675, tt_44⟩
theorem mt_X6_enter : MTv yX6_enter cX6_enter 6 none 4 := ⟨⟨tt_672, tt_57, ⟨by decide +kernel, by decide +kernel⟩, by decide +kernel⟩, tt_671, tt_43⟩
theorem mt_X6_isOpen : MTv yX6_isOpen cX6_isOpen 2 (some .boolean) 1 := ⟨⟨tt_664, tt_57, ⟨by decide +kernel, by decide +kernel⟩, by decide +kernel⟩, tt_663, tt_41⟩
theorem mt_X6_isWalled : MTv yX6_isWalled cX6_isWalled 4 (some .boolean) 2 := ⟨⟨tt_660, tt_57, ⟨by decide +kernel, by decide +kernel⟩, by decide +kernel⟩, tt_659, tt_40⟩
theorem mt_X6_hasGlass : MTv yX6_hasGlass cX6_hasGlass 4 (some .boolean) 2 := ⟨⟨tt_668, tt_57, ⟨by decide +kernel, by decide +kernel⟩, by decide +kernel⟩, tt_667, tt_42⟩
theorem mt_X6_read : MTv yX6_read cX6_read 3 (some .int) 2 := ⟨⟨tt_652, tt_57, ⟨by decide +kernel, by decide +kernel⟩, by decide +kernel⟩, tt_650, tt_651⟩
theorem mt_X6_write : MTv yX6_write cX6_write 3 (some .int) 2 := ⟨⟨tt_686, tt_57, ⟨by decide +kernel, by decide +kernel⟩, by decide +kernel⟩, tt_684, tt_685⟩
theorem mt_X6_access : MTv yX6_access cX6_access 9 (some .int) 3 := ⟨⟨tt_656, tt_57, ⟨by decide +kernel, by decide +kernel⟩, by decide +kernel⟩, tt_655, tt_39⟩
theorem mt_X6_duties : MTv yX6_duties cX6_duties 4 (some .int) 1 := ⟨⟨tt_694, tt_57, ⟨by decide +kernel, by decide +kernel⟩, by decide +kernel⟩, tt_693, tt_45⟩
theorem mt_X6_isLate : MTv yX6_isLate cX6_isLate 3 (some .boolean) 1 := ⟨⟨tt_698, tt_57, ⟨by decide +kernel, by decide +kernel⟩, by decide +kernel⟩, tt_697, tt_46⟩
theorem mt_X6_glass : MTv yX6_glass cX6_glass 4 (some .int) 3 := ⟨⟨tt_690, tt_57, ⟨by decide +kernel, by decide +kernel⟩, by decide +kernel⟩, tt_688, tt_689⟩
theorem mt_X6_takeOff : MTv yX6_takeOff cX6_takeOff 3 (some .int) 2 := ⟨⟨tt_702, tt_57, ⟨by decide +kernel, by decide +kernel⟩, by decide +kernel⟩, tt_700, tt_701⟩
theorem mt_X6_kind : MTv yX6_kind cX6_kind 1 (some .int) 0 := ⟨⟨tt_707, tt_57, ⟨by decide +kernel, by decide +kernel⟩, by decide +kernel⟩, tt_705, tt_706⟩
theorem mt_X6_isFree : MTv yX6_isFree cX6_isFree 4 (some .boolean) 1 := ⟨⟨tt_715, tt_57, ⟨by decide +kernel, by decide +kernel⟩, by decide +kernel⟩, tt_714, tt_47⟩
theorem mt_X6_task : MTv yX6_task cX6_task 5 (some .int) 3 := ⟨⟨tt_711, tt_57, ⟨by decide +kernel, by decide +kernel⟩, by decide +kernel⟩, tt_709, tt_710⟩
theorem mt_X6_arePair : MTv yX6_arePair cX6_arePair 4 (some .boolean) 3 := ⟨⟨tt_723, tt_57, ⟨by decide +kernel, by decide +kernel⟩, by decide +kernel⟩, tt_722, tt_48⟩
theorem mt_X6_pair : MTs yX6_pair cX6_pair 3 (some .int) 3 := ⟨⟨tt_726, tt_57, ⟨by decide +kernel, by decide +kernel⟩, by decide +kernel⟩, tt_725⟩
theorem mt_X6_apart : MTv yX6_apart cX6_apart 5 (some .int) 3 := ⟨⟨tt_719, tt_57, ⟨by decide +kernel, by decide +kernel⟩, by decide +kernel⟩, tt_717, tt_718⟩
theorem mt_X6_bound : MTv yX6_bound cX6_bound 5 (some .int) 3 := ⟨⟨tt_733, tt_57, ⟨by decide +kernel, by decide +kernel⟩, by decide +kernel⟩, tt_731, tt_732⟩
theorem mt_X6_most : MTv yX6_most cX6_most 4 (some .int) 2 := ⟨⟨tt_737, tt_57, ⟨by decide +kernel, by decide +kernel⟩, by decide +kernel⟩, tt_735, tt_736⟩
theorem mt_X6_open : MTv yX6_open cX6_open 3 (some .int) 1 := ⟨⟨tt_741, tt_57, ⟨by decide +kernel, by decide +kernel⟩, by decide +kernel⟩, tt_739, tt_740⟩
theorem mt_X6_isTask : MTv yX6_isTask cX6_isTask 3 (some .boolean) 2 := ⟨⟨tt_761, tt_57, ⟨by decide +kernel, by decide +kernel⟩, by decide +kernel⟩, tt_760, tt_51⟩
theorem mt_X6_isFit : MTv yX6_isFit cX6_isFit 5 (some .boolean) 2 := ⟨⟨tt_753, tt_57, ⟨by decide +kernel, by decide +kernel⟩, by decide +kernel⟩, tt_752, tt_50⟩
theorem mt_X6_canBe : MTv yX6_canBe cX6_canBe 7 (some .boolean) 1 := ⟨⟨tt_749, tt_57, ⟨by decide +kernel, by decide +kernel⟩, by decide +kernel⟩, tt_748, tt_49⟩
theorem mt_X6_canEnd : MTv yX6_canEnd cX6_canEnd 2 (some .int) 1 := ⟨⟨tt_745, tt_57, ⟨by decide +kernel, by decide +kernel⟩, by decide +kernel⟩, tt_743, tt_744⟩
theorem mt_X6_doer : MTv yX6_doer cX6_doer 3 (some .int) 2 := ⟨⟨tt_757, tt_57, ⟨by decide +kernel, by decide +kernel⟩, by decide +kernel⟩, tt_755, tt_756⟩
theorem mt_X6_perform : MTv yX6_perform cX6_perform 14 (some .int) 3 := ⟨⟨tt_765, tt_57, ⟨by decide +kernel, by decide +kernel⟩, by decide +kernel⟩, tt_763, tt_764⟩
theorem mt_X6_told : MTv yX6_told cX6_told 3 (some .int) 2 := ⟨⟨tt_769, tt_57, ⟨by decide +kernel, by decide +kernel⟩, by decide +kernel⟩, tt_767, tt_768⟩
theorem mt_X6_glassTold : MTv yX6_glassTold cX6_glassTold 3 (some .int) 2 := ⟨⟨tt_773, tt_57, ⟨by decide +kernel, by decide +kernel⟩, by decide +kernel⟩, tt_771, tt_772⟩
theorem mt_X6_entry : MTv yX6_entry cX6_entry 3 (some .int) 2 := ⟨⟨tt_777, tt_57, ⟨by decide +kernel, by decide +kernel⟩, by decide +kernel⟩, tt_775, tt_776⟩
theorem mt_X6_link : MTv yX6_link cX6_link 2 (some .long) 1 := ⟨⟨tt_781, tt_57, ⟨by decide +kernel, by decide +kernel⟩, by decide +kernel⟩, tt_779, tt_780⟩
theorem mt_X6_alter : MTv yX6_alter cX6_alter 5 (some .int) 3 := ⟨⟨tt_785, tt_57, ⟨by decide +kernel, by decide +kernel⟩, by decide +kernel⟩, tt_783, tt_784⟩
theorem mt_X6_check : MTv yX6_check cX6_check 2 (some .int) 0 := ⟨⟨tt_789, tt_57, ⟨by decide +kernel, by decide +kernel⟩, by decide +kernel⟩, tt_787, tt_788⟩
theorem mt_X6_count : MTv yX6_count cX6_count 2 (some .int) 1 := ⟨⟨tt_793, tt_57, ⟨by decide +kernel, by decide +kernel⟩, by decide +kernel⟩, tt_791, tt_792⟩
theorem mt_J6_bitCount_0f7a4 : MTs yJ6_bitCount_0f7a4 cJ6_bitCount_0f7a4 1 (some .int) 1 := ⟨⟨tt_452, tt_61, ⟨by decide +kernel, by decide +kernel⟩, by decide +kernel⟩, tt_451⟩
theorem mt_J9_max_7cf53 : MTs yJ9_max_7cf53 cJ9_max_7cf53 2 (some .int) 2 := ⟨⟨tt_323, tt_58, ⟨by decide +kernel, by decide +kernel⟩, by decide +kernel⟩, tt_322⟩
theorem mt_J9_min_7cf53 : MTs yJ9_min_7cf53 cJ9_min_7cf53 2 (some .int) 2 := ⟨⟨tt_729, tt_58, ⟨by decide +kernel, by decide +kernel⟩, by decide +kernel⟩, tt_728⟩
