section
-- ===== PART A: goes FIRST, ahead of the names: the tables' words, and 'selects' of the private methods out of them =====
/-- a private method of a class that the tables say can be made, by its rows of tables_1 -/
def lw_okq (q : MethodName × Nat) : Prop := (q.1.cls ≠ "java/lang/invoke/MethodHandle" ∧ q.1.cls ≠ "java/lang/invoke/VarHandle") ∧ Cond.instantiable q.1.cls q.2 ∈ tables_1 ∧ Cond.privateMethod q.1 ∈ tables_1 ∧ Cond.instanceMethod q.1 ∈ tables_1
theorem lw_p0 : lw_okq (⟨"SteppingStones$Law", "compileSum", "(LSteppingStones$Tape;I)Z"⟩, 10) := ⟨⟨by decide +kernel, by decide +kernel⟩, List.mem_of_getElem? (i := 214) (by decide +kernel), List.mem_of_getElem? (i := 365) (by decide +kernel), List.mem_of_getElem? (i := 366) (by decide +kernel)⟩
theorem lw_p1 : lw_okq (⟨"SteppingStones$Law", "compileFactor", "(LSteppingStones$Tape;I)Z"⟩, 10) := ⟨⟨by decide +kernel, by decide +kernel⟩, List.mem_of_getElem? (i := 214) (by decide +kernel), List.mem_of_getElem? (i := 369) (by decide +kernel), List.mem_of_getElem? (i := 370) (by decide +kernel)⟩
theorem lw_p2 : lw_okq (⟨"SteppingStones$Law", "compileChoice", "(LSteppingStones$Tape;I)Z"⟩, 10) := ⟨⟨by decide +kernel, by decide +kernel⟩, List.mem_of_getElem? (i := 214) (by decide +kernel), List.mem_of_getElem? (i := 394) (by decide +kernel), List.mem_of_getElem? (i := 395) (by decide +kernel)⟩
theorem lw_p3 : lw_okq (⟨"SteppingStones$Law", "compileTest", "(LSteppingStones$Tape;I)Z"⟩, 10) := ⟨⟨by decide +kernel, by decide +kernel⟩, List.mem_of_getElem? (i := 214) (by decide +kernel), List.mem_of_getElem? (i := 398) (by decide +kernel), List.mem_of_getElem? (i := 399) (by decide +kernel)⟩
theorem lw_p4 : lw_okq (⟨"SteppingStones", "strideOf", "(I)I"⟩, 13) := ⟨⟨by decide +kernel, by decide +kernel⟩, List.mem_of_getElem? (i := 16) (by decide +kernel), List.mem_of_getElem? (i := 526) (by decide +kernel), List.mem_of_getElem? (i := 527) (by decide +kernel)⟩
theorem lw_p5 : lw_okq (⟨"SteppingStones$Plan", "readSteps", "(LSteppingStones$Tape;I)Z"⟩, 6) := ⟨⟨by decide +kernel, by decide +kernel⟩, List.mem_of_getElem? (i := 164) (by decide +kernel), List.mem_of_getElem? (i := 717) (by decide +kernel), List.mem_of_getElem? (i := 718) (by decide +kernel)⟩
theorem lw_p6 : lw_okq (⟨"SteppingStones$Plan", "readRound", "(LSteppingStones$Tape;I)Z"⟩, 6) := ⟨⟨by decide +kernel, by decide +kernel⟩, List.mem_of_getElem? (i := 164) (by decide +kernel), List.mem_of_getElem? (i := 722) (by decide +kernel), List.mem_of_getElem? (i := 723) (by decide +kernel)⟩
theorem lw_p7 : lw_okq (⟨"SteppingStones", "evenBag", "(I)I"⟩, 13) := ⟨⟨by decide +kernel, by decide +kernel⟩, List.mem_of_getElem? (i := 16) (by decide +kernel), List.mem_of_getElem? (i := 840) (by decide +kernel), List.mem_of_getElem? (i := 841) (by decide +kernel)⟩
theorem lw_p8 : lw_okq (⟨"SteppingStones", "unlike", "(II)I"⟩, 13) := ⟨⟨by decide +kernel, by decide +kernel⟩, List.mem_of_getElem? (i := 16) (by decide +kernel), List.mem_of_getElem? (i := 844) (by decide +kernel), List.mem_of_getElem? (i := 845) (by decide +kernel)⟩
theorem lw_p9 : lw_okq (⟨"SteppingStones", "toldPeople", "()I"⟩, 13) := ⟨⟨by decide +kernel, by decide +kernel⟩, List.mem_of_getElem? (i := 16) (by decide +kernel), List.mem_of_getElem? (i := 885) (by decide +kernel), List.mem_of_getElem? (i := 886) (by decide +kernel)⟩
theorem lw_p10 : lw_okq (⟨"SteppingStonesModel", "stoneAt", "(II)I"⟩, 55) := ⟨⟨by decide +kernel, by decide +kernel⟩, List.mem_of_getElem? (i := 889) (by decide +kernel), List.mem_of_getElem? (i := 1069) (by decide +kernel), List.mem_of_getElem? (i := 1070) (by decide +kernel)⟩
theorem lw_p11 : lw_okq (⟨"SteppingStonesModel", "laysStone", "(IIIII)V"⟩, 55) := ⟨⟨by decide +kernel, by decide +kernel⟩, List.mem_of_getElem? (i := 889) (by decide +kernel), List.mem_of_getElem? (i := 1073) (by decide +kernel), List.mem_of_getElem? (i := 1074) (by decide +kernel)⟩
theorem lw_p12 : lw_okq (⟨"SteppingStonesModel", "isStone", "(I)Z"⟩, 55) := ⟨⟨by decide +kernel, by decide +kernel⟩, List.mem_of_getElem? (i := 889) (by decide +kernel), List.mem_of_getElem? (i := 1081) (by decide +kernel), List.mem_of_getElem? (i := 1082) (by decide +kernel)⟩
theorem lw_p13 : lw_okq (⟨"SteppingStonesModel", "types", "(I)V"⟩, 55) := ⟨⟨by decide +kernel, by decide +kernel⟩, List.mem_of_getElem? (i := 889) (by decide +kernel), List.mem_of_getElem? (i := 1097) (by decide +kernel), List.mem_of_getElem? (i := 1098) (by decide +kernel)⟩
theorem lw_p14 : lw_okq (⟨"SteppingStonesModel", "beginsText", "(I)V"⟩, 55) := ⟨⟨by decide +kernel, by decide +kernel⟩, List.mem_of_getElem? (i := 889) (by decide +kernel), List.mem_of_getElem? (i := 1105) (by decide +kernel), List.mem_of_getElem? (i := 1106) (by decide +kernel)⟩
theorem lw_p15 : lw_okq (⟨"SteppingStonesModel", "readsRule", "()Z"⟩, 55) := ⟨⟨by decide +kernel, by decide +kernel⟩, List.mem_of_getElem? (i := 889) (by decide +kernel), List.mem_of_getElem? (i := 1109) (by decide +kernel), List.mem_of_getElem? (i := 1110) (by decide +kernel)⟩
def lw_privs_1 : List (MethodName × Nat) := [(⟨"SteppingStones$Law", "compileSum", "(LSteppingStones$Tape;I)Z"⟩, 10), (⟨"SteppingStones$Law", "compileFactor", "(LSteppingStones$Tape;I)Z"⟩, 10), (⟨"SteppingStones$Law", "compileChoice", "(LSteppingStones$Tape;I)Z"⟩, 10), (⟨"SteppingStones$Law", "compileTest", "(LSteppingStones$Tape;I)Z"⟩, 10), (⟨"SteppingStones", "strideOf", "(I)I"⟩, 13), (⟨"SteppingStones$Plan", "readSteps", "(LSteppingStones$Tape;I)Z"⟩, 6), (⟨"SteppingStones$Plan", "readRound", "(LSteppingStones$Tape;I)Z"⟩, 6), (⟨"SteppingStones", "evenBag", "(I)I"⟩, 13), (⟨"SteppingStones", "unlike", "(II)I"⟩, 13), (⟨"SteppingStones", "toldPeople", "()I"⟩, 13), (⟨"SteppingStonesModel", "stoneAt", "(II)I"⟩, 55), (⟨"SteppingStonesModel", "laysStone", "(IIIII)V"⟩, 55), (⟨"SteppingStonesModel", "isStone", "(I)Z"⟩, 55), (⟨"SteppingStonesModel", "types", "(I)V"⟩, 55), (⟨"SteppingStonesModel", "beginsText", "(I)V"⟩, 55), (⟨"SteppingStonesModel", "readsRule", "()Z"⟩, 55)]
theorem lw_r1 : ∀ q ∈ lw_privs_1, lw_okq q := List.forall_mem_cons.mpr ⟨lw_p0, List.forall_mem_cons.mpr ⟨lw_p1, List.forall_mem_cons.mpr ⟨lw_p2, List.forall_mem_cons.mpr ⟨lw_p3, List.forall_mem_cons.mpr ⟨lw_p4, List.forall_mem_cons.mpr ⟨lw_p5, List.forall_mem_cons.mpr ⟨lw_p6, List.forall_mem_cons.mpr ⟨lw_p7, List.forall_mem_cons.mpr ⟨lw_p8, List.forall_mem_cons.mpr ⟨lw_p9, List.forall_mem_cons.mpr ⟨lw_p10, List.forall_mem_cons.mpr ⟨lw_p11, List.forall_mem_cons.mpr ⟨lw_p12, List.forall_mem_cons.mpr ⟨lw_p13, List.forall_mem_cons.mpr ⟨lw_p14, List.forall_mem_cons.mpr ⟨lw_p15, fun _ h => absurd h List.not_mem_nil⟩⟩⟩⟩⟩⟩⟩⟩⟩⟩⟩⟩⟩⟩⟩⟩
theorem lw_p16 : lw_okq (⟨"SteppingStonesModel", "here", "()I"⟩, 55) := ⟨⟨by decide +kernel, by decide +kernel⟩, List.mem_of_getElem? (i := 889) (by decide +kernel), List.mem_of_getElem? (i := 1113) (by decide +kernel), List.mem_of_getElem? (i := 1114) (by decide +kernel)⟩
theorem lw_p17 : lw_okq (⟨"SteppingStonesModel", "wrongAt", "(II)Z"⟩, 55) := ⟨⟨by decide +kernel, by decide +kernel⟩, List.mem_of_getElem? (i := 889) (by decide +kernel), List.mem_of_getElem? (i := 1117) (by decide +kernel), List.mem_of_getElem? (i := 1118) (by decide +kernel)⟩
theorem lw_p18 : lw_okq (⟨"SteppingStonesModel", "readsSum", "()Z"⟩, 55) := ⟨⟨by decide +kernel, by decide +kernel⟩, List.mem_of_getElem? (i := 889) (by decide +kernel), List.mem_of_getElem? (i := 1121) (by decide +kernel), List.mem_of_getElem? (i := 1122) (by decide +kernel)⟩
theorem lw_p19 : lw_okq (⟨"SteppingStonesModel", "readsFactor", "()Z"⟩, 55) := ⟨⟨by decide +kernel, by decide +kernel⟩, List.mem_of_getElem? (i := 889) (by decide +kernel), List.mem_of_getElem? (i := 1125) (by decide +kernel), List.mem_of_getElem? (i := 1126) (by decide +kernel)⟩
theorem lw_p20 : lw_okq (⟨"SteppingStonesModel", "opens", "(I)Z"⟩, 55) := ⟨⟨by decide +kernel, by decide +kernel⟩, List.mem_of_getElem? (i := 889) (by decide +kernel), List.mem_of_getElem? (i := 1129) (by decide +kernel), List.mem_of_getElem? (i := 1130) (by decide +kernel)⟩
theorem lw_p21 : lw_okq (⟨"SteppingStonesModel", "isDigit", "()Z"⟩, 55) := ⟨⟨by decide +kernel, by decide +kernel⟩, List.mem_of_getElem? (i := 889) (by decide +kernel), List.mem_of_getElem? (i := 1134) (by decide +kernel), List.mem_of_getElem? (i := 1135) (by decide +kernel)⟩
theorem lw_p22 : lw_okq (⟨"SteppingStonesModel", "readsNumber", "()Z"⟩, 55) := ⟨⟨by decide +kernel, by decide +kernel⟩, List.mem_of_getElem? (i := 889) (by decide +kernel), List.mem_of_getElem? (i := 1138) (by decide +kernel), List.mem_of_getElem? (i := 1139) (by decide +kernel)⟩
theorem lw_p23 : lw_okq (⟨"SteppingStonesModel", "notes", "(II)V"⟩, 55) := ⟨⟨by decide +kernel, by decide +kernel⟩, List.mem_of_getElem? (i := 889) (by decide +kernel), List.mem_of_getElem? (i := 1142) (by decide +kernel), List.mem_of_getElem? (i := 1143) (by decide +kernel)⟩
theorem lw_p24 : lw_okq (⟨"SteppingStonesModel", "closesSums", "(Z)V"⟩, 55) := ⟨⟨by decide +kernel, by decide +kernel⟩, List.mem_of_getElem? (i := 889) (by decide +kernel), List.mem_of_getElem? (i := 1152) (by decide +kernel), List.mem_of_getElem? (i := 1153) (by decide +kernel)⟩
theorem lw_p25 : lw_okq (⟨"SteppingStonesModel", "waitTop", "()I"⟩, 55) := ⟨⟨by decide +kernel, by decide +kernel⟩, List.mem_of_getElem? (i := 889) (by decide +kernel), List.mem_of_getElem? (i := 1156) (by decide +kernel), List.mem_of_getElem? (i := 1157) (by decide +kernel)⟩
theorem lw_p26 : lw_okq (⟨"SteppingStonesModel", "hasOpenSum", "(I)Z"⟩, 55) := ⟨⟨by decide +kernel, by decide +kernel⟩, List.mem_of_getElem? (i := 889) (by decide +kernel), List.mem_of_getElem? (i := 1160) (by decide +kernel), List.mem_of_getElem? (i := 1161) (by decide +kernel)⟩
theorem lw_p27 : lw_okq (⟨"SteppingStonesModel", "readsCondition", "()Z"⟩, 55) := ⟨⟨by decide +kernel, by decide +kernel⟩, List.mem_of_getElem? (i := 889) (by decide +kernel), List.mem_of_getElem? (i := 1164) (by decide +kernel), List.mem_of_getElem? (i := 1165) (by decide +kernel)⟩
theorem lw_p28 : lw_okq (⟨"SteppingStonesModel", "readsCompared", "()Z"⟩, 55) := ⟨⟨by decide +kernel, by decide +kernel⟩, List.mem_of_getElem? (i := 889) (by decide +kernel), List.mem_of_getElem? (i := 1168) (by decide +kernel), List.mem_of_getElem? (i := 1169) (by decide +kernel)⟩
theorem lw_p29 : lw_okq (⟨"SteppingStonesModel", "endsPiece", "()V"⟩, 55) := ⟨⟨by decide +kernel, by decide +kernel⟩, List.mem_of_getElem? (i := 889) (by decide +kernel), List.mem_of_getElem? (i := 1172) (by decide +kernel), List.mem_of_getElem? (i := 1173) (by decide +kernel)⟩
theorem lw_p30 : lw_okq (⟨"SteppingStonesModel", "lands", "(Z)V"⟩, 55) := ⟨⟨by decide +kernel, by decide +kernel⟩, List.mem_of_getElem? (i := 889) (by decide +kernel), List.mem_of_getElem? (i := 1176) (by decide +kernel), List.mem_of_getElem? (i := 1177) (by decide +kernel)⟩
theorem lw_p31 : lw_okq (⟨"SteppingStonesModel", "jumps", "(I)V"⟩, 55) := ⟨⟨by decide +kernel, by decide +kernel⟩, List.mem_of_getElem? (i := 889) (by decide +kernel), List.mem_of_getElem? (i := 1180) (by decide +kernel), List.mem_of_getElem? (i := 1181) (by decide +kernel)⟩
def lw_privs_2 : List (MethodName × Nat) := [(⟨"SteppingStonesModel", "here", "()I"⟩, 55), (⟨"SteppingStonesModel", "wrongAt", "(II)Z"⟩, 55), (⟨"SteppingStonesModel", "readsSum", "()Z"⟩, 55), (⟨"SteppingStonesModel", "readsFactor", "()Z"⟩, 55), (⟨"SteppingStonesModel", "opens", "(I)Z"⟩, 55), (⟨"SteppingStonesModel", "isDigit", "()Z"⟩, 55), (⟨"SteppingStonesModel", "readsNumber", "()Z"⟩, 55), (⟨"SteppingStonesModel", "notes", "(II)V"⟩, 55), (⟨"SteppingStonesModel", "closesSums", "(Z)V"⟩, 55), (⟨"SteppingStonesModel", "waitTop", "()I"⟩, 55), (⟨"SteppingStonesModel", "hasOpenSum", "(I)Z"⟩, 55), (⟨"SteppingStonesModel", "readsCondition", "()Z"⟩, 55), (⟨"SteppingStonesModel", "readsCompared", "()Z"⟩, 55), (⟨"SteppingStonesModel", "endsPiece", "()V"⟩, 55), (⟨"SteppingStonesModel", "lands", "(Z)V"⟩, 55), (⟨"SteppingStonesModel", "jumps", "(I)V"⟩, 55)]
theorem lw_r2 : ∀ q ∈ lw_privs_2, lw_okq q := List.forall_mem_cons.mpr ⟨lw_p16, List.forall_mem_cons.mpr ⟨lw_p17, List.forall_mem_cons.mpr ⟨lw_p18, List.forall_mem_cons.mpr ⟨lw_p19, List.forall_mem_cons.mpr ⟨lw_p20, List.forall_mem_cons.mpr ⟨lw_p21, List.forall_mem_cons.mpr ⟨lw_p22, List.forall_mem_cons.mpr ⟨lw_p23, List.forall_mem_cons.mpr ⟨lw_p24, List.forall_mem_cons.mpr ⟨lw_p25, List.forall_mem_cons.mpr ⟨lw_p26, List.forall_mem_cons.mpr ⟨lw_p27, List.forall_mem_cons.mpr ⟨lw_p28, List.forall_mem_cons.mpr ⟨lw_p29, List.forall_mem_cons.mpr ⟨lw_p30, List.forall_mem_cons.mpr ⟨lw_p31, fun _ h => absurd h List.not_mem_nil⟩⟩⟩⟩⟩⟩⟩⟩⟩⟩⟩⟩⟩⟩⟩⟩
theorem lw_p32 : lw_okq (⟨"SteppingStonesModel", "takesSign", "(I)Z"⟩, 55) := ⟨⟨by decide +kernel, by decide +kernel⟩, List.mem_of_getElem? (i := 889) (by decide +kernel), List.mem_of_getElem? (i := 1184) (by decide +kernel), List.mem_of_getElem? (i := 1185) (by decide +kernel)⟩
theorem lw_p33 : lw_okq (⟨"SteppingStonesModel", "readsLine", "()Z"⟩, 55) := ⟨⟨by decide +kernel, by decide +kernel⟩, List.mem_of_getElem? (i := 889) (by decide +kernel), List.mem_of_getElem? (i := 1192) (by decide +kernel), List.mem_of_getElem? (i := 1193) (by decide +kernel)⟩
theorem lw_p34 : lw_okq (⟨"SteppingStonesModel", "readsBetween", "(II)Z"⟩, 55) := ⟨⟨by decide +kernel, by decide +kernel⟩, List.mem_of_getElem? (i := 889) (by decide +kernel), List.mem_of_getElem? (i := 1196) (by decide +kernel), List.mem_of_getElem? (i := 1197) (by decide +kernel)⟩
theorem lw_p35 : lw_okq (⟨"SteppingStonesModel", "readsAmount", "()Z"⟩, 55) := ⟨⟨by decide +kernel, by decide +kernel⟩, List.mem_of_getElem? (i := 889) (by decide +kernel), List.mem_of_getElem? (i := 1200) (by decide +kernel), List.mem_of_getElem? (i := 1201) (by decide +kernel)⟩
theorem lw_p36 : lw_okq (⟨"SteppingStonesModel", "nightsGo", "(I)V"⟩, 55) := ⟨⟨by decide +kernel, by decide +kernel⟩, List.mem_of_getElem? (i := 889) (by decide +kernel), List.mem_of_getElem? (i := 1208) (by decide +kernel), List.mem_of_getElem? (i := 1209) (by decide +kernel)⟩
theorem lw_p37 : lw_okq (⟨"SteppingStonesModel", "nightGoes", "()V"⟩, 55) := ⟨⟨by decide +kernel, by decide +kernel⟩, List.mem_of_getElem? (i := 889) (by decide +kernel), List.mem_of_getElem? (i := 1212) (by decide +kernel), List.mem_of_getElem? (i := 1213) (by decide +kernel)⟩
theorem lw_p38 : lw_okq (⟨"SteppingStonesModel", "moves", "(I)V"⟩, 55) := ⟨⟨by decide +kernel, by decide +kernel⟩, List.mem_of_getElem? (i := 889) (by decide +kernel), List.mem_of_getElem? (i := 1216) (by decide +kernel), List.mem_of_getElem? (i := 1217) (by decide +kernel)⟩
theorem lw_p39 : lw_okq (⟨"SteppingStonesModel", "feels", "(II)V"⟩, 55) := ⟨⟨by decide +kernel, by decide +kernel⟩, List.mem_of_getElem? (i := 889) (by decide +kernel), List.mem_of_getElem? (i := 1221) (by decide +kernel), List.mem_of_getElem? (i := 1222) (by decide +kernel)⟩
theorem lw_p40 : lw_okq (⟨"SteppingStonesModel", "nearTo", "(I)I"⟩, 55) := ⟨⟨by decide +kernel, by decide +kernel⟩, List.mem_of_getElem? (i := 889) (by decide +kernel), List.mem_of_getElem? (i := 1225) (by decide +kernel), List.mem_of_getElem? (i := 1226) (by decide +kernel)⟩
theorem lw_p41 : lw_okq (⟨"SteppingStonesModel", "apart", "(II)I"⟩, 55) := ⟨⟨by decide +kernel, by decide +kernel⟩, List.mem_of_getElem? (i := 889) (by decide +kernel), List.mem_of_getElem? (i := 1229) (by decide +kernel), List.mem_of_getElem? (i := 1230) (by decide +kernel)⟩
theorem lw_p42 : lw_okq (⟨"SteppingStonesModel", "byLaw", "(II)I"⟩, 55) := ⟨⟨by decide +kernel, by decide +kernel⟩, List.mem_of_getElem? (i := 889) (by decide +kernel), List.mem_of_getElem? (i := 1233) (by decide +kernel), List.mem_of_getElem? (i := 1234) (by decide +kernel)⟩
theorem lw_p43 : lw_okq (⟨"SteppingStonesModel", "comesTo", "(II)I"⟩, 55) := ⟨⟨by decide +kernel, by decide +kernel⟩, List.mem_of_getElem? (i := 889) (by decide +kernel), List.mem_of_getElem? (i := 1237) (by decide +kernel), List.mem_of_getElem? (i := 1238) (by decide +kernel)⟩
theorem lw_p44 : lw_okq (⟨"SteppingStonesModel", "holdsAny", "(I)Z"⟩, 55) := ⟨⟨by decide +kernel, by decide +kernel⟩, List.mem_of_getElem? (i := 889) (by decide +kernel), List.mem_of_getElem? (i := 1253) (by decide +kernel), List.mem_of_getElem? (i := 1254) (by decide +kernel)⟩
theorem lw_p45 : lw_okq (⟨"SteppingStonesModel", "sumOf", "(I)I"⟩, 55) := ⟨⟨by decide +kernel, by decide +kernel⟩, List.mem_of_getElem? (i := 889) (by decide +kernel), List.mem_of_getElem? (i := 1262) (by decide +kernel), List.mem_of_getElem? (i := 1263) (by decide +kernel)⟩
theorem lw_p46 : lw_okq (⟨"SteppingStonesModel", "isPerson", "(I)Z"⟩, 55) := ⟨⟨by decide +kernel, by decide +kernel⟩, List.mem_of_getElem? (i := 889) (by decide +kernel), List.mem_of_getElem? (i := 1281) (by decide +kernel), List.mem_of_getElem? (i := 1282) (by decide +kernel)⟩
theorem lw_p47 : lw_okq (⟨"SteppingStonesModel", "crossing", "(I)I"⟩, 55) := ⟨⟨by decide +kernel, by decide +kernel⟩, List.mem_of_getElem? (i := 889) (by decide +kernel), List.mem_of_getElem? (i := 1288) (by decide +kernel), List.mem_of_getElem? (i := 1289) (by decide +kernel)⟩
def lw_privs_3 : List (MethodName × Nat) := [(⟨"SteppingStonesModel", "takesSign", "(I)Z"⟩, 55), (⟨"SteppingStonesModel", "readsLine", "()Z"⟩, 55), (⟨"SteppingStonesModel", "readsBetween", "(II)Z"⟩, 55), (⟨"SteppingStonesModel", "readsAmount", "()Z"⟩, 55), (⟨"SteppingStonesModel", "nightsGo", "(I)V"⟩, 55), (⟨"SteppingStonesModel", "nightGoes", "()V"⟩, 55), (⟨"SteppingStonesModel", "moves", "(I)V"⟩, 55), (⟨"SteppingStonesModel", "feels", "(II)V"⟩, 55), (⟨"SteppingStonesModel", "nearTo", "(I)I"⟩, 55), (⟨"SteppingStonesModel", "apart", "(II)I"⟩, 55), (⟨"SteppingStonesModel", "byLaw", "(II)I"⟩, 55), (⟨"SteppingStonesModel", "comesTo", "(II)I"⟩, 55), (⟨"SteppingStonesModel", "holdsAny", "(I)Z"⟩, 55), (⟨"SteppingStonesModel", "sumOf", "(I)I"⟩, 55), (⟨"SteppingStonesModel", "isPerson", "(I)Z"⟩, 55), (⟨"SteppingStonesModel", "crossing", "(I)I"⟩, 55)]
theorem lw_r3 : ∀ q ∈ lw_privs_3, lw_okq q := List.forall_mem_cons.mpr ⟨lw_p32, List.forall_mem_cons.mpr ⟨lw_p33, List.forall_mem_cons.mpr ⟨lw_p34, List.forall_mem_cons.mpr ⟨lw_p35, List.forall_mem_cons.mpr ⟨lw_p36, List.forall_mem_cons.mpr ⟨lw_p37, List.forall_mem_cons.mpr ⟨lw_p38, List.forall_mem_cons.mpr ⟨lw_p39, List.forall_mem_cons.mpr ⟨lw_p40, List.forall_mem_cons.mpr ⟨lw_p41, List.forall_mem_cons.mpr ⟨lw_p42, List.forall_mem_cons.mpr ⟨lw_p43, List.forall_mem_cons.mpr ⟨lw_p44, List.forall_mem_cons.mpr ⟨lw_p45, List.forall_mem_cons.mpr ⟨lw_p46, List.forall_mem_cons.mpr ⟨lw_p47, fun _ h => absurd h List.not_mem_nil⟩⟩⟩⟩⟩⟩⟩⟩⟩⟩⟩⟩⟩⟩⟩⟩
theorem lw_p48 : lw_okq (⟨"SteppingStonesModel", "laysSteps", "([IZI)V"⟩, 55) := ⟨⟨by decide +kernel, by decide +kernel⟩, List.mem_of_getElem? (i := 889) (by decide +kernel), List.mem_of_getElem? (i := 1292) (by decide +kernel), List.mem_of_getElem? (i := 1293) (by decide +kernel)⟩
theorem lw_p49 : lw_okq (⟨"SteppingStonesModel", "isByBank", "(IZI)Z"⟩, 55) := ⟨⟨by decide +kernel, by decide +kernel⟩, List.mem_of_getElem? (i := 889) (by decide +kernel), List.mem_of_getElem? (i := 1296) (by decide +kernel), List.mem_of_getElem? (i := 1297) (by decide +kernel)⟩
theorem lw_p50 : lw_okq (⟨"SteppingStonesModel", "isDry", "(I)Z"⟩, 55) := ⟨⟨by decide +kernel, by decide +kernel⟩, List.mem_of_getElem? (i := 889) (by decide +kernel), List.mem_of_getElem? (i := 1300) (by decide +kernel), List.mem_of_getElem? (i := 1301) (by decide +kernel)⟩
theorem lw_p51 : lw_okq (⟨"SteppingStonesModel", "canStep", "(III)Z"⟩, 55) := ⟨⟨by decide +kernel, by decide +kernel⟩, List.mem_of_getElem? (i := 889) (by decide +kernel), List.mem_of_getElem? (i := 1304) (by decide +kernel), List.mem_of_getElem? (i := 1305) (by decide +kernel)⟩
theorem lw_p52 : lw_okq (⟨"SteppingStonesModel", "laysRows", "(I)V"⟩, 55) := ⟨⟨by decide +kernel, by decide +kernel⟩, List.mem_of_getElem? (i := 889) (by decide +kernel), List.mem_of_getElem? (i := 1308) (by decide +kernel), List.mem_of_getElem? (i := 1309) (by decide +kernel)⟩
theorem lw_p53 : lw_okq (⟨"SteppingStonesModel", "dryCost", "(I)I"⟩, 55) := ⟨⟨by decide +kernel, by decide +kernel⟩, List.mem_of_getElem? (i := 889) (by decide +kernel), List.mem_of_getElem? (i := 1317) (by decide +kernel), List.mem_of_getElem? (i := 1318) (by decide +kernel)⟩
theorem lw_p54 : lw_okq (⟨"SteppingStonesModel", "laysRoom", "(I)V"⟩, 55) := ⟨⟨by decide +kernel, by decide +kernel⟩, List.mem_of_getElem? (i := 889) (by decide +kernel), List.mem_of_getElem? (i := 1334) (by decide +kernel), List.mem_of_getElem? (i := 1335) (by decide +kernel)⟩
theorem lw_p55 : lw_okq (⟨"SteppingStonesModel", "goesAcross", "()Z"⟩, 55) := ⟨⟨by decide +kernel, by decide +kernel⟩, List.mem_of_getElem? (i := 889) (by decide +kernel), List.mem_of_getElem? (i := 1338) (by decide +kernel), List.mem_of_getElem? (i := 1339) (by decide +kernel)⟩
theorem lw_p56 : lw_okq (⟨"SteppingStonesModel", "wouldDo", "(III)Z"⟩, 55) := ⟨⟨by decide +kernel, by decide +kernel⟩, List.mem_of_getElem? (i := 889) (by decide +kernel), List.mem_of_getElem? (i := 1346) (by decide +kernel), List.mem_of_getElem? (i := 1347) (by decide +kernel)⟩
theorem lw_p57 : lw_okq (⟨"SteppingStonesModel", "laysIslands", "(I)I"⟩, 55) := ⟨⟨by decide +kernel, by decide +kernel⟩, List.mem_of_getElem? (i := 889) (by decide +kernel), List.mem_of_getElem? (i := 1354) (by decide +kernel), List.mem_of_getElem? (i := 1355) (by decide +kernel)⟩
theorem lw_p58 : lw_okq (⟨"SteppingStonesModel", "readsWalk", "()Z"⟩, 55) := ⟨⟨by decide +kernel, by decide +kernel⟩, List.mem_of_getElem? (i := 889) (by decide +kernel), List.mem_of_getElem? (i := 1378) (by decide +kernel), List.mem_of_getElem? (i := 1379) (by decide +kernel)⟩
theorem lw_p59 : lw_okq (⟨"SteppingStonesModel", "readsHops", "()Z"⟩, 55) := ⟨⟨by decide +kernel, by decide +kernel⟩, List.mem_of_getElem? (i := 889) (by decide +kernel), List.mem_of_getElem? (i := 1382) (by decide +kernel), List.mem_of_getElem? (i := 1383) (by decide +kernel)⟩
theorem lw_p60 : lw_okq (⟨"SteppingStonesModel", "endsRound", "()Z"⟩, 55) := ⟨⟨by decide +kernel, by decide +kernel⟩, List.mem_of_getElem? (i := 889) (by decide +kernel), List.mem_of_getElem? (i := 1386) (by decide +kernel), List.mem_of_getElem? (i := 1387) (by decide +kernel)⟩
theorem lw_p61 : lw_okq (⟨"SteppingStonesModel", "listsStones", "(IZ)Z"⟩, 55) := ⟨⟨by decide +kernel, by decide +kernel⟩, List.mem_of_getElem? (i := 889) (by decide +kernel), List.mem_of_getElem? (i := 1394) (by decide +kernel), List.mem_of_getElem? (i := 1395) (by decide +kernel)⟩
theorem lw_p62 : lw_okq (⟨"SteppingStonesModel", "octet", "(I)I"⟩, 55) := ⟨⟨by decide +kernel, by decide +kernel⟩, List.mem_of_getElem? (i := 889) (by decide +kernel), List.mem_of_getElem? (i := 1398) (by decide +kernel), List.mem_of_getElem? (i := 1399) (by decide +kernel)⟩
theorem lw_p63 : lw_okq (⟨"SteppingStonesModel", "beginsRows", "(I)V"⟩, 55) := ⟨⟨by decide +kernel, by decide +kernel⟩, List.mem_of_getElem? (i := 889) (by decide +kernel), List.mem_of_getElem? (i := 1402) (by decide +kernel), List.mem_of_getElem? (i := 1403) (by decide +kernel)⟩
def lw_privs_4 : List (MethodName × Nat) := [(⟨"SteppingStonesModel", "laysSteps", "([IZI)V"⟩, 55), (⟨"SteppingStonesModel", "isByBank", "(IZI)Z"⟩, 55), (⟨"SteppingStonesModel", "isDry", "(I)Z"⟩, 55), (⟨"SteppingStonesModel", "canStep", "(III)Z"⟩, 55), (⟨"SteppingStonesModel", "laysRows", "(I)V"⟩, 55), (⟨"SteppingStonesModel", "dryCost", "(I)I"⟩, 55), (⟨"SteppingStonesModel", "laysRoom", "(I)V"⟩, 55), (⟨"SteppingStonesModel", "goesAcross", "()Z"⟩, 55), (⟨"SteppingStonesModel", "wouldDo", "(III)Z"⟩, 55), (⟨"SteppingStonesModel", "laysIslands", "(I)I"⟩, 55), (⟨"SteppingStonesModel", "readsWalk", "()Z"⟩, 55), (⟨"SteppingStonesModel", "readsHops", "()Z"⟩, 55), (⟨"SteppingStonesModel", "endsRound", "()Z"⟩, 55), (⟨"SteppingStonesModel", "listsStones", "(IZ)Z"⟩, 55), (⟨"SteppingStonesModel", "octet", "(I)I"⟩, 55), (⟨"SteppingStonesModel", "beginsRows", "(I)V"⟩, 55)]
theorem lw_r4 : ∀ q ∈ lw_privs_4, lw_okq q := List.forall_mem_cons.mpr ⟨lw_p48, List.forall_mem_cons.mpr ⟨lw_p49, List.forall_mem_cons.mpr ⟨lw_p50, List.forall_mem_cons.mpr ⟨lw_p51, List.forall_mem_cons.mpr ⟨lw_p52, List.forall_mem_cons.mpr ⟨lw_p53, List.forall_mem_cons.mpr ⟨lw_p54, List.forall_mem_cons.mpr ⟨lw_p55, List.forall_mem_cons.mpr ⟨lw_p56, List.forall_mem_cons.mpr ⟨lw_p57, List.forall_mem_cons.mpr ⟨lw_p58, List.forall_mem_cons.mpr ⟨lw_p59, List.forall_mem_cons.mpr ⟨lw_p60, List.forall_mem_cons.mpr ⟨lw_p61, List.forall_mem_cons.mpr ⟨lw_p62, List.forall_mem_cons.mpr ⟨lw_p63, fun _ h => absurd h List.not_mem_nil⟩⟩⟩⟩⟩⟩⟩⟩⟩⟩⟩⟩⟩⟩⟩⟩
theorem lw_p64 : lw_okq (⟨"SteppingStonesModel", "chalkOff", "(I)I"⟩, 55) := ⟨⟨by decide +kernel, by decide +kernel⟩, List.mem_of_getElem? (i := 889) (by decide +kernel), List.mem_of_getElem? (i := 1406) (by decide +kernel), List.mem_of_getElem? (i := 1407) (by decide +kernel)⟩
theorem lw_p65 : lw_okq (⟨"SteppingStonesModel", "nextRow", "(II)Z"⟩, 55) := ⟨⟨by decide +kernel, by decide +kernel⟩, List.mem_of_getElem? (i := 889) (by decide +kernel), List.mem_of_getElem? (i := 1413) (by decide +kernel), List.mem_of_getElem? (i := 1414) (by decide +kernel)⟩
theorem lw_p66 : lw_okq (⟨"SteppingStonesModel", "changes", "(II)V"⟩, 55) := ⟨⟨by decide +kernel, by decide +kernel⟩, List.mem_of_getElem? (i := 889) (by decide +kernel), List.mem_of_getElem? (i := 1417) (by decide +kernel), List.mem_of_getElem? (i := 1418) (by decide +kernel)⟩
theorem lw_p67 : lw_okq (⟨"SteppingStonesModel", "mostInLine", "()I"⟩, 55) := ⟨⟨by decide +kernel, by decide +kernel⟩, List.mem_of_getElem? (i := 889) (by decide +kernel), List.mem_of_getElem? (i := 1425) (by decide +kernel), List.mem_of_getElem? (i := 1426) (by decide +kernel)⟩
theorem lw_p68 : lw_okq (⟨"SteppingStonesModel", "areInLine", "(III)Z"⟩, 55) := ⟨⟨by decide +kernel, by decide +kernel⟩, List.mem_of_getElem? (i := 889) (by decide +kernel), List.mem_of_getElem? (i := 1429) (by decide +kernel), List.mem_of_getElem? (i := 1430) (by decide +kernel)⟩
theorem lw_p69 : lw_okq (⟨"SteppingStonesModel", "yardRow", "()I"⟩, 55) := ⟨⟨by decide +kernel, by decide +kernel⟩, List.mem_of_getElem? (i := 889) (by decide +kernel), List.mem_of_getElem? (i := 1433) (by decide +kernel), List.mem_of_getElem? (i := 1434) (by decide +kernel)⟩
theorem lw_p70 : lw_okq (⟨"SteppingStonesModel", "pairsOf", "()I"⟩, 55) := ⟨⟨by decide +kernel, by decide +kernel⟩, List.mem_of_getElem? (i := 889) (by decide +kernel), List.mem_of_getElem? (i := 1437) (by decide +kernel), List.mem_of_getElem? (i := 1438) (by decide +kernel)⟩
theorem lw_p71 : lw_okq (⟨"SteppingStonesModel", "nearestTo", "(I)I"⟩, 55) := ⟨⟨by decide +kernel, by decide +kernel⟩, List.mem_of_getElem? (i := 889) (by decide +kernel), List.mem_of_getElem? (i := 1441) (by decide +kernel), List.mem_of_getElem? (i := 1442) (by decide +kernel)⟩
theorem lw_p72 : lw_okq (⟨"SteppingStonesModel", "closest", "()I"⟩, 55) := ⟨⟨by decide +kernel, by decide +kernel⟩, List.mem_of_getElem? (i := 889) (by decide +kernel), List.mem_of_getElem? (i := 1445) (by decide +kernel), List.mem_of_getElem? (i := 1446) (by decide +kernel)⟩
def lw_privs_5 : List (MethodName × Nat) := [(⟨"SteppingStonesModel", "chalkOff", "(I)I"⟩, 55), (⟨"SteppingStonesModel", "nextRow", "(II)Z"⟩, 55), (⟨"SteppingStonesModel", "changes", "(II)V"⟩, 55), (⟨"SteppingStonesModel", "mostInLine", "()I"⟩, 55), (⟨"SteppingStonesModel", "areInLine", "(III)Z"⟩, 55), (⟨"SteppingStonesModel", "yardRow", "()I"⟩, 55), (⟨"SteppingStonesModel", "pairsOf", "()I"⟩, 55), (⟨"SteppingStonesModel", "nearestTo", "(I)I"⟩, 55), (⟨"SteppingStonesModel", "closest", "()I"⟩, 55)]
theorem lw_r5 : ∀ q ∈ lw_privs_5, lw_okq q := List.forall_mem_cons.mpr ⟨lw_p64, List.forall_mem_cons.mpr ⟨lw_p65, List.forall_mem_cons.mpr ⟨lw_p66, List.forall_mem_cons.mpr ⟨lw_p67, List.forall_mem_cons.mpr ⟨lw_p68, List.forall_mem_cons.mpr ⟨lw_p69, List.forall_mem_cons.mpr ⟨lw_p70, List.forall_mem_cons.mpr ⟨lw_p71, List.forall_mem_cons.mpr ⟨lw_p72, fun _ h => absurd h List.not_mem_nil⟩⟩⟩⟩⟩⟩⟩⟩⟩
def lw_privs : List (MethodName × Nat) := lw_privs_1 ++ (lw_privs_2 ++ (lw_privs_3 ++ (lw_privs_4 ++ (lw_privs_5))))
def lw_tbl : List Cond := k2_sels lw_privs ++ tables_1
theorem lw_privs_ok : ∀ q ∈ lw_privs, lw_okq q := by
  show ∀ q ∈ lw_privs_1 ++ (lw_privs_2 ++ (lw_privs_3 ++ (lw_privs_4 ++ (lw_privs_5)))), lw_okq q
  exact List.forall_mem_append.mpr ⟨lw_r1, List.forall_mem_append.mpr ⟨lw_r2, List.forall_mem_append.mpr ⟨lw_r3, List.forall_mem_append.mpr ⟨lw_r4, lw_r5⟩⟩⟩⟩
end
section
theorem goodIn_r {big : List Cond} (ws : List Cond) (ps : List Nat) (hp : ws = ps.filterMap (fun i => big[i]?)) (h : ws.all goodWord = true) : GoodIn big ws := by
  intro w hw
  have h1 := List.all_eq_true.mp h w hw
  rw [hp] at hw
  obtain ⟨i, -, hi⟩ := List.mem_filterMap.mp hw
  have hm : w ∈ big := by first | exact List.mem_of_getElem? hi | exact List.getElem?_mem hi
  exact ⟨hm, good_of_word h1⟩
theorem goodIn_app {big a b : List Cond} (ha : GoodIn big a) (hb : GoodIn big b) : GoodIn big (a ++ b) := fun w h => (List.mem_append.mp h).elim (ha w) (hb w)
theorem goodIn_ca {big a b : List Cond} {c : Cond} (ha : GoodIn big (c :: a)) (hb : GoodIn big b) : GoodIn big (c :: (a ++ b)) := fun w h => (List.mem_cons.mp h).elim (fun e => ha w (List.mem_cons.mpr (Or.inl e))) (fun h => (List.mem_append.mp h).elim (fun h => ha w (List.mem_cons.mpr (Or.inr h))) (hb w))
theorem goodIn_sub {big ws : List Cond} (hm : ∀ w ∈ ws, w ∈ big) (h : ws.all goodWord = true) : GoodIn big ws := fun w hw => ⟨hm w hw, good_of_word (List.all_eq_true.mp h w hw)⟩
def RX0 : String := "SteppingStones$Chalk"
def TX0 : u_T := fun k => match k with
  | 0 => ("SteppingStones$Chalk", "markX", "[I", true)
  | 1 => ("SteppingStones$Chalk", "markY", "[I", true)
  | 2 => ("SteppingStones$Chalk", "lowest", "[I", true)
  | 3 => ("SteppingStones$Chalk", "ways", "[I", true)
  | _ => ("SteppingStones$Chalk", "rest", "[I", true)
def tyX0 : Nat → FieldType := fun k => match k with
  | 0 => .array .int
  | 1 => .array .int
  | 2 => .array .int
  | 3 => .array .int
  | _ => .array .int
abbrev wsX00 : List Cond := u_ws RX0 TX0 5
theorem nmX0 : ∀ a, a < 5 → ∀ b, b < 5 → a ≠ b → (TX0 a).2.1 ≠ (TX0 b).2.1 := by decide +kernel
theorem tyX0_ok : ∀ k, k < 5 → parseFieldDescriptor (TX0 k).2.2.1 = some (tyX0 k) := by decide +kernel
abbrev cX0_init : ByteArray := prog_2_method_1_code
def yX0_init : MethodName := ⟨RX0, "<init>", "()V"⟩
abbrev cX0_read : ByteArray := prog_2_method_2_code
def yX0_read : MethodName := ⟨RX0, "read", "(LSteppingStones$Tape;I)Z"⟩
abbrev cX0_match : ByteArray := prog_2_method_3_code
def yX0_match : MethodName := ⟨RX0, "match", "(LSteppingStones$Ford;I)V"⟩
abbrev cX0_measure : ByteArray := prog_2_method_4_code
def yX0_measure : MethodName := ⟨RX0, "measure", "(LSteppingStones$Ford;II)V"⟩
abbrev cX0_fewestBehind : ByteArray := prog_2_method_5_code
def yX0_fewestBehind : MethodName := ⟨RX0, "fewestBehind", "(II)I"⟩
abbrev cX0_wayWith : ByteArray := prog_2_method_6_code
def yX0_wayWith : MethodName := ⟨RX0, "wayWith", "(III)I"⟩
abbrev cX0_wayInAll : ByteArray := prog_2_method_7_code
def yX0_wayInAll : MethodName := ⟨RX0, "wayInAll", "()I"⟩
abbrev cX0_stoneOf : ByteArray := prog_2_method_8_code
def yX0_stoneOf : MethodName := ⟨RX0, "stoneOf", "(II)I"⟩
def RX1 : String := "SteppingStones$Dam"
def TX1 : u_T := fun k => match k with
  | 0 => ("SteppingStones$Dam", "before", "[I", true)
  | 1 => ("SteppingStones$Dam", "cameFrom", "[I", true)
  | 2 => ("SteppingStones$Dam", "queue", "[I", true)
  | _ => ("SteppingStones$Dam", "tail", "I", false)
def tyX1 : Nat → FieldType := fun k => match k with
  | 0 => .array .int
  | 1 => .array .int
  | 2 => .array .int
  | _ => .int
abbrev wsX10 : List Cond := u_ws RX1 TX1 4
theorem nmX1 : ∀ a, a < 4 → ∀ b, b < 4 → a ≠ b → (TX1 a).2.1 ≠ (TX1 b).2.1 := by decide +kernel
theorem tyX1_ok : ∀ k, k < 4 → parseFieldDescriptor (TX1 k).2.2.1 = some (tyX1 k) := by decide +kernel
abbrev cX1_init : ByteArray := prog_3_method_1_code
def yX1_init : MethodName := ⟨RX1, "<init>", "()V"⟩
abbrev cX1_fewest : ByteArray := prog_3_method_2_code
def yX1_fewest : MethodName := ⟨RX1, "fewest", "(LSteppingStones$Ford;I)I"⟩
abbrev cX1_search : ByteArray := prog_3_method_3_code
def yX1_search : MethodName := ⟨RX1, "search", "(LSteppingStones$Ford;I)I"⟩
abbrev cX1_reach : ByteArray := prog_3_method_4_code
def yX1_reach : MethodName := ⟨RX1, "reach", "(II)V"⟩
abbrev cX1_comeOn : ByteArray := prog_3_method_5_code
def yX1_comeOn : MethodName := ⟨RX1, "comeOn", "(I)V"⟩
abbrev cX1_leave : ByteArray := prog_3_method_6_code
def yX1_leave : MethodName := ⟨RX1, "leave", "(LSteppingStones$Ford;II)Z"⟩
abbrev cX1_weave : ByteArray := prog_3_method_7_code
def yX1_weave : MethodName := ⟨RX1, "weave", "(I)V"⟩
abbrev cX1_join : ByteArray := prog_3_method_8_code
def yX1_join : MethodName := ⟨RX1, "join", "(II)V"⟩
def RX2 : String := "SteppingStones$Ford"
def TX2 : u_T := fun k => match k with
  | 0 => ("SteppingStones$Ford", "x", "[I", true)
  | 1 => ("SteppingStones$Ford", "y", "[I", true)
  | 2 => ("SteppingStones$Ford", "slippery", "[I", true)
  | 3 => ("SteppingStones$Ford", "told", "[Z", true)
  | 4 => ("SteppingStones$Ford", "sunk", "[Z", true)
  | 5 => ("SteppingStones$Ford", "night", "I", false)
  | _ => ("SteppingStones$Ford", "drawn", "I", false)
def tyX2 : Nat → FieldType := fun k => match k with
  | 0 => .array .int
  | 1 => .array .int
  | 2 => .array .int
  | 3 => .array .boolean
  | 4 => .array .boolean
  | 5 => .int
  | _ => .int
abbrev wsX20 : List Cond := u_ws RX2 TX2 7
theorem nmX2 : ∀ a, a < 7 → ∀ b, b < 7 → a ≠ b → (TX2 a).2.1 ≠ (TX2 b).2.1 := by decide +kernel
theorem tyX2_ok : ∀ k, k < 7 → parseFieldDescriptor (TX2 k).2.2.1 = some (tyX2 k) := by decide +kernel
abbrev cX2_init : ByteArray := prog_4_method_1_code
def yX2_init : MethodName := ⟨RX2, "<init>", "()V"⟩
abbrev cX2_copyStones : ByteArray := prog_4_method_2_code
def yX2_copyStones : MethodName := ⟨RX2, "copyStones", "(LSteppingStones$Ford;)V"⟩
abbrev cX2_copyAll : ByteArray := prog_4_method_3_code
def yX2_copyAll : MethodName := ⟨RX2, "copyAll", "(LSteppingStones$Ford;)V"⟩
abbrev cX2_clearStones : ByteArray := prog_4_method_4_code
def yX2_clearStones : MethodName := ⟨RX2, "clearStones", "()V"⟩
abbrev cX2_lay : ByteArray := prog_4_method_5_code
def yX2_lay : MethodName := ⟨RX2, "lay", "(IIIIZ)V"⟩
abbrev cX2_isTold : ByteArray := prog_4_method_6_code
def yX2_isTold : MethodName := ⟨RX2, "isTold", "(I)Z"⟩
abbrev cX2_isDry : ByteArray := prog_4_method_7_code
def yX2_isDry : MethodName := ⟨RX2, "isDry", "(I)Z"⟩
abbrev cX2_stoneAt : ByteArray := prog_4_method_8_code
def yX2_stoneAt : MethodName := ⟨RX2, "stoneAt", "(II)I"⟩
abbrev cX2_nextDry : ByteArray := prog_4_method_9_code
def yX2_nextDry : MethodName := ⟨RX2, "nextDry", "(I)I"⟩
abbrev cX2_nextTold : ByteArray := prog_4_method_10_code
def yX2_nextTold : MethodName := ⟨RX2, "nextTold", "(I)I"⟩
abbrev cX2_countTold : ByteArray := prog_4_method_11_code
def yX2_countTold : MethodName := ⟨RX2, "countTold", "()I"⟩
abbrev cX2_countSunk : ByteArray := prog_4_method_12_code
def yX2_countSunk : MethodName := ⟨RX2, "countSunk", "()I"⟩
abbrev cX2_sumOfX : ByteArray := prog_4_method_13_code
def yX2_sumOfX : MethodName := ⟨RX2, "sumOfX", "()I"⟩
abbrev cX2_countClose : ByteArray := prog_4_method_14_code
def yX2_countClose : MethodName := ⟨RX2, "countClose", "(I)I"⟩
abbrev cX2_squares : ByteArray := prog_4_method_15_code
def yX2_squares : MethodName := ⟨RX2, "squares", "(II)I"⟩
abbrev cX2_draw : ByteArray := prog_4_method_16_code
def yX2_draw : MethodName := ⟨RX2, "draw", "()I"⟩
abbrev cX2_canStand : ByteArray := prog_4_method_17_code
def yX2_canStand : MethodName := ⟨RX2, "canStand", "(I)Z"⟩
abbrev cX2_heightOf : ByteArray := prog_4_method_18_code
def yX2_heightOf : MethodName := ⟨RX2, "heightOf", "(I)I"⟩
abbrev cX2_isStep : ByteArray := prog_4_method_19_code
def yX2_isStep : MethodName := ⟨RX2, "isStep", "(III)Z"⟩
abbrev cX2_isStepFrom : ByteArray := prog_4_method_20_code
def yX2_isStepFrom : MethodName := ⟨RX2, "isStepFrom", "(IIII)Z"⟩
def RX3 : String := "SteppingStones$Law"
def TX3 : u_T := fun k => match k with
  | 0 => ("SteppingStones$Law", "orders", "[I", true)
  | 1 => ("SteppingStones$Law", "operands", "[I", true)
  | 2 => ("SteppingStones$Law", "stack", "[I", true)
  | 3 => ("SteppingStones$Law", "letterOf", "[I", true)
  | 4 => ("SteppingStones$Law", "amountFrom", "[I", true)
  | 5 => ("SteppingStones$Law", "testFrom", "[I", true)
  | 6 => ("SteppingStones$Law", "until", "[I", true)
  | 7 => ("SteppingStones$Law", "size", "I", false)
  | 8 => ("SteppingStones$Law", "rules", "I", false)
  | _ => ("SteppingStones$Law", "asksClose", "Z", false)
def tyX3 : Nat → FieldType := fun k => match k with
  | 0 => .array .int
  | 1 => .array .int
  | 2 => .array .int
  | 3 => .array .int
  | 4 => .array .int
  | 5 => .array .int
  | 6 => .array .int
  | 7 => .int
  | 8 => .int
  | _ => .boolean
abbrev wsX30 : List Cond := u_ws RX3 TX3 10
theorem nmX3 : ∀ a, a < 10 → ∀ b, b < 10 → a ≠ b → (TX3 a).2.1 ≠ (TX3 b).2.1 := by decide +kernel
theorem tyX3_ok : ∀ k, k < 10 → parseFieldDescriptor (TX3 k).2.2.1 = some (tyX3 k) := by decide +kernel
abbrev cX3_init : ByteArray := prog_5_method_1_code
def yX3_init : MethodName := ⟨RX3, "<init>", "()V"⟩
abbrev cX3_compile : ByteArray := prog_5_method_2_code
def yX3_compile : MethodName := ⟨RX3, "compile", "(LSteppingStones$Tape;)I"⟩
abbrev cX3_isRuleLetter : ByteArray := prog_5_method_3_code
def yX3_isRuleLetter : MethodName := ⟨RX3, "isRuleLetter", "(I)Z"⟩
abbrev cX3_compileChoice : ByteArray := prog_5_method_4_code
def yX3_compileChoice : MethodName := ⟨RX3, "compileChoice", "(LSteppingStones$Tape;I)Z"⟩
abbrev cX3_compileTest : ByteArray := prog_5_method_5_code
def yX3_compileTest : MethodName := ⟨RX3, "compileTest", "(LSteppingStones$Tape;I)Z"⟩
abbrev cX3_compileSum : ByteArray := prog_5_method_6_code
def yX3_compileSum : MethodName := ⟨RX3, "compileSum", "(LSteppingStones$Tape;I)Z"⟩
abbrev cX3_compileFactor : ByteArray := prog_5_method_7_code
def yX3_compileFactor : MethodName := ⟨RX3, "compileFactor", "(LSteppingStones$Tape;I)Z"⟩
abbrev cX3_order : ByteArray := prog_5_method_8_code
def yX3_order : MethodName := ⟨RX3, "order", "(II)V"⟩
abbrev cX3_landHere : ByteArray := prog_5_method_9_code
def yX3_landHere : MethodName := ⟨RX3, "landHere", "(I)V"⟩
abbrev cX3_amountOf : ByteArray := prog_5_method_10_code
def yX3_amountOf : MethodName := ⟨RX3, "amountOf", "(I[I)I"⟩
abbrev cX3_doesSink : ByteArray := prog_5_method_11_code
def yX3_doesSink : MethodName := ⟨RX3, "doesSink", "([I)Z"⟩
abbrev cX3_doesHold : ByteArray := prog_5_method_12_code
def yX3_doesHold : MethodName := ⟨RX3, "doesHold", "(I[I)Z"⟩
abbrev cX3_reckon : ByteArray := prog_5_method_13_code
def yX3_reckon : MethodName := ⟨RX3, "reckon", "(II[I)I"⟩
abbrev cX3_combine : ByteArray := prog_5_method_14_code
def yX3_combine : MethodName := ⟨RX3, "combine", "(III)I"⟩
def RX4 : String := "SteppingStones$Plan"
def TX4 : u_T := fun k => match k with
  | 0 => ("SteppingStones$Plan", "up", "[I", true)
  | 1 => ("SteppingStones$Plan", "over", "[I", true)
  | 2 => ("SteppingStones$Plan", "steps", "I", false)
  | 3 => ("SteppingStones$Plan", "good", "I", false)
  | 4 => ("SteppingStones$Plan", "x", "I", false)
  | _ => ("SteppingStones$Plan", "y", "I", false)
def tyX4 : Nat → FieldType := fun k => match k with
  | 0 => .array .int
  | 1 => .array .int
  | 2 => .int
  | 3 => .int
  | 4 => .int
  | _ => .int
abbrev wsX40 : List Cond := u_ws RX4 TX4 6
theorem nmX4 : ∀ a, a < 6 → ∀ b, b < 6 → a ≠ b → (TX4 a).2.1 ≠ (TX4 b).2.1 := by decide +kernel
theorem tyX4_ok : ∀ k, k < 6 → parseFieldDescriptor (TX4 k).2.2.1 = some (tyX4 k) := by decide +kernel
abbrev cX4_init : ByteArray := prog_6_method_1_code
def yX4_init : MethodName := ⟨RX4, "<init>", "()V"⟩
abbrev cX4_read : ByteArray := prog_6_method_2_code
def yX4_read : MethodName := ⟨RX4, "read", "(LSteppingStones$Tape;)Z"⟩
abbrev cX4_readSteps : ByteArray := prog_6_method_3_code
def yX4_readSteps : MethodName := ⟨RX4, "readSteps", "(LSteppingStones$Tape;I)Z"⟩
abbrev cX4_readRound : ByteArray := prog_6_method_4_code
def yX4_readRound : MethodName := ⟨RX4, "readRound", "(LSteppingStones$Tape;I)Z"⟩
abbrev cX4_repeat : ByteArray := prog_6_method_5_code
def yX4_repeat : MethodName := ⟨RX4, "repeat", "(II)Z"⟩
abbrev cX4_readHops : ByteArray := prog_6_method_6_code
def yX4_readHops : MethodName := ⟨RX4, "readHops", "(LSteppingStones$Tape;)Z"⟩
abbrev cX4_isHop : ByteArray := prog_6_method_7_code
def yX4_isHop : MethodName := ⟨RX4, "isHop", "(I)Z"⟩
abbrev cX4_go : ByteArray := prog_6_method_8_code
def yX4_go : MethodName := ⟨RX4, "go", "(LSteppingStones$Ford;II)V"⟩
abbrev cX4_isFooting : ByteArray := prog_6_method_9_code
def yX4_isFooting : MethodName := ⟨RX4, "isFooting", "(LSteppingStones$Ford;II)Z"⟩
def RX5 : String := "SteppingStones$River"
def TX5 : u_T := fun k => match k with
  | 0 => ("SteppingStones$River", "values", "[I", true)
  | 1 => ("SteppingStones$River", "moved", "I", false)
  | _ => ("SteppingStones$River", "stayed", "I", false)
def tyX5 : Nat → FieldType := fun k => match k with
  | 0 => .array .int
  | 1 => .int
  | _ => .int
abbrev wsX50 : List Cond := u_ws RX5 TX5 3
theorem nmX5 : ∀ a, a < 3 → ∀ b, b < 3 → a ≠ b → (TX5 a).2.1 ≠ (TX5 b).2.1 := by decide +kernel
theorem tyX5_ok : ∀ k, k < 3 → parseFieldDescriptor (TX5 k).2.2.1 = some (tyX5 k) := by decide +kernel
abbrev cX5_init : ByteArray := prog_7_method_1_code
def yX5_init : MethodName := ⟨RX5, "<init>", "()V"⟩
abbrev cX5_indexOf : ByteArray := prog_7_method_2_code
def yX5_indexOf : MethodName := ⟨RX5, "indexOf", "(I)I"⟩
abbrev cX5_pass : ByteArray := prog_7_method_3_code
def yX5_pass : MethodName := ⟨RX5, "pass", "(LSteppingStones$Ford;LSteppingStones$Law;I)V"⟩
abbrev cX5_turn : ByteArray := prog_7_method_4_code
def yX5_turn : MethodName := ⟨RX5, "turn", "(LSteppingStones$Ford;LSteppingStones$Law;I)V"⟩
abbrev cX5_look : ByteArray := prog_7_method_5_code
def yX5_look : MethodName := ⟨RX5, "look", "(LSteppingStones$Ford;LSteppingStones$Law;I)V"⟩
abbrev cX5_shift : ByteArray := prog_7_method_6_code
def yX5_shift : MethodName := ⟨RX5, "shift", "(LSteppingStones$Ford;III)V"⟩
def RX6 : String := "SteppingStones$Shapes"
def TX6 : u_T := fun k => match k with
  | _ => ("", "", "", false)
def tyX6 : Nat → FieldType := fun k => match k with
  | _ => .int
abbrev wsX60 : List Cond := u_ws RX6 TX6 0
theorem nmX6 : ∀ a, a < 0 → ∀ b, b < 0 → a ≠ b → (TX6 a).2.1 ≠ (TX6 b).2.1 := by decide +kernel
theorem tyX6_ok : ∀ k, k < 0 → parseFieldDescriptor (TX6 k).2.2.1 = some (tyX6 k) := by decide +kernel
abbrev cX6_line : ByteArray := prog_8_method_2_code
def yX6_line : MethodName := ⟨RX6, "line", "(LSteppingStones$Ford;)I"⟩
abbrev cX6_countOnLine : ByteArray := prog_8_method_3_code
def yX6_countOnLine : MethodName := ⟨RX6, "countOnLine", "(LSteppingStones$Ford;II)I"⟩
abbrev cX6_yardApart : ByteArray := prog_8_method_4_code
def yX6_yardApart : MethodName := ⟨RX6, "yardApart", "(LSteppingStones$Ford;)I"⟩
abbrev cX6_pairs : ByteArray := prog_8_method_5_code
def yX6_pairs : MethodName := ⟨RX6, "pairs", "(LSteppingStones$Ford;)I"⟩
abbrev cX6_nearest : ByteArray := prog_8_method_6_code
def yX6_nearest : MethodName := ⟨RX6, "nearest", "(LSteppingStones$Ford;I)I"⟩
abbrev cX6_closest : ByteArray := prog_8_method_7_code
def yX6_closest : MethodName := ⟨RX6, "closest", "(LSteppingStones$Ford;)I"⟩
def RX7 : String := "SteppingStones$Tape"
def TX7 : u_T := fun k => match k with
  | 0 => ("SteppingStones$Tape", "bytes", "[I", true)
  | 1 => ("SteppingStones$Tape", "size", "I", false)
  | 2 => ("SteppingStones$Tape", "end", "I", false)
  | 3 => ("SteppingStones$Tape", "place", "I", false)
  | _ => ("SteppingStones$Tape", "fault", "I", false)
def tyX7 : Nat → FieldType := fun k => match k with
  | 0 => .array .int
  | 1 => .int
  | 2 => .int
  | 3 => .int
  | _ => .int
abbrev wsX70 : List Cond := u_ws RX7 TX7 5
theorem nmX7 : ∀ a, a < 5 → ∀ b, b < 5 → a ≠ b → (TX7 a).2.1 ≠ (TX7 b).2.1 := by decide +kernel
theorem tyX7_ok : ∀ k, k < 5 → parseFieldDescriptor (TX7 k).2.2.1 = some (tyX7 k) := by decide +kernel
abbrev cX7_init : ByteArray := prog_9_method_1_code
def yX7_init : MethodName := ⟨RX7, "<init>", "()V"⟩
abbrev cX7_append : ByteArray := prog_9_method_2_code
def yX7_append : MethodName := ⟨RX7, "append", "(I)V"⟩
abbrev cX7_holds : ByteArray := prog_9_method_3_code
def yX7_holds : MethodName := ⟨RX7, "holds", "(III)Z"⟩
abbrev cX7_open : ByteArray := prog_9_method_4_code
def yX7_open : MethodName := ⟨RX7, "open", "(I)V"⟩
abbrev cX7_byteAt : ByteArray := prog_9_method_5_code
def yX7_byteAt : MethodName := ⟨RX7, "byteAt", "(I)I"⟩
abbrev cX7_here : ByteArray := prog_9_method_6_code
def yX7_here : MethodName := ⟨RX7, "here", "()I"⟩
abbrev cX7_refuse : ByteArray := prog_9_method_7_code
def yX7_refuse : MethodName := ⟨RX7, "refuse", "(II)Z"⟩
abbrev cX7_skip : ByteArray := prog_9_method_8_code
def yX7_skip : MethodName := ⟨RX7, "skip", "(I)Z"⟩
abbrev cX7_isDigit : ByteArray := prog_9_method_9_code
def yX7_isDigit : MethodName := ⟨RX7, "isDigit", "(I)Z"⟩
abbrev cX7_number : ByteArray := prog_9_method_10_code
def yX7_number : MethodName := ⟨RX7, "number", "(I)I"⟩
def RX8 : String := "SteppingStones$Ways"
def TX8 : u_T := fun k => match k with
  | 0 => ("SteppingStones$Ways", "fromNear", "[I", true)
  | 1 => ("SteppingStones$Ways", "fromFar", "[I", true)
  | 2 => ("SteppingStones$Ways", "queue", "[I", true)
  | 3 => ("SteppingStones$Ways", "rows", "[I", true)
  | 4 => ("SteppingStones$Ways", "costs", "[I", true)
  | _ => ("SteppingStones$Ways", "settled", "[Z", true)
def tyX8 : Nat → FieldType := fun k => match k with
  | 0 => .array .int
  | 1 => .array .int
  | 2 => .array .int
  | 3 => .array .int
  | 4 => .array .int
  | _ => .array .boolean
abbrev wsX80 : List Cond := u_ws RX8 TX8 6
theorem nmX8 : ∀ a, a < 6 → ∀ b, b < 6 → a ≠ b → (TX8 a).2.1 ≠ (TX8 b).2.1 := by decide +kernel
theorem tyX8_ok : ∀ k, k < 6 → parseFieldDescriptor (TX8 k).2.2.1 = some (tyX8 k) := by decide +kernel
abbrev cX8_init : ByteArray := prog_10_method_1_code
def yX8_init : MethodName := ⟨RX8, "<init>", "()V"⟩
abbrev cX8_spread : ByteArray := prog_10_method_2_code
def yX8_spread : MethodName := ⟨RX8, "spread", "(LSteppingStones$Ford;II[II)I"⟩
abbrev cX8_spreadOn : ByteArray := prog_10_method_3_code
def yX8_spreadOn : MethodName := ⟨RX8, "spreadOn", "(LSteppingStones$Ford;II[II)I"⟩
abbrev cX8_canCross : ByteArray := prog_10_method_4_code
def yX8_canCross : MethodName := ⟨RX8, "canCross", "(LSteppingStones$Ford;I)Z"⟩
abbrev cX8_crossing : ByteArray := prog_10_method_5_code
def yX8_crossing : MethodName := ⟨RX8, "crossing", "(LSteppingStones$Ford;II)I"⟩
abbrev cX8_countRows : ByteArray := prog_10_method_6_code
def yX8_countRows : MethodName := ⟨RX8, "countRows", "(LSteppingStones$Ford;II)I"⟩
abbrev cX8_leadOn : ByteArray := prog_10_method_7_code
def yX8_leadOn : MethodName := ⟨RX8, "leadOn", "(LSteppingStones$Ford;II)V"⟩
abbrev cX8_stoneOfLeastRow : ByteArray := prog_10_method_8_code
def yX8_stoneOfLeastRow : MethodName := ⟨RX8, "stoneOfLeastRow", "(LSteppingStones$Ford;III)I"⟩
abbrev cX8_lowestOnward : ByteArray := prog_10_method_9_code
def yX8_lowestOnward : MethodName := ⟨RX8, "lowestOnward", "(LSteppingStones$Ford;III)I"⟩
abbrev cX8_driestWay : ByteArray := prog_10_method_10_code
def yX8_driestWay : MethodName := ⟨RX8, "driestWay", "(LSteppingStones$Ford;II)I"⟩
abbrev cX8_cheapest : ByteArray := prog_10_method_11_code
def yX8_cheapest : MethodName := ⟨RX8, "cheapest", "()I"⟩
abbrev cX8_settle : ByteArray := prog_10_method_12_code
def yX8_settle : MethodName := ⟨RX8, "settle", "(LSteppingStones$Ford;II)V"⟩
abbrev cX8_farthest : ByteArray := prog_10_method_13_code
def yX8_farthest : MethodName := ⟨RX8, "farthest", "(LSteppingStones$Ford;I)I"⟩
abbrev cX8_helpfulPlace : ByteArray := prog_10_method_14_code
def yX8_helpfulPlace : MethodName := ⟨RX8, "helpfulPlace", "(LSteppingStones$Ford;II)I"⟩
abbrev cX8_wouldJoin : ByteArray := prog_10_method_15_code
def yX8_wouldJoin : MethodName := ⟨RX8, "wouldJoin", "(LSteppingStones$Ford;III)Z"⟩
abbrev cX8_islandSize : ByteArray := prog_10_method_16_code
def yX8_islandSize : MethodName := ⟨RX8, "islandSize", "(LSteppingStones$Ford;II)I"⟩
abbrev cX8_countIslands : ByteArray := prog_10_method_17_code
def yX8_countIslands : MethodName := ⟨RX8, "countIslands", "(LSteppingStones$Ford;I)I"⟩
abbrev cX8_needs : ByteArray := prog_10_method_18_code
def yX8_needs : MethodName := ⟨RX8, "needs", "(LSteppingStones$Ford;II)Z"⟩
abbrev cX8_meeting : ByteArray := prog_10_method_19_code
def yX8_meeting : MethodName := ⟨RX8, "meeting", "(LSteppingStones$Ford;III)I"⟩
def RX9 : String := "SteppingStones"
def TX9 : u_T := fun k => match k with
  | 0 => ("SteppingStones", "ford", "LSteppingStones$Ford;", true)
  | 1 => ("SteppingStones", "kept", "LSteppingStones$Ford;", true)
  | 2 => ("SteppingStones", "spare", "LSteppingStones$Ford;", true)
  | 3 => ("SteppingStones", "tape", "LSteppingStones$Tape;", true)
  | 4 => ("SteppingStones", "river", "LSteppingStones$River;", true)
  | 5 => ("SteppingStones", "ways", "LSteppingStones$Ways;", true)
  | 6 => ("SteppingStones", "dam", "LSteppingStones$Dam;", true)
  | 7 => ("SteppingStones", "plan", "LSteppingStones$Plan;", true)
  | 8 => ("SteppingStones", "marks", "LSteppingStones$Chalk;", true)
  | 9 => ("SteppingStones", "strides", "[I", true)
  | 10 => ("SteppingStones", "ruling", "LSteppingStones$Law;", false)
  | 11 => ("SteppingStones", "draft", "LSteppingStones$Law;", false)
  | _ => ("SteppingStones", "isKept", "Z", false)
def tyX9 : Nat → FieldType := fun k => match k with
  | 0 => .object "SteppingStones$Ford"
  | 1 => .object "SteppingStones$Ford"
  | 2 => .object "SteppingStones$Ford"
  | 3 => .object "SteppingStones$Tape"
  | 4 => .object "SteppingStones$River"
  | 5 => .object "SteppingStones$Ways"
  | 6 => .object "SteppingStones$Dam"
  | 7 => .object "SteppingStones$Plan"
  | 8 => .object "SteppingStones$Chalk"
  | 9 => .array .int
  | 10 => .object "SteppingStones$Law"
  | 11 => .object "SteppingStones$Law"
  | _ => .boolean
abbrev wsX90 : List Cond := u_ws RX9 TX9 13
theorem nmX9 : ∀ a, a < 13 → ∀ b, b < 13 → a ≠ b → (TX9 a).2.1 ≠ (TX9 b).2.1 := by decide +kernel
theorem tyX9_ok : ∀ k, k < 13 → parseFieldDescriptor (TX9 k).2.2.1 = some (tyX9 k) := by decide +kernel
abbrev cX9_init : ByteArray := prog_1_method_1_code
def yX9_init : MethodName := ⟨RX9, "<init>", "()V"⟩
abbrev cX9_stone : ByteArray := prog_1_method_2_code
def yX9_stone : MethodName := ⟨RX9, "stone", "(IIII)Z"⟩
abbrev cX9_take : ByteArray := prog_1_method_3_code
def yX9_take : MethodName := ⟨RX9, "take", "(I)Z"⟩
abbrev cX9_under : ByteArray := prog_1_method_4_code
def yX9_under : MethodName := ⟨RX9, "under", "(IZ)Z"⟩
abbrev cX9_person : ByteArray := prog_1_method_5_code
def yX9_person : MethodName := ⟨RX9, "person", "(II)Z"⟩
abbrev cX9_feed : ByteArray := prog_1_method_6_code
def yX9_feed : MethodName := ⟨RX9, "feed", "(IIIII)I"⟩
abbrev cX9_law : ByteArray := prog_1_method_7_code
def yX9_law : MethodName := ⟨RX9, "law", "(I)I"⟩
abbrev cX9_notebook : ByteArray := prog_1_method_8_code
def yX9_notebook : MethodName := ⟨RX9, "notebook", "(I)I"⟩
abbrev cX9_nights : ByteArray := prog_1_method_9_code
def yX9_nights : MethodName := ⟨RX9, "nights", "(I)I"⟩
abbrev cX9_tried : ByteArray := prog_1_method_10_code
def yX9_tried : MethodName := ⟨RX9, "tried", "(II)I"⟩
abbrev cX9_stoneIs : ByteArray := prog_1_method_11_code
def yX9_stoneIs : MethodName := ⟨RX9, "stoneIs", "(II)I"⟩
abbrev cX9_at : ByteArray := prog_1_method_12_code
def yX9_at : MethodName := ⟨RX9, "at", "(II)I"⟩
abbrev cX9_cross : ByteArray := prog_1_method_13_code
def yX9_cross : MethodName := ⟨RX9, "cross", "(II)I"⟩
abbrev cX9_driest : ByteArray := prog_1_method_14_code
def yX9_driest : MethodName := ⟨RX9, "driest", "(II)I"⟩
abbrev cX9_leastStride : ByteArray := prog_1_method_15_code
def yX9_leastStride : MethodName := ⟨RX9, "leastStride", "()I"⟩
abbrev cX9_howFar : ByteArray := prog_1_method_16_code
def yX9_howFar : MethodName := ⟨RX9, "howFar", "(I)I"⟩
abbrev cX9_hold : ByteArray := prog_1_method_17_code
def yX9_hold : MethodName := ⟨RX9, "hold", "(I)I"⟩
abbrev cX9_oneMore : ByteArray := prog_1_method_18_code
def yX9_oneMore : MethodName := ⟨RX9, "oneMore", "(II)I"⟩
abbrev cX9_islands : ByteArray := prog_1_method_19_code
def yX9_islands : MethodName := ⟨RX9, "islands", "(II)I"⟩
abbrev cX9_key : ByteArray := prog_1_method_20_code
def yX9_key : MethodName := ⟨RX9, "key", "(II)I"⟩
abbrev cX9_meet : ByteArray := prog_1_method_21_code
def yX9_meet : MethodName := ⟨RX9, "meet", "(III)I"⟩
abbrev cX9_market : ByteArray := prog_1_method_22_code
def yX9_market : MethodName := ⟨RX9, "market", "()I"⟩
abbrev cX9_firstNight : ByteArray := prog_1_method_23_code
def yX9_firstNight : MethodName := ⟨RX9, "firstNight", "(I)I"⟩
abbrev cX9_walk : ByteArray := prog_1_method_24_code
def yX9_walk : MethodName := ⟨RX9, "walk", "(IIII)I"⟩
abbrev cX9_chalk : ByteArray := prog_1_method_25_code
def yX9_chalk : MethodName := ⟨RX9, "chalk", "(II)I"⟩
abbrev cX9_shape : ByteArray := prog_1_method_26_code
def yX9_shape : MethodName := ⟨RX9, "shape", "(I)I"⟩
abbrev cX9_letters : ByteArray := prog_1_method_27_code
def yX9_letters : MethodName := ⟨RX9, "letters", "(II)I"⟩
abbrev cX9_thrown : ByteArray := prog_1_method_28_code
def yX9_thrown : MethodName := ⟨RX9, "thrown", "(I)I"⟩
abbrev cX9_seed : ByteArray := prog_1_method_29_code
def yX9_seed : MethodName := ⟨RX9, "seed", "(I)Z"⟩
abbrev cX9_keep : ByteArray := prog_1_method_30_code
def yX9_keep : MethodName := ⟨RX9, "keep", "()I"⟩
abbrev cX9_undo : ByteArray := prog_1_method_31_code
def yX9_undo : MethodName := ⟨RX9, "undo", "()Z"⟩
abbrev cX9_check : ByteArray := prog_1_method_32_code
def yX9_check : MethodName := ⟨RX9, "check", "(I)I"⟩
abbrev cX9_count : ByteArray := prog_1_method_33_code
def yX9_count : MethodName := ⟨RX9, "count", "(I)I"⟩
abbrev cX9_isStone : ByteArray := prog_1_method_34_code
def yX9_isStone : MethodName := ⟨RX9, "isStone", "(I)Z"⟩
abbrev cX9_isPlace : ByteArray := prog_1_method_35_code
def yX9_isPlace : MethodName := ⟨RX9, "isPlace", "(II)Z"⟩
abbrev cX9_isStride : ByteArray := prog_1_method_36_code
def yX9_isStride : MethodName := ⟨RX9, "isStride", "(I)Z"⟩
abbrev cX9_isNights : ByteArray := prog_1_method_37_code
def yX9_isNights : MethodName := ⟨RX9, "isNights", "(I)Z"⟩
abbrev cX9_isEither : ByteArray := prog_1_method_38_code
def yX9_isEither : MethodName := ⟨RX9, "isEither", "(I)Z"⟩
abbrev cX9_strideOf : ByteArray := prog_1_method_39_code
def yX9_strideOf : MethodName := ⟨RX9, "strideOf", "(I)I"⟩
abbrev cX9_toldPeople : ByteArray := prog_1_method_40_code
def yX9_toldPeople : MethodName := ⟨RX9, "toldPeople", "()I"⟩
abbrev cX9_readNotebook : ByteArray := prog_1_method_41_code
def yX9_readNotebook : MethodName := ⟨RX9, "readNotebook", "(LSteppingStones$Tape;LSteppingStones$Ford;)I"⟩
abbrev cX9_readLine : ByteArray := prog_1_method_42_code
def yX9_readLine : MethodName := ⟨RX9, "readLine", "(LSteppingStones$Tape;LSteppingStones$Ford;I)Z"⟩
abbrev cX9_evenBag : ByteArray := prog_1_method_43_code
def yX9_evenBag : MethodName := ⟨RX9, "evenBag", "(I)I"⟩
abbrev cX9_unlike : ByteArray := prog_1_method_44_code
def yX9_unlike : MethodName := ⟨RX9, "unlike", "(II)I"⟩
abbrev cX9_fewestThrows : ByteArray := prog_1_method_45_code
def yX9_fewestThrows : MethodName := ⟨RX9, "fewestThrows", "(LSteppingStones$Ford;IJII)I"⟩
def RX10 : String := "SteppingStonesModel"
def TX10 : u_T := fun k => match k with
  | 0 => ("SteppingStonesModel", "now", "[I", true)
  | 1 => ("SteppingStonesModel", "aside", "[I", true)
  | 2 => ("SteppingStonesModel", "kept", "[I", true)
  | 3 => ("SteppingStonesModel", "strideOf", "[I", true)
  | 4 => ("SteppingStonesModel", "peopleSet", "I", false)
  | 5 => ("SteppingStonesModel", "tape", "[B", true)
  | 6 => ("SteppingStonesModel", "taped", "I", false)
  | 7 => ("SteppingStonesModel", "place0", "I", false)
  | 8 => ("SteppingStonesModel", "length0", "I", false)
  | 9 => ("SteppingStonesModel", "fault", "I", false)
  | 10 => ("SteppingStonesModel", "number0", "I", false)
  | 11 => ("SteppingStonesModel", "open", "I", false)
  | 12 => ("SteppingStonesModel", "codeMany", "I", false)
  | 13 => ("SteppingStonesModel", "waiting", "I", false)
  | 14 => ("SteppingStonesModel", "saidMany", "I", false)
  | 15 => ("SteppingStonesModel", "clauses", "I", false)
  | 16 => ("SteppingStonesModel", "said", "[I", true)
  | 17 => ("SteppingStonesModel", "waitsAt", "[I", true)
  | 18 => ("SteppingStonesModel", "saidLetter", "[I", true)
  | 19 => ("SteppingStonesModel", "saidFrom", "[I", true)
  | 20 => ("SteppingStonesModel", "saidHalf", "[I", true)
  | 21 => ("SteppingStonesModel", "saidTo", "[I", true)
  | 22 => ("SteppingStonesModel", "codes", "[I", true)
  | 23 => ("SteppingStonesModel", "clauseOf", "[I", true)
  | 24 => ("SteppingStonesModel", "codeFrom", "[I", true)
  | 25 => ("SteppingStonesModel", "codeHalf", "[I", true)
  | 26 => ("SteppingStonesModel", "codeTo", "[I", true)
  | 27 => ("SteppingStonesModel", "stack", "[I", true)
  | 28 => ("SteppingStonesModel", "facts", "[I", true)
  | 29 => ("SteppingStonesModel", "newX", "[I", true)
  | 30 => ("SteppingStonesModel", "newY", "[I", true)
  | 31 => ("SteppingStonesModel", "newSlips", "[I", true)
  | 32 => ("SteppingStonesModel", "newUnder", "[I", true)
  | 33 => ("SteppingStonesModel", "lines", "I", false)
  | 34 => ("SteppingStonesModel", "moved", "I", false)
  | 35 => ("SteppingStonesModel", "stayed", "I", false)
  | 36 => ("SteppingStonesModel", "stepsNear", "[I", true)
  | 37 => ("SteppingStonesModel", "stepsFar", "[I", true)
  | 38 => ("SteppingStonesModel", "queue", "[I", true)
  | 39 => ("SteppingStonesModel", "rowsFrom", "[I", true)
  | 40 => ("SteppingStonesModel", "costTo", "[I", true)
  | 41 => ("SteppingStonesModel", "room", "[B", true)
  | 42 => ("SteppingStonesModel", "cameBy", "[I", true)
  | 43 => ("SteppingStonesModel", "line", "[I", true)
  | 44 => ("SteppingStonesModel", "islandOf", "[I", true)
  | 45 => ("SteppingStonesModel", "upBy", "[I", true)
  | 46 => ("SteppingStonesModel", "overBy", "[I", true)
  | 47 => ("SteppingStonesModel", "roundFrom", "[I", true)
  | 48 => ("SteppingStonesModel", "roundAt", "[I", true)
  | 49 => ("SteppingStonesModel", "walkMany", "I", false)
  | 50 => ("SteppingStonesModel", "rounds", "I", false)
  | 51 => ("SteppingStonesModel", "whoOf", "[I", true)
  | 52 => ("SteppingStonesModel", "rowNow", "[I", true)
  | 53 => ("SteppingStonesModel", "rowBest", "[I", true)
  | _ => ("SteppingStonesModel", "isKept", "Z", false)
def tyX10 : Nat → FieldType := fun k => match k with
  | 0 => .array .int
  | 1 => .array .int
  | 2 => .array .int
  | 3 => .array .int
  | 4 => .int
  | 5 => .array .byte
  | 6 => .int
  | 7 => .int
  | 8 => .int
  | 9 => .int
  | 10 => .int
  | 11 => .int
  | 12 => .int
  | 13 => .int
  | 14 => .int
  | 15 => .int
  | 16 => .array .int
  | 17 => .array .int
  | 18 => .array .int
  | 19 => .array .int
  | 20 => .array .int
  | 21 => .array .int
  | 22 => .array .int
  | 23 => .array .int
  | 24 => .array .int
  | 25 => .array .int
  | 26 => .array .int
  | 27 => .array .int
  | 28 => .array .int
  | 29 => .array .int
  | 30 => .array .int
  | 31 => .array .int
  | 32 => .array .int
  | 33 => .int
  | 34 => .int
  | 35 => .int
  | 36 => .array .int
  | 37 => .array .int
  | 38 => .array .int
  | 39 => .array .int
  | 40 => .array .int
  | 41 => .array .byte
  | 42 => .array .int
  | 43 => .array .int
  | 44 => .array .int
  | 45 => .array .int
  | 46 => .array .int
  | 47 => .array .int
  | 48 => .array .int
  | 49 => .int
  | 50 => .int
  | 51 => .array .int
  | 52 => .array .int
  | 53 => .array .int
  | _ => .boolean
abbrev wsX100 : List Cond := u_ws RX10 TX10 55
theorem nmX10 : ∀ a, a < 55 → ∀ b, b < 55 → a ≠ b → (TX10 a).2.1 ≠ (TX10 b).2.1 := by decide +kernel
theorem tyX10_ok : ∀ k, k < 55 → parseFieldDescriptor (TX10 k).2.2.1 = some (tyX10 k) := by decide +kernel
abbrev cX10_init : ByteArray := prog_12_method_1_code
def yX10_init : MethodName := ⟨RX10, "<init>", "()V"⟩
abbrev cX10_in : ByteArray := prog_12_method_2_code
def yX10_in : MethodName := ⟨RX10, "in", "(III)Z"⟩
abbrev cX10_min : ByteArray := prog_12_method_3_code
def yX10_min : MethodName := ⟨RX10, "min", "(II)I"⟩
abbrev cX10_max : ByteArray := prog_12_method_4_code
def yX10_max : MethodName := ⟨RX10, "max", "(II)I"⟩
abbrev cX10_size : ByteArray := prog_12_method_5_code
def yX10_size : MethodName := ⟨RX10, "size", "(I)I"⟩
abbrev cX10_bounded : ByteArray := prog_12_method_6_code
def yX10_bounded : MethodName := ⟨RX10, "bounded", "(III)I"⟩
abbrev cX10_has : ByteArray := prog_12_method_7_code
def yX10_has : MethodName := ⟨RX10, "has", "(II)Z"⟩
abbrev cX10_copies : ByteArray := prog_12_method_8_code
def yX10_copies : MethodName := ⟨RX10, "copies", "([I[I)V"⟩
abbrev cX10_isStone : ByteArray := prog_12_method_9_code
def yX10_isStone : MethodName := ⟨RX10, "isStone", "(I)Z"⟩
abbrev cX10_isDry : ByteArray := prog_12_method_10_code
def yX10_isDry : MethodName := ⟨RX10, "isDry", "(I)Z"⟩
abbrev cX10_isPerson : ByteArray := prog_12_method_11_code
def yX10_isPerson : MethodName := ⟨RX10, "isPerson", "(I)Z"⟩
abbrev cX10_stoneAt : ByteArray := prog_12_method_12_code
def yX10_stoneAt : MethodName := ⟨RX10, "stoneAt", "(II)I"⟩
abbrev cX10_apart : ByteArray := prog_12_method_13_code
def yX10_apart : MethodName := ⟨RX10, "apart", "(II)I"⟩
abbrev cX10_nearTo : ByteArray := prog_12_method_14_code
def yX10_nearTo : MethodName := ⟨RX10, "nearTo", "(I)I"⟩
abbrev cX10_stone : ByteArray := prog_12_method_15_code
def yX10_stone : MethodName := ⟨RX10, "stone", "(IIII)Z"⟩
abbrev cX10_laysStone : ByteArray := prog_12_method_16_code
def yX10_laysStone : MethodName := ⟨RX10, "laysStone", "(IIIII)V"⟩
abbrev cX10_take : ByteArray := prog_12_method_17_code
def yX10_take : MethodName := ⟨RX10, "take", "(I)Z"⟩
abbrev cX10_under : ByteArray := prog_12_method_18_code
def yX10_under : MethodName := ⟨RX10, "under", "(IZ)Z"⟩
abbrev cX10_person : ByteArray := prog_12_method_19_code
def yX10_person : MethodName := ⟨RX10, "person", "(II)Z"⟩
abbrev cX10_types : ByteArray := prog_12_method_20_code
def yX10_types : MethodName := ⟨RX10, "types", "(I)V"⟩
abbrev cX10_feed : ByteArray := prog_12_method_21_code
def yX10_feed : MethodName := ⟨RX10, "feed", "(IIIII)I"⟩
abbrev cX10_octet : ByteArray := prog_12_method_22_code
def yX10_octet : MethodName := ⟨RX10, "octet", "(I)I"⟩
abbrev cX10_here : ByteArray := prog_12_method_23_code
def yX10_here : MethodName := ⟨RX10, "here", "()I"⟩
abbrev cX10_isDigit : ByteArray := prog_12_method_24_code
def yX10_isDigit : MethodName := ⟨RX10, "isDigit", "()Z"⟩
abbrev cX10_wrongAt : ByteArray := prog_12_method_25_code
def yX10_wrongAt : MethodName := ⟨RX10, "wrongAt", "(II)Z"⟩
abbrev cX10_takesSign : ByteArray := prog_12_method_26_code
def yX10_takesSign : MethodName := ⟨RX10, "takesSign", "(I)Z"⟩
abbrev cX10_readsNumber : ByteArray := prog_12_method_27_code
def yX10_readsNumber : MethodName := ⟨RX10, "readsNumber", "()Z"⟩
abbrev cX10_notes : ByteArray := prog_12_method_28_code
def yX10_notes : MethodName := ⟨RX10, "notes", "(II)V"⟩
abbrev cX10_opens : ByteArray := prog_12_method_29_code
def yX10_opens : MethodName := ⟨RX10, "opens", "(I)Z"⟩
abbrev cX10_waitTop : ByteArray := prog_12_method_30_code
def yX10_waitTop : MethodName := ⟨RX10, "waitTop", "()I"⟩
abbrev cX10_factOf : ByteArray := prog_12_method_31_code
def yX10_factOf : MethodName := ⟨RX10, "factOf", "(I)I"⟩
abbrev cX10_sumSign : ByteArray := prog_12_method_32_code
def yX10_sumSign : MethodName := ⟨RX10, "sumSign", "(I)I"⟩
abbrev cX10_closesSums : ByteArray := prog_12_method_33_code
def yX10_closesSums : MethodName := ⟨RX10, "closesSums", "(Z)V"⟩
abbrev cX10_readsFactor : ByteArray := prog_12_method_34_code
def yX10_readsFactor : MethodName := ⟨RX10, "readsFactor", "()Z"⟩
abbrev cX10_hasOpenSum : ByteArray := prog_12_method_35_code
def yX10_hasOpenSum : MethodName := ⟨RX10, "hasOpenSum", "(I)Z"⟩
abbrev cX10_readsSum : ByteArray := prog_12_method_36_code
def yX10_readsSum : MethodName := ⟨RX10, "readsSum", "()Z"⟩
abbrev cX10_endsPiece : ByteArray := prog_12_method_37_code
def yX10_endsPiece : MethodName := ⟨RX10, "endsPiece", "()V"⟩
abbrev cX10_lands : ByteArray := prog_12_method_38_code
def yX10_lands : MethodName := ⟨RX10, "lands", "(Z)V"⟩
abbrev cX10_jumps : ByteArray := prog_12_method_39_code
def yX10_jumps : MethodName := ⟨RX10, "jumps", "(I)V"⟩
abbrev cX10_readsCompared : ByteArray := prog_12_method_40_code
def yX10_readsCompared : MethodName := ⟨RX10, "readsCompared", "()Z"⟩
abbrev cX10_readsCondition : ByteArray := prog_12_method_41_code
def yX10_readsCondition : MethodName := ⟨RX10, "readsCondition", "()Z"⟩
abbrev cX10_readsRule : ByteArray := prog_12_method_42_code
def yX10_readsRule : MethodName := ⟨RX10, "readsRule", "()Z"⟩
abbrev cX10_beginsText : ByteArray := prog_12_method_43_code
def yX10_beginsText : MethodName := ⟨RX10, "beginsText", "(I)V"⟩
abbrev cX10_law : ByteArray := prog_12_method_44_code
def yX10_law : MethodName := ⟨RX10, "law", "(I)I"⟩
abbrev cX10_reckon : ByteArray := prog_12_method_45_code
def yX10_reckon : MethodName := ⟨RX10, "reckon", "(III)I"⟩
abbrev cX10_comesTo : ByteArray := prog_12_method_46_code
def yX10_comesTo : MethodName := ⟨RX10, "comesTo", "(II)I"⟩
abbrev cX10_byLaw : ByteArray := prog_12_method_47_code
def yX10_byLaw : MethodName := ⟨RX10, "byLaw", "(II)I"⟩
abbrev cX10_holdsAny : ByteArray := prog_12_method_48_code
def yX10_holdsAny : MethodName := ⟨RX10, "holdsAny", "(I)Z"⟩
abbrev cX10_feels : ByteArray := prog_12_method_49_code
def yX10_feels : MethodName := ⟨RX10, "feels", "(II)V"⟩
abbrev cX10_readsAmount : ByteArray := prog_12_method_50_code
def yX10_readsAmount : MethodName := ⟨RX10, "readsAmount", "()Z"⟩
abbrev cX10_readsBetween : ByteArray := prog_12_method_51_code
def yX10_readsBetween : MethodName := ⟨RX10, "readsBetween", "(II)Z"⟩
abbrev cX10_readsLine : ByteArray := prog_12_method_52_code
def yX10_readsLine : MethodName := ⟨RX10, "readsLine", "()Z"⟩
abbrev cX10_notebook : ByteArray := prog_12_method_53_code
def yX10_notebook : MethodName := ⟨RX10, "notebook", "(I)I"⟩
abbrev cX10_moves : ByteArray := prog_12_method_54_code
def yX10_moves : MethodName := ⟨RX10, "moves", "(I)V"⟩
abbrev cX10_nightGoes : ByteArray := prog_12_method_55_code
def yX10_nightGoes : MethodName := ⟨RX10, "nightGoes", "()V"⟩
abbrev cX10_nightsGo : ByteArray := prog_12_method_56_code
def yX10_nightsGo : MethodName := ⟨RX10, "nightsGo", "(I)V"⟩
abbrev cX10_nights : ByteArray := prog_12_method_57_code
def yX10_nights : MethodName := ⟨RX10, "nights", "(I)I"⟩
abbrev cX10_sumOf : ByteArray := prog_12_method_58_code
def yX10_sumOf : MethodName := ⟨RX10, "sumOf", "(I)I"⟩
abbrev cX10_tried : ByteArray := prog_12_method_59_code
def yX10_tried : MethodName := ⟨RX10, "tried", "(II)I"⟩
abbrev cX10_stoneIs : ByteArray := prog_12_method_60_code
def yX10_stoneIs : MethodName := ⟨RX10, "stoneIs", "(II)I"⟩
abbrev cX10_at : ByteArray := prog_12_method_61_code
def yX10_at : MethodName := ⟨RX10, "at", "(II)I"⟩
abbrev cX10_canStep : ByteArray := prog_12_method_62_code
def yX10_canStep : MethodName := ⟨RX10, "canStep", "(III)Z"⟩
abbrev cX10_isByBank : ByteArray := prog_12_method_63_code
def yX10_isByBank : MethodName := ⟨RX10, "isByBank", "(IZI)Z"⟩
abbrev cX10_laysSteps : ByteArray := prog_12_method_64_code
def yX10_laysSteps : MethodName := ⟨RX10, "laysSteps", "([IZI)V"⟩
abbrev cX10_crossing : ByteArray := prog_12_method_65_code
def yX10_crossing : MethodName := ⟨RX10, "crossing", "(I)I"⟩
abbrev cX10_laysRows : ByteArray := prog_12_method_66_code
def yX10_laysRows : MethodName := ⟨RX10, "laysRows", "(I)V"⟩
abbrev cX10_cross : ByteArray := prog_12_method_67_code
def yX10_cross : MethodName := ⟨RX10, "cross", "(II)I"⟩
abbrev cX10_dryCost : ByteArray := prog_12_method_68_code
def yX10_dryCost : MethodName := ⟨RX10, "dryCost", "(I)I"⟩
abbrev cX10_driest : ByteArray := prog_12_method_69_code
def yX10_driest : MethodName := ⟨RX10, "driest", "(II)I"⟩
abbrev cX10_leastStride : ByteArray := prog_12_method_70_code
def yX10_leastStride : MethodName := ⟨RX10, "leastStride", "()I"⟩
abbrev cX10_howFar : ByteArray := prog_12_method_71_code
def yX10_howFar : MethodName := ⟨RX10, "howFar", "(I)I"⟩
abbrev cX10_laysRoom : ByteArray := prog_12_method_72_code
def yX10_laysRoom : MethodName := ⟨RX10, "laysRoom", "(I)V"⟩
abbrev cX10_goesAcross : ByteArray := prog_12_method_73_code
def yX10_goesAcross : MethodName := ⟨RX10, "goesAcross", "()Z"⟩
abbrev cX10_hold : ByteArray := prog_12_method_74_code
def yX10_hold : MethodName := ⟨RX10, "hold", "(I)I"⟩
abbrev cX10_wouldDo : ByteArray := prog_12_method_75_code
def yX10_wouldDo : MethodName := ⟨RX10, "wouldDo", "(III)Z"⟩
abbrev cX10_oneMore : ByteArray := prog_12_method_76_code
def yX10_oneMore : MethodName := ⟨RX10, "oneMore", "(II)I"⟩
abbrev cX10_laysIslands : ByteArray := prog_12_method_77_code
def yX10_laysIslands : MethodName := ⟨RX10, "laysIslands", "(I)I"⟩
abbrev cX10_islands : ByteArray := prog_12_method_78_code
def yX10_islands : MethodName := ⟨RX10, "islands", "(II)I"⟩
abbrev cX10_key : ByteArray := prog_12_method_79_code
def yX10_key : MethodName := ⟨RX10, "key", "(II)I"⟩
abbrev cX10_meet : ByteArray := prog_12_method_80_code
def yX10_meet : MethodName := ⟨RX10, "meet", "(III)I"⟩
abbrev cX10_market : ByteArray := prog_12_method_81_code
def yX10_market : MethodName := ⟨RX10, "market", "()I"⟩
abbrev cX10_firstNight : ByteArray := prog_12_method_82_code
def yX10_firstNight : MethodName := ⟨RX10, "firstNight", "(I)I"⟩
abbrev cX10_readsHops : ByteArray := prog_12_method_83_code
def yX10_readsHops : MethodName := ⟨RX10, "readsHops", "()Z"⟩
abbrev cX10_endsRound : ByteArray := prog_12_method_84_code
def yX10_endsRound : MethodName := ⟨RX10, "endsRound", "()Z"⟩
abbrev cX10_readsWalk : ByteArray := prog_12_method_85_code
def yX10_readsWalk : MethodName := ⟨RX10, "readsWalk", "()Z"⟩
abbrev cX10_walk : ByteArray := prog_12_method_86_code
def yX10_walk : MethodName := ⟨RX10, "walk", "(IIII)I"⟩
abbrev cX10_listsStones : ByteArray := prog_12_method_87_code
def yX10_listsStones : MethodName := ⟨RX10, "listsStones", "(IZ)Z"⟩
abbrev cX10_beginsRows : ByteArray := prog_12_method_88_code
def yX10_beginsRows : MethodName := ⟨RX10, "beginsRows", "(I)V"⟩
abbrev cX10_changes : ByteArray := prog_12_method_89_code
def yX10_changes : MethodName := ⟨RX10, "changes", "(II)V"⟩
abbrev cX10_nextRow : ByteArray := prog_12_method_90_code
def yX10_nextRow : MethodName := ⟨RX10, "nextRow", "(II)Z"⟩
abbrev cX10_chalkOff : ByteArray := prog_12_method_91_code
def yX10_chalkOff : MethodName := ⟨RX10, "chalkOff", "(I)I"⟩
abbrev cX10_chalk : ByteArray := prog_12_method_92_code
def yX10_chalk : MethodName := ⟨RX10, "chalk", "(II)I"⟩
abbrev cX10_areInLine : ByteArray := prog_12_method_93_code
def yX10_areInLine : MethodName := ⟨RX10, "areInLine", "(III)Z"⟩
abbrev cX10_mostInLine : ByteArray := prog_12_method_94_code
def yX10_mostInLine : MethodName := ⟨RX10, "mostInLine", "()I"⟩
abbrev cX10_yardRow : ByteArray := prog_12_method_95_code
def yX10_yardRow : MethodName := ⟨RX10, "yardRow", "()I"⟩
abbrev cX10_nearestTo : ByteArray := prog_12_method_96_code
def yX10_nearestTo : MethodName := ⟨RX10, "nearestTo", "(I)I"⟩
abbrev cX10_pairsOf : ByteArray := prog_12_method_97_code
def yX10_pairsOf : MethodName := ⟨RX10, "pairsOf", "()I"⟩
abbrev cX10_closest : ByteArray := prog_12_method_98_code
def yX10_closest : MethodName := ⟨RX10, "closest", "()I"⟩
abbrev cX10_shape : ByteArray := prog_12_method_99_code
def yX10_shape : MethodName := ⟨RX10, "shape", "(I)I"⟩
abbrev cX10_letters : ByteArray := prog_12_method_100_code
def yX10_letters : MethodName := ⟨RX10, "letters", "(II)I"⟩
abbrev cX10_thrown : ByteArray := prog_12_method_101_code
def yX10_thrown : MethodName := ⟨RX10, "thrown", "(I)I"⟩
abbrev cX10_seed : ByteArray := prog_12_method_102_code
def yX10_seed : MethodName := ⟨RX10, "seed", "(I)Z"⟩
abbrev cX10_keep : ByteArray := prog_12_method_103_code
def yX10_keep : MethodName := ⟨RX10, "keep", "()I"⟩
abbrev cX10_undo : ByteArray := prog_12_method_104_code
def yX10_undo : MethodName := ⟨RX10, "undo", "()Z"⟩
abbrev cX10_check : ByteArray := prog_12_method_105_code
def yX10_check : MethodName := ⟨RX10, "check", "(I)I"⟩
abbrev cX10_count : ByteArray := prog_12_method_106_code
def yX10_count : MethodName := ⟨RX10, "count", "(I)I"⟩
def RJ6 : String := "java/lang/Integer"
def TJ6 : u_T := fun k => match k with
  | _ => ("", "", "", false)
def tyJ6 : Nat → FieldType := fun k => match k with
  | _ => .int
abbrev wsJ60 : List Cond := u_ws RJ6 TJ6 0
theorem nmJ6 : ∀ a, a < 0 → ∀ b, b < 0 → a ≠ b → (TJ6 a).2.1 ≠ (TJ6 b).2.1 := by decide +kernel
theorem tyJ6_ok : ∀ k, k < 0 → parseFieldDescriptor (TJ6 k).2.2.1 = some (tyJ6 k) := by decide +kernel
abbrev cJ6_bitCount_0f7a4 : ByteArray := prog_13_method_49_code
def yJ6_bitCount_0f7a4 : MethodName := ⟨RJ6, "bitCount", "(I)I"⟩
def RJ9 : String := "java/lang/Math"
def TJ9 : u_T := fun k => match k with
  | _ => ("", "", "", false)
def tyJ9 : Nat → FieldType := fun k => match k with
  | _ => .int
abbrev wsJ90 : List Cond := u_ws RJ9 TJ9 0
theorem nmJ9 : ∀ a, a < 0 → ∀ b, b < 0 → a ≠ b → (TJ9 a).2.1 ≠ (TJ9 b).2.1 := by decide +kernel
theorem tyJ9_ok : ∀ k, k < 0 → parseFieldDescriptor (TJ9 k).2.2.1 = some (tyJ9 k) := by decide +kernel
abbrev cJ9_abs_0f7a4 : ByteArray := prog_14_method_59_code
def yJ9_abs_0f7a4 : MethodName := ⟨RJ9, "abs", "(I)I"⟩
abbrev cJ9_max_7cf53 : ByteArray := prog_14_method_65_code
def yJ9_max_7cf53 : MethodName := ⟨RJ9, "max", "(II)I"⟩
abbrev cJ9_min_7cf53 : ByteArray := prog_14_method_69_code
def yJ9_min_7cf53 : MethodName := ⟨RJ9, "min", "(II)I"⟩
def RJ7 : String := "java/util/Arrays"
def TJ7 : u_T := fun k => match k with
  | _ => ("", "", "", false)
def tyJ7 : Nat → FieldType := fun k => match k with
  | _ => .int
abbrev wsJ70 : List Cond := u_ws RJ7 TJ7 0
theorem nmJ7 : ∀ a, a < 0 → ∀ b, b < 0 → a ≠ b → (TJ7 a).2.1 ≠ (TJ7 b).2.1 := by decide +kernel
theorem tyJ7_ok : ∀ k, k < 0 → parseFieldDescriptor (TJ7 k).2.2.1 = some (tyJ7 k) := by decide +kernel
abbrev cJ7_fill_53178 : ByteArray := prog_15_method_103_code
def yJ7_fill_53178 : MethodName := ⟨RJ7, "fill", "([II)V"⟩
def RL : String := "SteppingStonesLaw"
end
section
/-! words: one list for every method -/
def UL : List Cond := lw_tbl.filter goodWord
theorem ul_tbl {w : Cond} (h : w ∈ UL) : w ∈ lw_tbl := (List.mem_filter.mp h).1
theorem ul_in {w : Cond} (h : w ∈ lw_tbl) (g : goodWord w = true) : w ∈ UL := List.mem_filter.mpr ⟨h, g⟩
theorem ul_0 {k : Nat} {w : Cond} (h : (k2_sels lw_privs)[k]? = some w) (g : goodWord w = true) : w ∈ UL := ul_in (List.mem_append_left _ (List.mem_of_getElem? h)) g
theorem ul_1 {k : Nat} {w : Cond} (h : tables_1_1[k]? = some w) (g : goodWord w = true) : w ∈ UL := ul_in (List.mem_append_right _ (List.mem_append_left _ (List.mem_of_getElem? h))) g
theorem ul_2 {k : Nat} {w : Cond} (h : tables_1_2[k]? = some w) (g : goodWord w = true) : w ∈ UL := ul_in (List.mem_append_right _ (List.mem_append_right _ (List.mem_append_left _ (List.mem_of_getElem? h)))) g
theorem ul_3 {k : Nat} {w : Cond} (h : tables_1_3[k]? = some w) (g : goodWord w = true) : w ∈ UL := ul_in (List.mem_append_right _ (List.mem_append_right _ (List.mem_append_right _ (List.mem_append_left _ (List.mem_of_getElem? h))))) g
theorem ul_4 {k : Nat} {w : Cond} (h : tables_1_4[k]? = some w) (g : goodWord w = true) : w ∈ UL := ul_in (List.mem_append_right _ (List.mem_append_right _ (List.mem_append_right _ (List.mem_append_right _ (List.mem_append_left _ (List.mem_of_getElem? h)))))) g
theorem ul_5 {k : Nat} {w : Cond} (h : tables_1_5[k]? = some w) (g : goodWord w = true) : w ∈ UL := ul_in (List.mem_append_right _ (List.mem_append_right _ (List.mem_append_right _ (List.mem_append_right _ (List.mem_append_right _ (List.mem_append_left _ (List.mem_of_getElem? h))))))) g
theorem ul_6 {k : Nat} {w : Cond} (h : tables_1_6[k]? = some w) (g : goodWord w = true) : w ∈ UL := ul_in (List.mem_append_right _ (List.mem_append_right _ (List.mem_append_right _ (List.mem_append_right _ (List.mem_append_right _ (List.mem_append_right _ (List.mem_append_left _ (List.mem_of_getElem? h)))))))) g
theorem ul_7 {k : Nat} {w : Cond} (h : tables_1_7[k]? = some w) (g : goodWord w = true) : w ∈ UL := ul_in (List.mem_append_right _ (List.mem_append_right _ (List.mem_append_right _ (List.mem_append_right _ (List.mem_append_right _ (List.mem_append_right _ (List.mem_append_right _ (List.mem_of_getElem? h)))))))) g
def UW (y : MethodName) (cc : ByteArray) (n : Nat) (ret : Option FieldType) : List Cond := .code y cc n ret :: UL
theorem wl_gi {ws : List Cond} (h : ∀ w ∈ ws, w ∈ UL) : GoodIn UL ws := fun w hw => ⟨h w hw, good_of_word (List.mem_filter.mp (h w hw)).2⟩
theorem wl_gt {ws : List Cond} (h : ∀ w ∈ ws, w ∈ UL) : GoodIn lw_tbl ws := fun w hw => ⟨ul_tbl (h w hw), good_of_word (List.mem_filter.mp (h w hw)).2⟩
def cls11 : List vw_C := [(RX0, TX0, 5), (RX1, TX1, 4), (RX2, TX2, 7), (RX3, TX3, 10), (RX4, TX4, 6), (RX5, TX5, 3), (RX6, TX6, 0), (RX7, TX7, 5), (RX8, TX8, 6), (RX9, TX9, 13), (RX10, TX10, 55)]
def clsAll (P : vw_C → Prop) : Prop := P (RX0, TX0, 5) ∧ P (RX1, TX1, 4) ∧ P (RX2, TX2, 7) ∧ P (RX3, TX3, 10) ∧ P (RX4, TX4, 6) ∧ P (RX5, TX5, 3) ∧ P (RX6, TX6, 0) ∧ P (RX7, TX7, 5) ∧ P (RX8, TX8, 6) ∧ P (RX9, TX9, 13) ∧ P (RX10, TX10, 55)
theorem clsAll_of {P : vw_C → Prop} (h : clsAll P) : ∀ (ci : Nat) (q : vw_C), cls11[ci]? = some q → P q := by
  intro ci q hq
  have hm : q ∈ cls11 := List.mem_of_getElem? hq
  obtain ⟨h0, h1, h2, h3, h4, h5, h6, h7, h8, h9, h10⟩ := h
  simp only [cls11, List.mem_cons, List.not_mem_nil, or_false] at hm
  rcases hm with rfl | rfl | rfl | rfl | rfl | rfl | rfl | rfl | rfl | rfl | rfl <;> assumption
theorem u_wsAll {C : String} {T : u_T} {N : Nat} (h : ∀ k, k < N → u_lay C T k ∈ UL) : ∀ w ∈ u_ws C T N, w ∈ UL := by
  intro w hw
  obtain ⟨k, hk, rfl⟩ := List.mem_map.mp hw
  exact h k (List.mem_range.mp hk)
theorem ulyX0_0 : u_lay RX0 TX0 0 ∈ UL := (ul_1 (k := 202) (by decide +kernel) rfl)
theorem ulyX0_1 : u_lay RX0 TX0 1 ∈ UL := (ul_1 (k := 204) (by decide +kernel) rfl)
theorem ulyX0_2 : u_lay RX0 TX0 2 ∈ UL := (ul_1 (k := 206) (by decide +kernel) rfl)
theorem ulyX0_3 : u_lay RX0 TX0 3 ∈ UL := (ul_1 (k := 208) (by decide +kernel) rfl)
theorem ulyX0_4 : u_lay RX0 TX0 4 ∈ UL := (ul_1 (k := 210) (by decide +kernel) rfl)
theorem iulX0 : ∀ w ∈ u_ws RX0 TX0 5, w ∈ UL := u_wsAll (fun k h => match k, h with
  | 0, _ => ulyX0_0
  | 1, _ => ulyX0_1
  | 2, _ => ulyX0_2
  | 3, _ => ulyX0_3
  | 4, _ => ulyX0_4
  | k + 5, h => absurd h (by omega))
theorem ulyX1_0 : u_lay RX1 TX1 0 ∈ UL := (ul_1 (k := 154) (by decide +kernel) rfl)
theorem ulyX1_1 : u_lay RX1 TX1 1 ∈ UL := (ul_1 (k := 156) (by decide +kernel) rfl)
theorem ulyX1_2 : u_lay RX1 TX1 2 ∈ UL := (ul_1 (k := 158) (by decide +kernel) rfl)
theorem ulyX1_3 : u_lay RX1 TX1 3 ∈ UL := (ul_1 (k := 160) (by decide +kernel) rfl)
theorem iulX1 : ∀ w ∈ u_ws RX1 TX1 4, w ∈ UL := u_wsAll (fun k h => match k, h with
  | 0, _ => ulyX1_0
  | 1, _ => ulyX1_1
  | 2, _ => ulyX1_2
  | 3, _ => ulyX1_3
  | k + 4, h => absurd h (by omega))
theorem ulyX2_0 : u_lay RX2 TX2 0 ∈ UL := (ul_1 (k := 56) (by decide +kernel) rfl)
theorem ulyX2_1 : u_lay RX2 TX2 1 ∈ UL := (ul_1 (k := 58) (by decide +kernel) rfl)
theorem ulyX2_2 : u_lay RX2 TX2 2 ∈ UL := (ul_1 (k := 60) (by decide +kernel) rfl)
theorem ulyX2_3 : u_lay RX2 TX2 3 ∈ UL := (ul_1 (k := 62) (by decide +kernel) rfl)
theorem ulyX2_4 : u_lay RX2 TX2 4 ∈ UL := (ul_1 (k := 64) (by decide +kernel) rfl)
theorem ulyX2_5 : u_lay RX2 TX2 5 ∈ UL := (ul_1 (k := 66) (by decide +kernel) rfl)
theorem ulyX2_6 : u_lay RX2 TX2 6 ∈ UL := (ul_1 (k := 68) (by decide +kernel) rfl)
theorem iulX2 : ∀ w ∈ u_ws RX2 TX2 7, w ∈ UL := u_wsAll (fun k h => match k, h with
  | 0, _ => ulyX2_0
  | 1, _ => ulyX2_1
  | 2, _ => ulyX2_2
  | 3, _ => ulyX2_3
  | 4, _ => ulyX2_4
  | 5, _ => ulyX2_5
  | 6, _ => ulyX2_6
  | k + 7, h => absurd h (by omega))
theorem ulyX3_0 : u_lay RX3 TX3 0 ∈ UL := (ul_1 (k := 231) (by decide +kernel) rfl)
theorem ulyX3_1 : u_lay RX3 TX3 1 ∈ UL := (ul_1 (k := 233) (by decide +kernel) rfl)
theorem ulyX3_2 : u_lay RX3 TX3 2 ∈ UL := (ul_1 (k := 235) (by decide +kernel) rfl)
theorem ulyX3_3 : u_lay RX3 TX3 3 ∈ UL := (ul_1 (k := 237) (by decide +kernel) rfl)
theorem ulyX3_4 : u_lay RX3 TX3 4 ∈ UL := (ul_1 (k := 239) (by decide +kernel) rfl)
theorem ulyX3_5 : u_lay RX3 TX3 5 ∈ UL := (ul_2 (k := 1) (by decide +kernel) rfl)
theorem ulyX3_6 : u_lay RX3 TX3 6 ∈ UL := (ul_2 (k := 3) (by decide +kernel) rfl)
theorem ulyX3_7 : u_lay RX3 TX3 7 ∈ UL := (ul_2 (k := 5) (by decide +kernel) rfl)
theorem ulyX3_8 : u_lay RX3 TX3 8 ∈ UL := (ul_2 (k := 7) (by decide +kernel) rfl)
theorem ulyX3_9 : u_lay RX3 TX3 9 ∈ UL := (ul_2 (k := 9) (by decide +kernel) rfl)
theorem iulX3 : ∀ w ∈ u_ws RX3 TX3 10, w ∈ UL := u_wsAll (fun k h => match k, h with
  | 0, _ => ulyX3_0
  | 1, _ => ulyX3_1
  | 2, _ => ulyX3_2
  | 3, _ => ulyX3_3
  | 4, _ => ulyX3_4
  | 5, _ => ulyX3_5
  | 6, _ => ulyX3_6
  | 7, _ => ulyX3_7
  | 8, _ => ulyX3_8
  | 9, _ => ulyX3_9
  | k + 10, h => absurd h (by omega))
theorem ulyX4_0 : u_lay RX4 TX4 0 ∈ UL := (ul_1 (k := 178) (by decide +kernel) rfl)
theorem ulyX4_1 : u_lay RX4 TX4 1 ∈ UL := (ul_1 (k := 180) (by decide +kernel) rfl)
theorem ulyX4_2 : u_lay RX4 TX4 2 ∈ UL := (ul_1 (k := 182) (by decide +kernel) rfl)
theorem ulyX4_3 : u_lay RX4 TX4 3 ∈ UL := (ul_1 (k := 184) (by decide +kernel) rfl)
theorem ulyX4_4 : u_lay RX4 TX4 4 ∈ UL := (ul_1 (k := 186) (by decide +kernel) rfl)
theorem ulyX4_5 : u_lay RX4 TX4 5 ∈ UL := (ul_1 (k := 188) (by decide +kernel) rfl)
theorem iulX4 : ∀ w ∈ u_ws RX4 TX4 6, w ∈ UL := u_wsAll (fun k h => match k, h with
  | 0, _ => ulyX4_0
  | 1, _ => ulyX4_1
  | 2, _ => ulyX4_2
  | 3, _ => ulyX4_3
  | 4, _ => ulyX4_4
  | 5, _ => ulyX4_5
  | k + 6, h => absurd h (by omega))
theorem ulyX5_0 : u_lay RX5 TX5 0 ∈ UL := (ul_1 (k := 112) (by decide +kernel) rfl)
theorem ulyX5_1 : u_lay RX5 TX5 1 ∈ UL := (ul_1 (k := 114) (by decide +kernel) rfl)
theorem ulyX5_2 : u_lay RX5 TX5 2 ∈ UL := (ul_1 (k := 116) (by decide +kernel) rfl)
theorem iulX5 : ∀ w ∈ u_ws RX5 TX5 3, w ∈ UL := u_wsAll (fun k h => match k, h with
  | 0, _ => ulyX5_0
  | 1, _ => ulyX5_1
  | 2, _ => ulyX5_2
  | k + 3, h => absurd h (by omega))
theorem iulX6 : ∀ w ∈ u_ws RX6 TX6 0, w ∈ UL := u_wsAll (fun k h => absurd h (Nat.not_lt_zero k))
theorem ulyX7_0 : u_lay RX7 TX7 0 ∈ UL := (ul_1 (k := 90) (by decide +kernel) rfl)
theorem ulyX7_1 : u_lay RX7 TX7 1 ∈ UL := (ul_1 (k := 92) (by decide +kernel) rfl)
theorem ulyX7_2 : u_lay RX7 TX7 2 ∈ UL := (ul_1 (k := 94) (by decide +kernel) rfl)
theorem ulyX7_3 : u_lay RX7 TX7 3 ∈ UL := (ul_1 (k := 96) (by decide +kernel) rfl)
theorem ulyX7_4 : u_lay RX7 TX7 4 ∈ UL := (ul_1 (k := 98) (by decide +kernel) rfl)
theorem iulX7 : ∀ w ∈ u_ws RX7 TX7 5, w ∈ UL := u_wsAll (fun k h => match k, h with
  | 0, _ => ulyX7_0
  | 1, _ => ulyX7_1
  | 2, _ => ulyX7_2
  | 3, _ => ulyX7_3
  | 4, _ => ulyX7_4
  | k + 5, h => absurd h (by omega))
theorem ulyX8_0 : u_lay RX8 TX8 0 ∈ UL := (ul_1 (k := 131) (by decide +kernel) rfl)
theorem ulyX8_1 : u_lay RX8 TX8 1 ∈ UL := (ul_1 (k := 133) (by decide +kernel) rfl)
theorem ulyX8_2 : u_lay RX8 TX8 2 ∈ UL := (ul_1 (k := 135) (by decide +kernel) rfl)
theorem ulyX8_3 : u_lay RX8 TX8 3 ∈ UL := (ul_1 (k := 137) (by decide +kernel) rfl)
theorem ulyX8_4 : u_lay RX8 TX8 4 ∈ UL := (ul_1 (k := 139) (by decide +kernel) rfl)
theorem ulyX8_5 : u_lay RX8 TX8 5 ∈ UL := (ul_1 (k := 141) (by decide +kernel) rfl)
theorem iulX8 : ∀ w ∈ u_ws RX8 TX8 6, w ∈ UL := u_wsAll (fun k h => match k, h with
  | 0, _ => ulyX8_0
  | 1, _ => ulyX8_1
  | 2, _ => ulyX8_2
  | 3, _ => ulyX8_3
  | 4, _ => ulyX8_4
  | 5, _ => ulyX8_5
  | k + 6, h => absurd h (by omega))
theorem ulyX9_0 : u_lay RX9 TX9 0 ∈ UL := (ul_2 (k := 25) (by decide +kernel) rfl)
theorem ulyX9_1 : u_lay RX9 TX9 1 ∈ UL := (ul_2 (k := 27) (by decide +kernel) rfl)
theorem ulyX9_2 : u_lay RX9 TX9 2 ∈ UL := (ul_2 (k := 29) (by decide +kernel) rfl)
theorem ulyX9_3 : u_lay RX9 TX9 3 ∈ UL := (ul_2 (k := 31) (by decide +kernel) rfl)
theorem ulyX9_4 : u_lay RX9 TX9 4 ∈ UL := (ul_2 (k := 33) (by decide +kernel) rfl)
theorem ulyX9_5 : u_lay RX9 TX9 5 ∈ UL := (ul_2 (k := 35) (by decide +kernel) rfl)
theorem ulyX9_6 : u_lay RX9 TX9 6 ∈ UL := (ul_2 (k := 37) (by decide +kernel) rfl)
theorem ulyX9_7 : u_lay RX9 TX9 7 ∈ UL := (ul_2 (k := 39) (by decide +kernel) rfl)
theorem ulyX9_8 : u_lay RX9 TX9 8 ∈ UL := (ul_2 (k := 41) (by decide +kernel) rfl)
theorem ulyX9_9 : u_lay RX9 TX9 9 ∈ UL := (ul_2 (k := 43) (by decide +kernel) rfl)
theorem ulyX9_10 : u_lay RX9 TX9 10 ∈ UL := (ul_2 (k := 45) (by decide +kernel) rfl)
theorem ulyX9_11 : u_lay RX9 TX9 11 ∈ UL := (ul_2 (k := 47) (by decide +kernel) rfl)
theorem ulyX9_12 : u_lay RX9 TX9 12 ∈ UL := (ul_2 (k := 49) (by decide +kernel) rfl)
theorem iulX9 : ∀ w ∈ u_ws RX9 TX9 13, w ∈ UL := u_wsAll (fun k h => match k, h with
  | 0, _ => ulyX9_0
  | 1, _ => ulyX9_1
  | 2, _ => ulyX9_2
  | 3, _ => ulyX9_3
  | 4, _ => ulyX9_4
  | 5, _ => ulyX9_5
  | 6, _ => ulyX9_6
  | 7, _ => ulyX9_7
  | 8, _ => ulyX9_8
  | 9, _ => ulyX9_9
  | 10, _ => ulyX9_10
  | 11, _ => ulyX9_11
  | 12, _ => ulyX9_12
  | k + 13, h => absurd h (by omega))
theorem ulyX10_0 : u_lay RX10 TX10 0 ∈ UL := (ul_4 (k := 229) (by decide +kernel) rfl)
theorem ulyX10_1 : u_lay RX10 TX10 1 ∈ UL := (ul_4 (k := 231) (by decide +kernel) rfl)
theorem ulyX10_2 : u_lay RX10 TX10 2 ∈ UL := (ul_4 (k := 233) (by decide +kernel) rfl)
theorem ulyX10_3 : u_lay RX10 TX10 3 ∈ UL := (ul_4 (k := 235) (by decide +kernel) rfl)
theorem ulyX10_4 : u_lay RX10 TX10 4 ∈ UL := (ul_4 (k := 237) (by decide +kernel) rfl)
theorem ulyX10_5 : u_lay RX10 TX10 5 ∈ UL := (ul_4 (k := 239) (by decide +kernel) rfl)
theorem ulyX10_6 : u_lay RX10 TX10 6 ∈ UL := (ul_5 (k := 1) (by decide +kernel) rfl)
theorem ulyX10_7 : u_lay RX10 TX10 7 ∈ UL := (ul_5 (k := 3) (by decide +kernel) rfl)
theorem ulyX10_8 : u_lay RX10 TX10 8 ∈ UL := (ul_5 (k := 5) (by decide +kernel) rfl)
theorem ulyX10_9 : u_lay RX10 TX10 9 ∈ UL := (ul_5 (k := 7) (by decide +kernel) rfl)
theorem ulyX10_10 : u_lay RX10 TX10 10 ∈ UL := (ul_5 (k := 9) (by decide +kernel) rfl)
theorem ulyX10_11 : u_lay RX10 TX10 11 ∈ UL := (ul_5 (k := 11) (by decide +kernel) rfl)
theorem ulyX10_12 : u_lay RX10 TX10 12 ∈ UL := (ul_5 (k := 13) (by decide +kernel) rfl)
theorem ulyX10_13 : u_lay RX10 TX10 13 ∈ UL := (ul_5 (k := 15) (by decide +kernel) rfl)
theorem ulyX10_14 : u_lay RX10 TX10 14 ∈ UL := (ul_5 (k := 17) (by decide +kernel) rfl)
theorem ulyX10_15 : u_lay RX10 TX10 15 ∈ UL := (ul_5 (k := 19) (by decide +kernel) rfl)
theorem ulyX10_16 : u_lay RX10 TX10 16 ∈ UL := (ul_5 (k := 21) (by decide +kernel) rfl)
theorem ulyX10_17 : u_lay RX10 TX10 17 ∈ UL := (ul_5 (k := 23) (by decide +kernel) rfl)
theorem ulyX10_18 : u_lay RX10 TX10 18 ∈ UL := (ul_5 (k := 25) (by decide +kernel) rfl)
theorem ulyX10_19 : u_lay RX10 TX10 19 ∈ UL := (ul_5 (k := 27) (by decide +kernel) rfl)
theorem ulyX10_20 : u_lay RX10 TX10 20 ∈ UL := (ul_5 (k := 29) (by decide +kernel) rfl)
theorem ulyX10_21 : u_lay RX10 TX10 21 ∈ UL := (ul_5 (k := 31) (by decide +kernel) rfl)
theorem ulyX10_22 : u_lay RX10 TX10 22 ∈ UL := (ul_5 (k := 33) (by decide +kernel) rfl)
theorem ulyX10_23 : u_lay RX10 TX10 23 ∈ UL := (ul_5 (k := 35) (by decide +kernel) rfl)
theorem ulyX10_24 : u_lay RX10 TX10 24 ∈ UL := (ul_5 (k := 37) (by decide +kernel) rfl)
theorem ulyX10_25 : u_lay RX10 TX10 25 ∈ UL := (ul_5 (k := 39) (by decide +kernel) rfl)
theorem ulyX10_26 : u_lay RX10 TX10 26 ∈ UL := (ul_5 (k := 41) (by decide +kernel) rfl)
theorem ulyX10_27 : u_lay RX10 TX10 27 ∈ UL := (ul_5 (k := 43) (by decide +kernel) rfl)
theorem ulyX10_28 : u_lay RX10 TX10 28 ∈ UL := (ul_5 (k := 45) (by decide +kernel) rfl)
theorem ulyX10_29 : u_lay RX10 TX10 29 ∈ UL := (ul_5 (k := 47) (by decide +kernel) rfl)
theorem ulyX10_30 : u_lay RX10 TX10 30 ∈ UL := (ul_5 (k := 49) (by decide +kernel) rfl)
theorem ulyX10_31 : u_lay RX10 TX10 31 ∈ UL := (ul_5 (k := 51) (by decide +kernel) rfl)
theorem ulyX10_32 : u_lay RX10 TX10 32 ∈ UL := (ul_5 (k := 53) (by decide +kernel) rfl)
theorem ulyX10_33 : u_lay RX10 TX10 33 ∈ UL := (ul_5 (k := 55) (by decide +kernel) rfl)
theorem ulyX10_34 : u_lay RX10 TX10 34 ∈ UL := (ul_5 (k := 57) (by decide +kernel) rfl)
theorem ulyX10_35 : u_lay RX10 TX10 35 ∈ UL := (ul_5 (k := 59) (by decide +kernel) rfl)
theorem ulyX10_36 : u_lay RX10 TX10 36 ∈ UL := (ul_5 (k := 61) (by decide +kernel) rfl)
theorem ulyX10_37 : u_lay RX10 TX10 37 ∈ UL := (ul_5 (k := 63) (by decide +kernel) rfl)
theorem ulyX10_38 : u_lay RX10 TX10 38 ∈ UL := (ul_5 (k := 65) (by decide +kernel) rfl)
theorem ulyX10_39 : u_lay RX10 TX10 39 ∈ UL := (ul_5 (k := 67) (by decide +kernel) rfl)
theorem ulyX10_40 : u_lay RX10 TX10 40 ∈ UL := (ul_5 (k := 69) (by decide +kernel) rfl)
theorem ulyX10_41 : u_lay RX10 TX10 41 ∈ UL := (ul_5 (k := 71) (by decide +kernel) rfl)
theorem ulyX10_42 : u_lay RX10 TX10 42 ∈ UL := (ul_5 (k := 73) (by decide +kernel) rfl)
theorem ulyX10_43 : u_lay RX10 TX10 43 ∈ UL := (ul_5 (k := 75) (by decide +kernel) rfl)
theorem ulyX10_44 : u_lay RX10 TX10 44 ∈ UL := (ul_5 (k := 77) (by decide +kernel) rfl)
theorem ulyX10_45 : u_lay RX10 TX10 45 ∈ UL := (ul_5 (k := 79) (by decide +kernel) rfl)
theorem ulyX10_46 : u_lay RX10 TX10 46 ∈ UL := (ul_5 (k := 81) (by decide +kernel) rfl)
theorem ulyX10_47 : u_lay RX10 TX10 47 ∈ UL := (ul_5 (k := 83) (by decide +kernel) rfl)
theorem ulyX10_48 : u_lay RX10 TX10 48 ∈ UL := (ul_5 (k := 85) (by decide +kernel) rfl)
theorem ulyX10_49 : u_lay RX10 TX10 49 ∈ UL := (ul_5 (k := 87) (by decide +kernel) rfl)
theorem ulyX10_50 : u_lay RX10 TX10 50 ∈ UL := (ul_5 (k := 89) (by decide +kernel) rfl)
theorem ulyX10_51 : u_lay RX10 TX10 51 ∈ UL := (ul_5 (k := 91) (by decide +kernel) rfl)
theorem ulyX10_52 : u_lay RX10 TX10 52 ∈ UL := (ul_5 (k := 93) (by decide +kernel) rfl)
theorem ulyX10_53 : u_lay RX10 TX10 53 ∈ UL := (ul_5 (k := 95) (by decide +kernel) rfl)
theorem ulyX10_54 : u_lay RX10 TX10 54 ∈ UL := (ul_5 (k := 97) (by decide +kernel) rfl)
theorem iulX10 : ∀ w ∈ u_ws RX10 TX10 55, w ∈ UL := u_wsAll (fun k h => match k, h with
  | 0, _ => ulyX10_0
  | 1, _ => ulyX10_1
  | 2, _ => ulyX10_2
  | 3, _ => ulyX10_3
  | 4, _ => ulyX10_4
  | 5, _ => ulyX10_5
  | 6, _ => ulyX10_6
  | 7, _ => ulyX10_7
  | 8, _ => ulyX10_8
  | 9, _ => ulyX10_9
  | 10, _ => ulyX10_10
  | 11, _ => ulyX10_11
  | 12, _ => ulyX10_12
  | 13, _ => ulyX10_13
  | 14, _ => ulyX10_14
  | 15, _ => ulyX10_15
  | 16, _ => ulyX10_16
  | 17, _ => ulyX10_17
  | 18, _ => ulyX10_18
  | 19, _ => ulyX10_19
  | 20, _ => ulyX10_20
  | 21, _ => ulyX10_21
  | 22, _ => ulyX10_22
  | 23, _ => ulyX10_23
  | 24, _ => ulyX10_24
  | 25, _ => ulyX10_25
  | 26, _ => ulyX10_26
  | 27, _ => ulyX10_27
  | 28, _ => ulyX10_28
  | 29, _ => ulyX10_29
  | 30, _ => ulyX10_30
  | 31, _ => ulyX10_31
  | 32, _ => ulyX10_32
  | 33, _ => ulyX10_33
  | 34, _ => ulyX10_34
  | 35, _ => ulyX10_35
  | 36, _ => ulyX10_36
  | 37, _ => ulyX10_37
  | 38, _ => ulyX10_38
  | 39, _ => ulyX10_39
  | 40, _ => ulyX10_40
  | 41, _ => ulyX10_41
  | 42, _ => ulyX10_42
  | 43, _ => ulyX10_43
  | 44, _ => ulyX10_44
  | 45, _ => ulyX10_45
  | 46, _ => ulyX10_46
  | 47, _ => ulyX10_47
  | 48, _ => ulyX10_48
  | 49, _ => ulyX10_49
  | 50, _ => ulyX10_50
  | 51, _ => ulyX10_51
  | 52, _ => ulyX10_52
  | 53, _ => ulyX10_53
  | 54, _ => ulyX10_54
  | k + 55, h => absurd h (by omega))
theorem cls_in : ∀ (ci : Nat) (q : vw_C), cls11[ci]? = some q → ∀ w ∈ u_ws q.1 q.2.1 q.2.2, w ∈ UL :=
  clsAll_of ⟨iulX0, iulX1, iulX2, iulX3, iulX4, iulX5, iulX6, iulX7, iulX8, iulX9, iulX10⟩
theorem cls_ty : ∀ (ci : Nat) (q : vw_C), cls11[ci]? = some q → ∃ ty0 : Nat → FieldType, ∀ k, k < q.2.2 → parseFieldDescriptor (q.2.1 k).2.2.1 = some (ty0 k) :=
  clsAll_of ⟨⟨_, tyX0_ok⟩, ⟨_, tyX1_ok⟩, ⟨_, tyX2_ok⟩, ⟨_, tyX3_ok⟩, ⟨_, tyX4_ok⟩, ⟨_, tyX5_ok⟩, ⟨_, tyX6_ok⟩, ⟨_, tyX7_ok⟩, ⟨_, tyX8_ok⟩, ⟨_, tyX9_ok⟩, ⟨_, tyX10_ok⟩⟩
theorem cls_nm : ∀ (ci : Nat) (q : vw_C), cls11[ci]? = some q → ∀ a, a < q.2.2 → ∀ b, b < q.2.2 → a ≠ b → (q.2.1 a).2.1 ≠ (q.2.1 b).2.1 :=
  clsAll_of ⟨nmX0, nmX1, nmX2, nmX3, nmX4, nmX5, nmX6, nmX7, nmX8, nmX9, nmX10⟩
/-- a field's link: own's constant idx is field j of class ci -/
def FL (own : String) (idx ci j : Nat) : Prop := ∃ q : vw_C, cls11[ci]? = some q ∧ j < q.2.2 ∧ Cond.fieldLink own idx (q.2.1 j).1 (q.2.1 j).2.1 (q.2.1 j).2.2.1 ∈ UL
/-- a method's words, virtual and static -/
def MV (y : MethodName) (cc : ByteArray) (maxL : Nat) (ret : Option FieldType) (n : Nat) : Prop := (Cond.instanceMethod y ∈ UL ∧ Cond.selects y.cls y y ∈ UL ∧ Cond.initialized y.cls ∈ UL ∧ Cond.code y cc maxL ret ∈ UL) ∧ (y.cls ≠ "java/lang/invoke/MethodHandle" ∧ y.cls ≠ "java/lang/invoke/VarHandle" ∧ (parseMethodDescriptor y.desc).map (fun d => d.parameters.length) = some n)
def MS (y : MethodName) (cc : ByteArray) (maxL : Nat) (ret : Option FieldType) (n : Nat) : Prop := (Cond.static y ∈ UL ∧ Cond.initialized y.cls ∈ UL ∧ Cond.code y cc maxL ret ∈ UL) ∧ (y.cls ≠ "java/lang/invoke/MethodHandle" ∧ y.cls ≠ "java/lang/invoke/VarHandle" ∧ (parseMethodDescriptor y.desc).map (fun d => d.parameters.length) = some n)
theorem mlv_gi {own : String} {idx : Nat} {y : MethodName} {cc : ByteArray} {maxL : Nat} {ret : Option FieldType} {n : Nat} (h : MV y cc maxL ret n) (hl : Cond.methodLink own idx y ∈ UL) : ∀ w ∈ wsV own idx y.cls y (UW y cc maxL ret), w ∈ UL := by
  intro w hw
  obtain ⟨⟨h1, h2, h3, h4⟩, -⟩ := h
  simp only [wsV, UW, List.mem_append, List.mem_cons, List.not_mem_nil, or_false] at hw
  rcases hw with (rfl | rfl | rfl | rfl) | (rfl | hw) <;> assumption
theorem mls_gi {own : String} {idx : Nat} {y : MethodName} {cc : ByteArray} {maxL : Nat} {ret : Option FieldType} {n : Nat} (h : MS y cc maxL ret n) (hl : Cond.methodLink own idx y ∈ UL) : ∀ w ∈ va_wsS own idx y (UW y cc maxL ret), w ∈ UL := by
  intro w hw
  obtain ⟨⟨h1, h2, h3⟩, -⟩ := h
  simp only [va_wsS, UW, List.mem_append, List.mem_cons, List.not_mem_nil, or_false] at hw
  rcases hw with (rfl | rfl | rfl) | (rfl | hw) <;> assumption
theorem fX2_9 : FL RX2 9 2 0 := ⟨_, rfl, by decide, (ul_1 (k := 29) (by decide +kernel) rfl)⟩
theorem fX6_38 : FL RX6 38 2 0 := ⟨_, rfl, by decide, (ul_1 (k := 30) (by decide +kernel) rfl)⟩
theorem fX0_55 : FL RX0 55 2 0 := ⟨_, rfl, by decide, (ul_1 (k := 31) (by decide +kernel) rfl)⟩
theorem fX5_63 : FL RX5 63 2 0 := ⟨_, rfl, by decide, (ul_1 (k := 32) (by decide +kernel) rfl)⟩
theorem fX9_152 : FL RX9 152 2 0 := ⟨_, rfl, by decide, (ul_1 (k := 33) (by decide +kernel) rfl)⟩
theorem fX2_15 : FL RX2 15 2 1 := ⟨_, rfl, by decide, (ul_1 (k := 34) (by decide +kernel) rfl)⟩
theorem fX6_42 : FL RX6 42 2 1 := ⟨_, rfl, by decide, (ul_1 (k := 35) (by decide +kernel) rfl)⟩
theorem fX0_61 : FL RX0 61 2 1 := ⟨_, rfl, by decide, (ul_1 (k := 36) (by decide +kernel) rfl)⟩
theorem fX5_66 : FL RX5 66 2 1 := ⟨_, rfl, by decide, (ul_1 (k := 37) (by decide +kernel) rfl)⟩
theorem fX9_155 : FL RX9 155 2 1 := ⟨_, rfl, by decide, (ul_1 (k := 38) (by decide +kernel) rfl)⟩
theorem fX2_18 : FL RX2 18 2 2 := ⟨_, rfl, by decide, (ul_1 (k := 39) (by decide +kernel) rfl)⟩
theorem fX5_69 : FL RX5 69 2 2 := ⟨_, rfl, by decide, (ul_1 (k := 40) (by decide +kernel) rfl)⟩
theorem fX9_168 : FL RX9 168 2 2 := ⟨_, rfl, by decide, (ul_1 (k := 41) (by decide +kernel) rfl)⟩
theorem fX8_79 : FL RX8 79 2 2 := ⟨_, rfl, by decide, (ul_1 (k := 42) (by decide +kernel) rfl)⟩
theorem fX2_21 : FL RX2 21 2 3 := ⟨_, rfl, by decide, (ul_1 (k := 43) (by decide +kernel) rfl)⟩
theorem fX6_21 : FL RX6 21 2 3 := ⟨_, rfl, by decide, (ul_1 (k := 44) (by decide +kernel) rfl)⟩
theorem fX9_101 : FL RX9 101 2 3 := ⟨_, rfl, by decide, (ul_1 (k := 45) (by decide +kernel) rfl)⟩
theorem fX5_27 : FL RX5 27 2 3 := ⟨_, rfl, by decide, (ul_1 (k := 46) (by decide +kernel) rfl)⟩
theorem fX2_25 : FL RX2 25 2 4 := ⟨_, rfl, by decide, (ul_1 (k := 47) (by decide +kernel) rfl)⟩
theorem fX9_105 : FL RX9 105 2 4 := ⟨_, rfl, by decide, (ul_1 (k := 48) (by decide +kernel) rfl)⟩
theorem fX5_56 : FL RX5 56 2 4 := ⟨_, rfl, by decide, (ul_1 (k := 49) (by decide +kernel) rfl)⟩
theorem fX8_108 : FL RX8 108 2 4 := ⟨_, rfl, by decide, (ul_1 (k := 50) (by decide +kernel) rfl)⟩
theorem fX2_28 : FL RX2 28 2 5 := ⟨_, rfl, by decide, (ul_1 (k := 51) (by decide +kernel) rfl)⟩
theorem fX5_22 : FL RX5 22 2 5 := ⟨_, rfl, by decide, (ul_1 (k := 52) (by decide +kernel) rfl)⟩
theorem fX9_285 : FL RX9 285 2 5 := ⟨_, rfl, by decide, (ul_1 (k := 53) (by decide +kernel) rfl)⟩
theorem fX2_32 : FL RX2 32 2 6 := ⟨_, rfl, by decide, (ul_1 (k := 54) (by decide +kernel) rfl)⟩
theorem fX9_282 : FL RX9 282 2 6 := ⟨_, rfl, by decide, (ul_1 (k := 55) (by decide +kernel) rfl)⟩
theorem fX7_9 : FL RX7 9 7 0 := ⟨_, rfl, by decide, (ul_1 (k := 79) (by decide +kernel) rfl)⟩
theorem fX7_15 : FL RX7 15 7 1 := ⟨_, rfl, by decide, (ul_1 (k := 80) (by decide +kernel) rfl)⟩
theorem fX9_111 : FL RX9 111 7 1 := ⟨_, rfl, by decide, (ul_1 (k := 81) (by decide +kernel) rfl)⟩
theorem fX7_19 : FL RX7 19 7 2 := ⟨_, rfl, by decide, (ul_1 (k := 82) (by decide +kernel) rfl)⟩
theorem fX7_22 : FL RX7 22 7 3 := ⟨_, rfl, by decide, (ul_1 (k := 83) (by decide +kernel) rfl)⟩
theorem fX4_41 : FL RX4 41 7 3 := ⟨_, rfl, by decide, (ul_1 (k := 84) (by decide +kernel) rfl)⟩
theorem fX3_54 : FL RX3 54 7 3 := ⟨_, rfl, by decide, (ul_1 (k := 85) (by decide +kernel) rfl)⟩
theorem fX9_310 : FL RX9 310 7 3 := ⟨_, rfl, by decide, (ul_1 (k := 86) (by decide +kernel) rfl)⟩
theorem fX7_25 : FL RX7 25 7 4 := ⟨_, rfl, by decide, (ul_1 (k := 87) (by decide +kernel) rfl)⟩
theorem fX3_61 : FL RX3 61 7 4 := ⟨_, rfl, by decide, (ul_1 (k := 88) (by decide +kernel) rfl)⟩
theorem fX9_220 : FL RX9 220 7 4 := ⟨_, rfl, by decide, (ul_1 (k := 89) (by decide +kernel) rfl)⟩
theorem fX5_11 : FL RX5 11 5 0 := ⟨_, rfl, by decide, (ul_1 (k := 107) (by decide +kernel) rfl)⟩
theorem fX5_15 : FL RX5 15 5 1 := ⟨_, rfl, by decide, (ul_1 (k := 108) (by decide +kernel) rfl)⟩
theorem fX9_145 : FL RX9 145 5 1 := ⟨_, rfl, by decide, (ul_1 (k := 109) (by decide +kernel) rfl)⟩
theorem fX5_19 : FL RX5 19 5 2 := ⟨_, rfl, by decide, (ul_1 (k := 110) (by decide +kernel) rfl)⟩
theorem fX9_158 : FL RX9 158 5 2 := ⟨_, rfl, by decide, (ul_1 (k := 111) (by decide +kernel) rfl)⟩
theorem fX8_9 : FL RX8 9 8 0 := ⟨_, rfl, by decide, (ul_1 (k := 125) (by decide +kernel) rfl)⟩
theorem fX8_15 : FL RX8 15 8 1 := ⟨_, rfl, by decide, (ul_1 (k := 126) (by decide +kernel) rfl)⟩
theorem fX8_18 : FL RX8 18 8 2 := ⟨_, rfl, by decide, (ul_1 (k := 127) (by decide +kernel) rfl)⟩
theorem fX8_21 : FL RX8 21 8 3 := ⟨_, rfl, by decide, (ul_1 (k := 128) (by decide +kernel) rfl)⟩
theorem fX8_24 : FL RX8 24 8 4 := ⟨_, rfl, by decide, (ul_1 (k := 129) (by decide +kernel) rfl)⟩
theorem fX8_27 : FL RX8 27 8 5 := ⟨_, rfl, by decide, (ul_1 (k := 130) (by decide +kernel) rfl)⟩
theorem fX1_9 : FL RX1 9 1 0 := ⟨_, rfl, by decide, (ul_1 (k := 150) (by decide +kernel) rfl)⟩
theorem fX1_15 : FL RX1 15 1 1 := ⟨_, rfl, by decide, (ul_1 (k := 151) (by decide +kernel) rfl)⟩
theorem fX1_18 : FL RX1 18 1 2 := ⟨_, rfl, by decide, (ul_1 (k := 152) (by decide +kernel) rfl)⟩
theorem fX1_21 : FL RX1 21 1 3 := ⟨_, rfl, by decide, (ul_1 (k := 153) (by decide +kernel) rfl)⟩
theorem fX4_9 : FL RX4 9 4 0 := ⟨_, rfl, by decide, (ul_1 (k := 169) (by decide +kernel) rfl)⟩
theorem fX4_15 : FL RX4 15 4 1 := ⟨_, rfl, by decide, (ul_1 (k := 170) (by decide +kernel) rfl)⟩
theorem fX4_18 : FL RX4 18 4 2 := ⟨_, rfl, by decide, (ul_1 (k := 171) (by decide +kernel) rfl)⟩
theorem fX4_22 : FL RX4 22 4 3 := ⟨_, rfl, by decide, (ul_1 (k := 172) (by decide +kernel) rfl)⟩
theorem fX9_227 : FL RX9 227 4 3 := ⟨_, rfl, by decide, (ul_1 (k := 173) (by decide +kernel) rfl)⟩
theorem fX4_25 : FL RX4 25 4 4 := ⟨_, rfl, by decide, (ul_1 (k := 174) (by decide +kernel) rfl)⟩
theorem fX9_232 : FL RX9 232 4 4 := ⟨_, rfl, by decide, (ul_1 (k := 175) (by decide +kernel) rfl)⟩
theorem fX4_28 : FL RX4 28 4 5 := ⟨_, rfl, by decide, (ul_1 (k := 176) (by decide +kernel) rfl)⟩
theorem fX9_230 : FL RX9 230 4 5 := ⟨_, rfl, by decide, (ul_1 (k := 177) (by decide +kernel) rfl)⟩
theorem fX0_9 : FL RX0 9 0 0 := ⟨_, rfl, by decide, (ul_1 (k := 197) (by decide +kernel) rfl)⟩
theorem fX0_15 : FL RX0 15 0 1 := ⟨_, rfl, by decide, (ul_1 (k := 198) (by decide +kernel) rfl)⟩
theorem fX0_18 : FL RX0 18 0 2 := ⟨_, rfl, by decide, (ul_1 (k := 199) (by decide +kernel) rfl)⟩
theorem fX0_21 : FL RX0 21 0 3 := ⟨_, rfl, by decide, (ul_1 (k := 200) (by decide +kernel) rfl)⟩
theorem fX0_24 : FL RX0 24 0 4 := ⟨_, rfl, by decide, (ul_1 (k := 201) (by decide +kernel) rfl)⟩
theorem fX3_9 : FL RX3 9 3 0 := ⟨_, rfl, by decide, (ul_1 (k := 219) (by decide +kernel) rfl)⟩
theorem fX3_15 : FL RX3 15 3 1 := ⟨_, rfl, by decide, (ul_1 (k := 220) (by decide +kernel) rfl)⟩
theorem fX3_18 : FL RX3 18 3 2 := ⟨_, rfl, by decide, (ul_1 (k := 221) (by decide +kernel) rfl)⟩
theorem fX3_21 : FL RX3 21 3 3 := ⟨_, rfl, by decide, (ul_1 (k := 222) (by decide +kernel) rfl)⟩
theorem fX3_24 : FL RX3 24 3 4 := ⟨_, rfl, by decide, (ul_1 (k := 223) (by decide +kernel) rfl)⟩
theorem fX3_27 : FL RX3 27 3 5 := ⟨_, rfl, by decide, (ul_1 (k := 224) (by decide +kernel) rfl)⟩
theorem fX3_30 : FL RX3 30 3 6 := ⟨_, rfl, by decide, (ul_1 (k := 225) (by decide +kernel) rfl)⟩
theorem fX3_33 : FL RX3 33 3 7 := ⟨_, rfl, by decide, (ul_1 (k := 226) (by decide +kernel) rfl)⟩
theorem fX3_37 : FL RX3 37 3 8 := ⟨_, rfl, by decide, (ul_1 (k := 227) (by decide +kernel) rfl)⟩
theorem fX9_291 : FL RX9 291 3 8 := ⟨_, rfl, by decide, (ul_1 (k := 228) (by decide +kernel) rfl)⟩
theorem fX3_40 : FL RX3 40 3 9 := ⟨_, rfl, by decide, (ul_1 (k := 229) (by decide +kernel) rfl)⟩
theorem fX5_72 : FL RX5 72 3 9 := ⟨_, rfl, by decide, (ul_1 (k := 230) (by decide +kernel) rfl)⟩
theorem fX9_10 : FL RX9 10 9 0 := ⟨_, rfl, by decide, (ul_2 (k := 12) (by decide +kernel) rfl)⟩
theorem fX9_16 : FL RX9 16 9 1 := ⟨_, rfl, by decide, (ul_2 (k := 13) (by decide +kernel) rfl)⟩
theorem fX9_19 : FL RX9 19 9 2 := ⟨_, rfl, by decide, (ul_2 (k := 14) (by decide +kernel) rfl)⟩
theorem fX9_25 : FL RX9 25 9 3 := ⟨_, rfl, by decide, (ul_2 (k := 15) (by decide +kernel) rfl)⟩
theorem fX9_32 : FL RX9 32 9 4 := ⟨_, rfl, by decide, (ul_2 (k := 16) (by decide +kernel) rfl)⟩
theorem fX9_39 : FL RX9 39 9 5 := ⟨_, rfl, by decide, (ul_2 (k := 17) (by decide +kernel) rfl)⟩
theorem fX9_46 : FL RX9 46 9 6 := ⟨_, rfl, by decide, (ul_2 (k := 18) (by decide +kernel) rfl)⟩
theorem fX9_53 : FL RX9 53 9 7 := ⟨_, rfl, by decide, (ul_2 (k := 19) (by decide +kernel) rfl)⟩
theorem fX9_60 : FL RX9 60 9 8 := ⟨_, rfl, by decide, (ul_2 (k := 20) (by decide +kernel) rfl)⟩
theorem fX9_64 : FL RX9 64 9 9 := ⟨_, rfl, by decide, (ul_2 (k := 21) (by decide +kernel) rfl)⟩
theorem fX9_71 : FL RX9 71 9 10 := ⟨_, rfl, by decide, (ul_2 (k := 22) (by decide +kernel) rfl)⟩
theorem fX9_75 : FL RX9 75 9 11 := ⟨_, rfl, by decide, (ul_2 (k := 23) (by decide +kernel) rfl)⟩
theorem fX9_78 : FL RX9 78 9 12 := ⟨_, rfl, by decide, (ul_2 (k := 24) (by decide +kernel) rfl)⟩
theorem fX10_7 : FL RX10 7 10 0 := ⟨_, rfl, by decide, (ul_4 (k := 174) (by decide +kernel) rfl)⟩
theorem fX10_13 : FL RX10 13 10 1 := ⟨_, rfl, by decide, (ul_4 (k := 175) (by decide +kernel) rfl)⟩
theorem fX10_16 : FL RX10 16 10 2 := ⟨_, rfl, by decide, (ul_4 (k := 176) (by decide +kernel) rfl)⟩
theorem fX10_19 : FL RX10 19 10 3 := ⟨_, rfl, by decide, (ul_4 (k := 177) (by decide +kernel) rfl)⟩
theorem fX10_136 : FL RX10 136 10 4 := ⟨_, rfl, by decide, (ul_4 (k := 178) (by decide +kernel) rfl)⟩
theorem fX10_22 : FL RX10 22 10 5 := ⟨_, rfl, by decide, (ul_4 (k := 179) (by decide +kernel) rfl)⟩
theorem fX10_158 : FL RX10 158 10 6 := ⟨_, rfl, by decide, (ul_4 (k := 180) (by decide +kernel) rfl)⟩
theorem fX10_165 : FL RX10 165 10 7 := ⟨_, rfl, by decide, (ul_4 (k := 181) (by decide +kernel) rfl)⟩
theorem fX10_168 : FL RX10 168 10 8 := ⟨_, rfl, by decide, (ul_4 (k := 182) (by decide +kernel) rfl)⟩
theorem fX10_175 : FL RX10 175 10 9 := ⟨_, rfl, by decide, (ul_4 (k := 183) (by decide +kernel) rfl)⟩
theorem fX10_181 : FL RX10 181 10 10 := ⟨_, rfl, by decide, (ul_4 (k := 184) (by decide +kernel) rfl)⟩
theorem fX10_192 : FL RX10 192 10 11 := ⟨_, rfl, by decide, (ul_4 (k := 185) (by decide +kernel) rfl)⟩
theorem fX10_188 : FL RX10 188 10 12 := ⟨_, rfl, by decide, (ul_4 (k := 186) (by decide +kernel) rfl)⟩
theorem fX10_195 : FL RX10 195 10 13 := ⟨_, rfl, by decide, (ul_4 (k := 187) (by decide +kernel) rfl)⟩
theorem fX10_243 : FL RX10 243 10 14 := ⟨_, rfl, by decide, (ul_4 (k := 188) (by decide +kernel) rfl)⟩
theorem fX10_258 : FL RX10 258 10 15 := ⟨_, rfl, by decide, (ul_4 (k := 189) (by decide +kernel) rfl)⟩
theorem fX10_26 : FL RX10 26 10 16 := ⟨_, rfl, by decide, (ul_4 (k := 190) (by decide +kernel) rfl)⟩
theorem fX10_29 : FL RX10 29 10 17 := ⟨_, rfl, by decide, (ul_4 (k := 191) (by decide +kernel) rfl)⟩
theorem fX10_32 : FL RX10 32 10 18 := ⟨_, rfl, by decide, (ul_4 (k := 192) (by decide +kernel) rfl)⟩
theorem fX10_35 : FL RX10 35 10 19 := ⟨_, rfl, by decide, (ul_4 (k := 193) (by decide +kernel) rfl)⟩
theorem fX10_38 : FL RX10 38 10 20 := ⟨_, rfl, by decide, (ul_4 (k := 194) (by decide +kernel) rfl)⟩
theorem fX10_41 : FL RX10 41 10 21 := ⟨_, rfl, by decide, (ul_4 (k := 195) (by decide +kernel) rfl)⟩
theorem fX10_44 : FL RX10 44 10 22 := ⟨_, rfl, by decide, (ul_4 (k := 196) (by decide +kernel) rfl)⟩
theorem fX10_47 : FL RX10 47 10 23 := ⟨_, rfl, by decide, (ul_4 (k := 197) (by decide +kernel) rfl)⟩
theorem fX10_50 : FL RX10 50 10 24 := ⟨_, rfl, by decide, (ul_4 (k := 198) (by decide +kernel) rfl)⟩
theorem fX10_53 : FL RX10 53 10 25 := ⟨_, rfl, by decide, (ul_4 (k := 199) (by decide +kernel) rfl)⟩
theorem fX10_56 : FL RX10 56 10 26 := ⟨_, rfl, by decide, (ul_4 (k := 200) (by decide +kernel) rfl)⟩
theorem fX10_59 : FL RX10 59 10 27 := ⟨_, rfl, by decide, (ul_4 (k := 201) (by decide +kernel) rfl)⟩
theorem fX10_62 : FL RX10 62 10 28 := ⟨_, rfl, by decide, (ul_4 (k := 202) (by decide +kernel) rfl)⟩
theorem fX10_65 : FL RX10 65 10 29 := ⟨_, rfl, by decide, (ul_4 (k := 203) (by decide +kernel) rfl)⟩
theorem fX10_68 : FL RX10 68 10 30 := ⟨_, rfl, by decide, (ul_4 (k := 204) (by decide +kernel) rfl)⟩
theorem fX10_71 : FL RX10 71 10 31 := ⟨_, rfl, by decide, (ul_4 (k := 205) (by decide +kernel) rfl)⟩
theorem fX10_74 : FL RX10 74 10 32 := ⟨_, rfl, by decide, (ul_4 (k := 206) (by decide +kernel) rfl)⟩
theorem fX10_274 : FL RX10 274 10 33 := ⟨_, rfl, by decide, (ul_4 (k := 207) (by decide +kernel) rfl)⟩
theorem fX10_293 : FL RX10 293 10 34 := ⟨_, rfl, by decide, (ul_4 (k := 208) (by decide +kernel) rfl)⟩
theorem fX10_296 : FL RX10 296 10 35 := ⟨_, rfl, by decide, (ul_4 (k := 209) (by decide +kernel) rfl)⟩
theorem fX10_77 : FL RX10 77 10 36 := ⟨_, rfl, by decide, (ul_4 (k := 210) (by decide +kernel) rfl)⟩
theorem fX10_80 : FL RX10 80 10 37 := ⟨_, rfl, by decide, (ul_4 (k := 211) (by decide +kernel) rfl)⟩
theorem fX10_83 : FL RX10 83 10 38 := ⟨_, rfl, by decide, (ul_4 (k := 212) (by decide +kernel) rfl)⟩
theorem fX10_86 : FL RX10 86 10 39 := ⟨_, rfl, by decide, (ul_4 (k := 213) (by decide +kernel) rfl)⟩
theorem fX10_89 : FL RX10 89 10 40 := ⟨_, rfl, by decide, (ul_4 (k := 214) (by decide +kernel) rfl)⟩
theorem fX10_92 : FL RX10 92 10 41 := ⟨_, rfl, by decide, (ul_4 (k := 215) (by decide +kernel) rfl)⟩
theorem fX10_95 : FL RX10 95 10 42 := ⟨_, rfl, by decide, (ul_4 (k := 216) (by decide +kernel) rfl)⟩
theorem fX10_98 : FL RX10 98 10 43 := ⟨_, rfl, by decide, (ul_4 (k := 217) (by decide +kernel) rfl)⟩
theorem fX10_101 : FL RX10 101 10 44 := ⟨_, rfl, by decide, (ul_4 (k := 218) (by decide +kernel) rfl)⟩
theorem fX10_104 : FL RX10 104 10 45 := ⟨_, rfl, by decide, (ul_4 (k := 219) (by decide +kernel) rfl)⟩
theorem fX10_107 : FL RX10 107 10 46 := ⟨_, rfl, by decide, (ul_4 (k := 220) (by decide +kernel) rfl)⟩
theorem fX10_110 : FL RX10 110 10 47 := ⟨_, rfl, by decide, (ul_4 (k := 221) (by decide +kernel) rfl)⟩
theorem fX10_113 : FL RX10 113 10 48 := ⟨_, rfl, by decide, (ul_4 (k := 222) (by decide +kernel) rfl)⟩
theorem fX10_359 : FL RX10 359 10 49 := ⟨_, rfl, by decide, (ul_4 (k := 223) (by decide +kernel) rfl)⟩
theorem fX10_362 : FL RX10 362 10 50 := ⟨_, rfl, by decide, (ul_4 (k := 224) (by decide +kernel) rfl)⟩
theorem fX10_116 : FL RX10 116 10 51 := ⟨_, rfl, by decide, (ul_4 (k := 225) (by decide +kernel) rfl)⟩
theorem fX10_119 : FL RX10 119 10 52 := ⟨_, rfl, by decide, (ul_4 (k := 226) (by decide +kernel) rfl)⟩
theorem fX10_122 : FL RX10 122 10 53 := ⟨_, rfl, by decide, (ul_4 (k := 227) (by decide +kernel) rfl)⟩
theorem fX10_415 : FL RX10 415 10 54 := ⟨_, rfl, by decide, (ul_4 (k := 228) (by decide +kernel) rfl)⟩
theorem mX9_stone : MV yX9_stone cX9_stone 6 (some .boolean) 4 := ⟨⟨(ul_2 (k := 53) (by decide +kernel) rfl), (ul_2 (k := 54) (by decide +kernel) rfl), (ul_1 (k := 1) (by decide +kernel) rfl), (ul_2 (k := 55) (by decide +kernel) rfl)⟩, by decide +kernel⟩
theorem mX9_isStone : MS yX9_isStone cX9_isStone 1 (some .boolean) 1 := ⟨⟨(ul_2 (k := 57) (by decide +kernel) rfl), (ul_1 (k := 1) (by decide +kernel) rfl), (ul_2 (k := 58) (by decide +kernel) rfl)⟩, by decide +kernel⟩
theorem mX9_isPlace : MS yX9_isPlace cX9_isPlace 2 (some .boolean) 2 := ⟨⟨(ul_2 (k := 60) (by decide +kernel) rfl), (ul_1 (k := 1) (by decide +kernel) rfl), (ul_2 (k := 61) (by decide +kernel) rfl)⟩, by decide +kernel⟩
theorem mX2_stoneAt : MV yX2_stoneAt cX2_stoneAt 4 (some .int) 2 := ⟨⟨(ul_2 (k := 63) (by decide +kernel) rfl), (ul_2 (k := 64) (by decide +kernel) rfl), (ul_1 (k := 2) (by decide +kernel) rfl), (ul_2 (k := 65) (by decide +kernel) rfl)⟩, by decide +kernel⟩
theorem mX2_lay : MV yX2_lay cX2_lay 6 none 5 := ⟨⟨(ul_2 (k := 67) (by decide +kernel) rfl), (ul_2 (k := 68) (by decide +kernel) rfl), (ul_1 (k := 2) (by decide +kernel) rfl), (ul_2 (k := 69) (by decide +kernel) rfl)⟩, by decide +kernel⟩
theorem mX9_take : MV yX9_take cX9_take 2 (some .boolean) 1 := ⟨⟨(ul_2 (k := 71) (by decide +kernel) rfl), (ul_2 (k := 72) (by decide +kernel) rfl), (ul_1 (k := 1) (by decide +kernel) rfl), (ul_2 (k := 73) (by decide +kernel) rfl)⟩, by decide +kernel⟩
theorem mX2_isTold : MV yX2_isTold cX2_isTold 2 (some .boolean) 1 := ⟨⟨(ul_2 (k := 75) (by decide +kernel) rfl), (ul_2 (k := 76) (by decide +kernel) rfl), (ul_1 (k := 2) (by decide +kernel) rfl), (ul_2 (k := 77) (by decide +kernel) rfl)⟩, by decide +kernel⟩
theorem mX9_under : MV yX9_under cX9_under 3 (some .boolean) 2 := ⟨⟨(ul_2 (k := 79) (by decide +kernel) rfl), (ul_2 (k := 80) (by decide +kernel) rfl), (ul_1 (k := 1) (by decide +kernel) rfl), (ul_2 (k := 81) (by decide +kernel) rfl)⟩, by decide +kernel⟩
theorem mX9_person : MV yX9_person cX9_person 3 (some .boolean) 2 := ⟨⟨(ul_2 (k := 83) (by decide +kernel) rfl), (ul_2 (k := 84) (by decide +kernel) rfl), (ul_1 (k := 1) (by decide +kernel) rfl), (ul_2 (k := 85) (by decide +kernel) rfl)⟩, by decide +kernel⟩
theorem mX9_isStride : MS yX9_isStride cX9_isStride 1 (some .boolean) 1 := ⟨⟨(ul_2 (k := 87) (by decide +kernel) rfl), (ul_1 (k := 1) (by decide +kernel) rfl), (ul_2 (k := 88) (by decide +kernel) rfl)⟩, by decide +kernel⟩
theorem mX9_feed : MV yX9_feed cX9_feed 6 (some .int) 5 := ⟨⟨(ul_2 (k := 90) (by decide +kernel) rfl), (ul_2 (k := 91) (by decide +kernel) rfl), (ul_1 (k := 1) (by decide +kernel) rfl), (ul_2 (k := 92) (by decide +kernel) rfl)⟩, by decide +kernel⟩
theorem mX7_append : MV yX7_append cX7_append 3 none 1 := ⟨⟨(ul_2 (k := 94) (by decide +kernel) rfl), (ul_2 (k := 95) (by decide +kernel) rfl), (ul_1 (k := 3) (by decide +kernel) rfl), (ul_2 (k := 96) (by decide +kernel) rfl)⟩, by decide +kernel⟩
theorem mX9_law : MV yX9_law cX9_law 4 (some .int) 1 := ⟨⟨(ul_2 (k := 98) (by decide +kernel) rfl), (ul_2 (k := 99) (by decide +kernel) rfl), (ul_1 (k := 1) (by decide +kernel) rfl), (ul_2 (k := 100) (by decide +kernel) rfl)⟩, by decide +kernel⟩
theorem mX7_holds : MV yX7_holds cX7_holds 4 (some .boolean) 3 := ⟨⟨(ul_2 (k := 102) (by decide +kernel) rfl), (ul_2 (k := 103) (by decide +kernel) rfl), (ul_1 (k := 3) (by decide +kernel) rfl), (ul_2 (k := 104) (by decide +kernel) rfl)⟩, by decide +kernel⟩
theorem mX7_open : MV yX7_open cX7_open 2 none 1 := ⟨⟨(ul_2 (k := 106) (by decide +kernel) rfl), (ul_2 (k := 107) (by decide +kernel) rfl), (ul_1 (k := 3) (by decide +kernel) rfl), (ul_2 (k := 108) (by decide +kernel) rfl)⟩, by decide +kernel⟩
theorem mX3_compile : MV yX3_compile cX3_compile 4 (some .int) 1 := ⟨⟨(ul_2 (k := 110) (by decide +kernel) rfl), (ul_2 (k := 111) (by decide +kernel) rfl), (ul_1 (k := 9) (by decide +kernel) rfl), (ul_2 (k := 112) (by decide +kernel) rfl)⟩, by decide +kernel⟩
theorem mX7_here : MV yX7_here cX7_here 1 (some .int) 0 := ⟨⟨(ul_2 (k := 114) (by decide +kernel) rfl), (ul_2 (k := 115) (by decide +kernel) rfl), (ul_1 (k := 3) (by decide +kernel) rfl), (ul_2 (k := 116) (by decide +kernel) rfl)⟩, by decide +kernel⟩
theorem mX3_isRuleLetter : MS yX3_isRuleLetter cX3_isRuleLetter 1 (some .boolean) 1 := ⟨⟨(ul_2 (k := 118) (by decide +kernel) rfl), (ul_1 (k := 9) (by decide +kernel) rfl), (ul_2 (k := 119) (by decide +kernel) rfl)⟩, by decide +kernel⟩
theorem mX7_refuse : MV yX7_refuse cX7_refuse 3 (some .boolean) 2 := ⟨⟨(ul_2 (k := 121) (by decide +kernel) rfl), (ul_2 (k := 122) (by decide +kernel) rfl), (ul_1 (k := 3) (by decide +kernel) rfl), (ul_2 (k := 123) (by decide +kernel) rfl)⟩, by decide +kernel⟩
theorem mX3_compileSum : MV yX3_compileSum cX3_compileSum 7 (some .boolean) 2 := ⟨⟨(ul_2 (k := 126) (by decide +kernel) rfl), (ul_0 (k := 0) (by decide +kernel) rfl), (ul_1 (k := 9) (by decide +kernel) rfl), (ul_2 (k := 127) (by decide +kernel) rfl)⟩, by decide +kernel⟩
theorem mX3_compileFactor : MV yX3_compileFactor cX3_compileFactor 5 (some .boolean) 2 := ⟨⟨(ul_2 (k := 130) (by decide +kernel) rfl), (ul_0 (k := 1) (by decide +kernel) rfl), (ul_1 (k := 9) (by decide +kernel) rfl), (ul_2 (k := 131) (by decide +kernel) rfl)⟩, by decide +kernel⟩
theorem mX7_skip : MV yX7_skip cX7_skip 2 (some .boolean) 1 := ⟨⟨(ul_2 (k := 133) (by decide +kernel) rfl), (ul_2 (k := 134) (by decide +kernel) rfl), (ul_1 (k := 3) (by decide +kernel) rfl), (ul_2 (k := 135) (by decide +kernel) rfl)⟩, by decide +kernel⟩
theorem mX7_isDigit : MS yX7_isDigit cX7_isDigit 1 (some .boolean) 1 := ⟨⟨(ul_2 (k := 139) (by decide +kernel) rfl), (ul_1 (k := 3) (by decide +kernel) rfl), (ul_2 (k := 140) (by decide +kernel) rfl)⟩, by decide +kernel⟩
theorem mX7_number : MV yX7_number cX7_number 4 (some .int) 1 := ⟨⟨(ul_2 (k := 142) (by decide +kernel) rfl), (ul_2 (k := 143) (by decide +kernel) rfl), (ul_1 (k := 3) (by decide +kernel) rfl), (ul_2 (k := 144) (by decide +kernel) rfl)⟩, by decide +kernel⟩
theorem mX3_order : MV yX3_order cX3_order 3 none 2 := ⟨⟨(ul_2 (k := 147) (by decide +kernel) rfl), (ul_2 (k := 148) (by decide +kernel) rfl), (ul_1 (k := 9) (by decide +kernel) rfl), (ul_2 (k := 149) (by decide +kernel) rfl)⟩, by decide +kernel⟩
theorem mX5_indexOf : MS yX5_indexOf cX5_indexOf 1 (some .int) 1 := ⟨⟨(ul_2 (k := 151) (by decide +kernel) rfl), (ul_1 (k := 4) (by decide +kernel) rfl), (ul_2 (k := 152) (by decide +kernel) rfl)⟩, by decide +kernel⟩
theorem mX3_compileChoice : MV yX3_compileChoice cX3_compileChoice 7 (some .boolean) 2 := ⟨⟨(ul_2 (k := 155) (by decide +kernel) rfl), (ul_0 (k := 2) (by decide +kernel) rfl), (ul_1 (k := 9) (by decide +kernel) rfl), (ul_2 (k := 156) (by decide +kernel) rfl)⟩, by decide +kernel⟩
theorem mX3_compileTest : MV yX3_compileTest cX3_compileTest 5 (some .boolean) 2 := ⟨⟨(ul_2 (k := 159) (by decide +kernel) rfl), (ul_0 (k := 3) (by decide +kernel) rfl), (ul_1 (k := 9) (by decide +kernel) rfl), (ul_2 (k := 160) (by decide +kernel) rfl)⟩, by decide +kernel⟩
theorem mX3_landHere : MV yX3_landHere cX3_landHere 2 none 1 := ⟨⟨(ul_2 (k := 162) (by decide +kernel) rfl), (ul_2 (k := 163) (by decide +kernel) rfl), (ul_1 (k := 9) (by decide +kernel) rfl), (ul_2 (k := 164) (by decide +kernel) rfl)⟩, by decide +kernel⟩
theorem mX9_notebook : MV yX9_notebook cX9_notebook 3 (some .int) 1 := ⟨⟨(ul_2 (k := 166) (by decide +kernel) rfl), (ul_2 (k := 167) (by decide +kernel) rfl), (ul_1 (k := 1) (by decide +kernel) rfl), (ul_2 (k := 168) (by decide +kernel) rfl)⟩, by decide +kernel⟩
theorem mX9_readNotebook : MS yX9_readNotebook cX9_readNotebook 3 (some .int) 2 := ⟨⟨(ul_2 (k := 170) (by decide +kernel) rfl), (ul_1 (k := 1) (by decide +kernel) rfl), (ul_2 (k := 171) (by decide +kernel) rfl)⟩, by decide +kernel⟩
theorem mX2_clearStones : MV yX2_clearStones cX2_clearStones 2 none 0 := ⟨⟨(ul_2 (k := 173) (by decide +kernel) rfl), (ul_2 (k := 174) (by decide +kernel) rfl), (ul_1 (k := 2) (by decide +kernel) rfl), (ul_2 (k := 175) (by decide +kernel) rfl)⟩, by decide +kernel⟩
theorem mX9_readLine : MS yX9_readLine cX9_readLine 9 (some .boolean) 3 := ⟨⟨(ul_2 (k := 177) (by decide +kernel) rfl), (ul_1 (k := 1) (by decide +kernel) rfl), (ul_2 (k := 178) (by decide +kernel) rfl)⟩, by decide +kernel⟩
theorem mX2_copyStones : MV yX2_copyStones cX2_copyStones 3 none 1 := ⟨⟨(ul_2 (k := 185) (by decide +kernel) rfl), (ul_2 (k := 186) (by decide +kernel) rfl), (ul_1 (k := 2) (by decide +kernel) rfl), (ul_2 (k := 187) (by decide +kernel) rfl)⟩, by decide +kernel⟩
theorem mX9_nights : MV yX9_nights cX9_nights 2 (some .int) 1 := ⟨⟨(ul_2 (k := 189) (by decide +kernel) rfl), (ul_2 (k := 190) (by decide +kernel) rfl), (ul_1 (k := 1) (by decide +kernel) rfl), (ul_2 (k := 191) (by decide +kernel) rfl)⟩, by decide +kernel⟩
theorem mX9_isNights : MS yX9_isNights cX9_isNights 1 (some .boolean) 1 := ⟨⟨(ul_2 (k := 193) (by decide +kernel) rfl), (ul_1 (k := 1) (by decide +kernel) rfl), (ul_2 (k := 194) (by decide +kernel) rfl)⟩, by decide +kernel⟩
theorem mX5_pass : MV yX5_pass cX5_pass 6 none 3 := ⟨⟨(ul_2 (k := 196) (by decide +kernel) rfl), (ul_2 (k := 197) (by decide +kernel) rfl), (ul_1 (k := 4) (by decide +kernel) rfl), (ul_2 (k := 198) (by decide +kernel) rfl)⟩, by decide +kernel⟩
theorem mX5_turn : MV yX5_turn cX5_turn 6 none 3 := ⟨⟨(ul_2 (k := 200) (by decide +kernel) rfl), (ul_2 (k := 201) (by decide +kernel) rfl), (ul_1 (k := 4) (by decide +kernel) rfl), (ul_2 (k := 202) (by decide +kernel) rfl)⟩, by decide +kernel⟩
theorem mX2_draw : MV yX2_draw cX2_draw 1 (some .int) 0 := ⟨⟨(ul_2 (k := 205) (by decide +kernel) rfl), (ul_2 (k := 206) (by decide +kernel) rfl), (ul_1 (k := 2) (by decide +kernel) rfl), (ul_2 (k := 207) (by decide +kernel) rfl)⟩, by decide +kernel⟩
theorem mX5_look : MV yX5_look cX5_look 4 none 3 := ⟨⟨(ul_2 (k := 210) (by decide +kernel) rfl), (ul_2 (k := 211) (by decide +kernel) rfl), (ul_1 (k := 4) (by decide +kernel) rfl), (ul_2 (k := 212) (by decide +kernel) rfl)⟩, by decide +kernel⟩
theorem mX2_countClose : MV yX2_countClose cX2_countClose 4 (some .int) 1 := ⟨⟨(ul_2 (k := 214) (by decide +kernel) rfl), (ul_2 (k := 215) (by decide +kernel) rfl), (ul_1 (k := 2) (by decide +kernel) rfl), (ul_2 (k := 216) (by decide +kernel) rfl)⟩, by decide +kernel⟩
theorem mX2_squares : MV yX2_squares cX2_squares 5 (some .int) 2 := ⟨⟨(ul_2 (k := 218) (by decide +kernel) rfl), (ul_2 (k := 219) (by decide +kernel) rfl), (ul_1 (k := 2) (by decide +kernel) rfl), (ul_2 (k := 220) (by decide +kernel) rfl)⟩, by decide +kernel⟩
theorem mX3_amountOf : MV yX3_amountOf cX3_amountOf 5 (some .int) 2 := ⟨⟨(ul_2 (k := 223) (by decide +kernel) rfl), (ul_2 (k := 224) (by decide +kernel) rfl), (ul_1 (k := 9) (by decide +kernel) rfl), (ul_2 (k := 225) (by decide +kernel) rfl)⟩, by decide +kernel⟩
theorem mX3_doesHold : MV yX3_doesHold cX3_doesHold 3 (some .boolean) 2 := ⟨⟨(ul_2 (k := 227) (by decide +kernel) rfl), (ul_2 (k := 228) (by decide +kernel) rfl), (ul_1 (k := 9) (by decide +kernel) rfl), (ul_2 (k := 229) (by decide +kernel) rfl)⟩, by decide +kernel⟩
theorem mX3_reckon : MV yX3_reckon cX3_reckon 9 (some .int) 3 := ⟨⟨(ul_2 (k := 231) (by decide +kernel) rfl), (ul_2 (k := 232) (by decide +kernel) rfl), (ul_1 (k := 9) (by decide +kernel) rfl), (ul_2 (k := 233) (by decide +kernel) rfl)⟩, by decide +kernel⟩
theorem mX3_combine : MS yX3_combine cX3_combine 3 (some .int) 3 := ⟨⟨(ul_2 (k := 235) (by decide +kernel) rfl), (ul_1 (k := 9) (by decide +kernel) rfl), (ul_2 (k := 236) (by decide +kernel) rfl)⟩, by decide +kernel⟩
theorem mX5_shift : MV yX5_shift cX5_shift 7 none 4 := ⟨⟨(ul_3 (k := 4) (by decide +kernel) rfl), (ul_3 (k := 5) (by decide +kernel) rfl), (ul_1 (k := 4) (by decide +kernel) rfl), (ul_3 (k := 6) (by decide +kernel) rfl)⟩, by decide +kernel⟩
theorem mX3_doesSink : MV yX3_doesSink cX3_doesSink 3 (some .boolean) 1 := ⟨⟨(ul_3 (k := 11) (by decide +kernel) rfl), (ul_3 (k := 12) (by decide +kernel) rfl), (ul_1 (k := 9) (by decide +kernel) rfl), (ul_3 (k := 13) (by decide +kernel) rfl)⟩, by decide +kernel⟩
theorem mX9_tried : MV yX9_tried cX9_tried 5 (some .int) 2 := ⟨⟨(ul_3 (k := 15) (by decide +kernel) rfl), (ul_3 (k := 16) (by decide +kernel) rfl), (ul_1 (k := 1) (by decide +kernel) rfl), (ul_3 (k := 17) (by decide +kernel) rfl)⟩, by decide +kernel⟩
theorem mX2_copyAll : MV yX2_copyAll cX2_copyAll 2 none 1 := ⟨⟨(ul_3 (k := 20) (by decide +kernel) rfl), (ul_3 (k := 21) (by decide +kernel) rfl), (ul_1 (k := 2) (by decide +kernel) rfl), (ul_3 (k := 22) (by decide +kernel) rfl)⟩, by decide +kernel⟩
theorem mX2_countSunk : MV yX2_countSunk cX2_countSunk 3 (some .int) 0 := ⟨⟨(ul_3 (k := 25) (by decide +kernel) rfl), (ul_3 (k := 26) (by decide +kernel) rfl), (ul_1 (k := 2) (by decide +kernel) rfl), (ul_3 (k := 27) (by decide +kernel) rfl)⟩, by decide +kernel⟩
theorem mX2_sumOfX : MV yX2_sumOfX cX2_sumOfX 3 (some .int) 0 := ⟨⟨(ul_3 (k := 29) (by decide +kernel) rfl), (ul_3 (k := 30) (by decide +kernel) rfl), (ul_1 (k := 2) (by decide +kernel) rfl), (ul_3 (k := 31) (by decide +kernel) rfl)⟩, by decide +kernel⟩
theorem mX9_stoneIs : MV yX9_stoneIs cX9_stoneIs 3 (some .int) 2 := ⟨⟨(ul_3 (k := 33) (by decide +kernel) rfl), (ul_3 (k := 34) (by decide +kernel) rfl), (ul_1 (k := 1) (by decide +kernel) rfl), (ul_3 (k := 35) (by decide +kernel) rfl)⟩, by decide +kernel⟩
theorem mX9_at : MV yX9_at cX9_at 4 (some .int) 2 := ⟨⟨(ul_3 (k := 38) (by decide +kernel) rfl), (ul_3 (k := 39) (by decide +kernel) rfl), (ul_1 (k := 1) (by decide +kernel) rfl), (ul_3 (k := 40) (by decide +kernel) rfl)⟩, by decide +kernel⟩
theorem mX9_cross : MV yX9_cross cX9_cross 4 (some .int) 2 := ⟨⟨(ul_3 (k := 42) (by decide +kernel) rfl), (ul_3 (k := 43) (by decide +kernel) rfl), (ul_1 (k := 1) (by decide +kernel) rfl), (ul_3 (k := 44) (by decide +kernel) rfl)⟩, by decide +kernel⟩
theorem mX9_strideOf : MV yX9_strideOf cX9_strideOf 2 (some .int) 1 := ⟨⟨(ul_3 (k := 47) (by decide +kernel) rfl), (ul_0 (k := 4) (by decide +kernel) rfl), (ul_1 (k := 1) (by decide +kernel) rfl), (ul_3 (k := 48) (by decide +kernel) rfl)⟩, by decide +kernel⟩
theorem mX8_crossing : MV yX8_crossing cX8_crossing 6 (some .int) 3 := ⟨⟨(ul_3 (k := 50) (by decide +kernel) rfl), (ul_3 (k := 51) (by decide +kernel) rfl), (ul_1 (k := 5) (by decide +kernel) rfl), (ul_3 (k := 52) (by decide +kernel) rfl)⟩, by decide +kernel⟩
theorem mX8_spread : MV yX8_spread cX8_spread 6 (some .int) 5 := ⟨⟨(ul_3 (k := 54) (by decide +kernel) rfl), (ul_3 (k := 55) (by decide +kernel) rfl), (ul_1 (k := 5) (by decide +kernel) rfl), (ul_3 (k := 56) (by decide +kernel) rfl)⟩, by decide +kernel⟩
theorem mJ7_fill_53178 : MS yJ7_fill_53178 cJ7_fill_53178 4 none 2 := ⟨⟨(ul_3 (k := 58) (by decide +kernel) rfl), (ul_1 (k := 12) (by decide +kernel) rfl), (ul_3 (k := 59) (by decide +kernel) rfl)⟩, by decide +kernel⟩
theorem mX8_spreadOn : MV yX8_spreadOn cX8_spreadOn 11 (some .int) 5 := ⟨⟨(ul_3 (k := 61) (by decide +kernel) rfl), (ul_3 (k := 62) (by decide +kernel) rfl), (ul_1 (k := 5) (by decide +kernel) rfl), (ul_3 (k := 63) (by decide +kernel) rfl)⟩, by decide +kernel⟩
theorem mX2_isStep : MV yX2_isStep cX2_isStep 4 (some .boolean) 3 := ⟨⟨(ul_3 (k := 65) (by decide +kernel) rfl), (ul_3 (k := 66) (by decide +kernel) rfl), (ul_1 (k := 2) (by decide +kernel) rfl), (ul_3 (k := 67) (by decide +kernel) rfl)⟩, by decide +kernel⟩
theorem mX2_canStand : MV yX2_canStand cX2_canStand 2 (some .boolean) 1 := ⟨⟨(ul_3 (k := 69) (by decide +kernel) rfl), (ul_3 (k := 70) (by decide +kernel) rfl), (ul_1 (k := 2) (by decide +kernel) rfl), (ul_3 (k := 71) (by decide +kernel) rfl)⟩, by decide +kernel⟩
theorem mX2_isDry : MV yX2_isDry cX2_isDry 2 (some .boolean) 1 := ⟨⟨(ul_3 (k := 73) (by decide +kernel) rfl), (ul_3 (k := 74) (by decide +kernel) rfl), (ul_1 (k := 2) (by decide +kernel) rfl), (ul_3 (k := 75) (by decide +kernel) rfl)⟩, by decide +kernel⟩
theorem mX2_isStepFrom : MV yX2_isStepFrom cX2_isStepFrom 7 (some .boolean) 4 := ⟨⟨(ul_3 (k := 77) (by decide +kernel) rfl), (ul_3 (k := 78) (by decide +kernel) rfl), (ul_1 (k := 2) (by decide +kernel) rfl), (ul_3 (k := 79) (by decide +kernel) rfl)⟩, by decide +kernel⟩
theorem mX2_heightOf : MV yX2_heightOf cX2_heightOf 2 (some .int) 1 := ⟨⟨(ul_3 (k := 81) (by decide +kernel) rfl), (ul_3 (k := 82) (by decide +kernel) rfl), (ul_1 (k := 2) (by decide +kernel) rfl), (ul_3 (k := 83) (by decide +kernel) rfl)⟩, by decide +kernel⟩
theorem mX8_countRows : MV yX8_countRows cX8_countRows 5 (some .int) 3 := ⟨⟨(ul_3 (k := 88) (by decide +kernel) rfl), (ul_3 (k := 89) (by decide +kernel) rfl), (ul_1 (k := 5) (by decide +kernel) rfl), (ul_3 (k := 90) (by decide +kernel) rfl)⟩, by decide +kernel⟩
theorem mX8_leadOn : MV yX8_leadOn cX8_leadOn 5 none 3 := ⟨⟨(ul_3 (k := 92) (by decide +kernel) rfl), (ul_3 (k := 93) (by decide +kernel) rfl), (ul_1 (k := 5) (by decide +kernel) rfl), (ul_3 (k := 94) (by decide +kernel) rfl)⟩, by decide +kernel⟩
theorem mX8_stoneOfLeastRow : MV yX8_stoneOfLeastRow cX8_stoneOfLeastRow 7 (some .int) 4 := ⟨⟨(ul_3 (k := 98) (by decide +kernel) rfl), (ul_3 (k := 99) (by decide +kernel) rfl), (ul_1 (k := 5) (by decide +kernel) rfl), (ul_3 (k := 100) (by decide +kernel) rfl)⟩, by decide +kernel⟩
theorem mX8_lowestOnward : MV yX8_lowestOnward cX8_lowestOnward 6 (some .int) 4 := ⟨⟨(ul_3 (k := 102) (by decide +kernel) rfl), (ul_3 (k := 103) (by decide +kernel) rfl), (ul_1 (k := 5) (by decide +kernel) rfl), (ul_3 (k := 104) (by decide +kernel) rfl)⟩, by decide +kernel⟩
theorem mX9_driest : MV yX9_driest cX9_driest 4 (some .int) 2 := ⟨⟨(ul_3 (k := 106) (by decide +kernel) rfl), (ul_3 (k := 107) (by decide +kernel) rfl), (ul_1 (k := 1) (by decide +kernel) rfl), (ul_3 (k := 108) (by decide +kernel) rfl)⟩, by decide +kernel⟩
theorem mX9_isEither : MS yX9_isEither cX9_isEither 1 (some .boolean) 1 := ⟨⟨(ul_3 (k := 110) (by decide +kernel) rfl), (ul_1 (k := 1) (by decide +kernel) rfl), (ul_3 (k := 111) (by decide +kernel) rfl)⟩, by decide +kernel⟩
theorem mX8_driestWay : MV yX8_driestWay cX8_driestWay 6 (some .int) 3 := ⟨⟨(ul_3 (k := 113) (by decide +kernel) rfl), (ul_3 (k := 114) (by decide +kernel) rfl), (ul_1 (k := 5) (by decide +kernel) rfl), (ul_3 (k := 115) (by decide +kernel) rfl)⟩, by decide +kernel⟩
theorem mX8_cheapest : MV yX8_cheapest cX8_cheapest 3 (some .int) 0 := ⟨⟨(ul_3 (k := 117) (by decide +kernel) rfl), (ul_3 (k := 118) (by decide +kernel) rfl), (ul_1 (k := 5) (by decide +kernel) rfl), (ul_3 (k := 119) (by decide +kernel) rfl)⟩, by decide +kernel⟩
theorem mX8_settle : MV yX8_settle cX8_settle 6 none 3 := ⟨⟨(ul_3 (k := 121) (by decide +kernel) rfl), (ul_3 (k := 122) (by decide +kernel) rfl), (ul_1 (k := 5) (by decide +kernel) rfl), (ul_3 (k := 123) (by decide +kernel) rfl)⟩, by decide +kernel⟩
theorem mX9_leastStride : MV yX9_leastStride cX9_leastStride 2 (some .int) 0 := ⟨⟨(ul_3 (k := 125) (by decide +kernel) rfl), (ul_3 (k := 126) (by decide +kernel) rfl), (ul_1 (k := 1) (by decide +kernel) rfl), (ul_3 (k := 127) (by decide +kernel) rfl)⟩, by decide +kernel⟩
theorem mX8_canCross : MV yX8_canCross cX8_canCross 3 (some .boolean) 2 := ⟨⟨(ul_3 (k := 129) (by decide +kernel) rfl), (ul_3 (k := 130) (by decide +kernel) rfl), (ul_1 (k := 5) (by decide +kernel) rfl), (ul_3 (k := 131) (by decide +kernel) rfl)⟩, by decide +kernel⟩
theorem mX9_howFar : MV yX9_howFar cX9_howFar 3 (some .int) 1 := ⟨⟨(ul_3 (k := 133) (by decide +kernel) rfl), (ul_3 (k := 134) (by decide +kernel) rfl), (ul_1 (k := 1) (by decide +kernel) rfl), (ul_3 (k := 135) (by decide +kernel) rfl)⟩, by decide +kernel⟩
theorem mX8_farthest : MV yX8_farthest cX8_farthest 5 (some .int) 2 := ⟨⟨(ul_3 (k := 137) (by decide +kernel) rfl), (ul_3 (k := 138) (by decide +kernel) rfl), (ul_1 (k := 5) (by decide +kernel) rfl), (ul_3 (k := 139) (by decide +kernel) rfl)⟩, by decide +kernel⟩
theorem mX9_hold : MV yX9_hold cX9_hold 3 (some .int) 1 := ⟨⟨(ul_3 (k := 143) (by decide +kernel) rfl), (ul_3 (k := 144) (by decide +kernel) rfl), (ul_1 (k := 1) (by decide +kernel) rfl), (ul_3 (k := 145) (by decide +kernel) rfl)⟩, by decide +kernel⟩
theorem mX1_fewest : MV yX1_fewest cX1_fewest 5 (some .int) 2 := ⟨⟨(ul_3 (k := 147) (by decide +kernel) rfl), (ul_3 (k := 148) (by decide +kernel) rfl), (ul_1 (k := 6) (by decide +kernel) rfl), (ul_3 (k := 149) (by decide +kernel) rfl)⟩, by decide +kernel⟩
theorem mX1_search : MV yX1_search cX1_search 5 (some .int) 2 := ⟨⟨(ul_3 (k := 152) (by decide +kernel) rfl), (ul_3 (k := 153) (by decide +kernel) rfl), (ul_1 (k := 6) (by decide +kernel) rfl), (ul_3 (k := 154) (by decide +kernel) rfl)⟩, by decide +kernel⟩
theorem mX1_reach : MV yX1_reach cX1_reach 3 none 2 := ⟨⟨(ul_3 (k := 157) (by decide +kernel) rfl), (ul_3 (k := 158) (by decide +kernel) rfl), (ul_1 (k := 6) (by decide +kernel) rfl), (ul_3 (k := 159) (by decide +kernel) rfl)⟩, by decide +kernel⟩
theorem mX1_comeOn : MV yX1_comeOn cX1_comeOn 2 none 1 := ⟨⟨(ul_3 (k := 161) (by decide +kernel) rfl), (ul_3 (k := 162) (by decide +kernel) rfl), (ul_1 (k := 6) (by decide +kernel) rfl), (ul_3 (k := 163) (by decide +kernel) rfl)⟩, by decide +kernel⟩
theorem mX1_leave : MV yX1_leave cX1_leave 5 (some .boolean) 3 := ⟨⟨(ul_3 (k := 165) (by decide +kernel) rfl), (ul_3 (k := 166) (by decide +kernel) rfl), (ul_1 (k := 6) (by decide +kernel) rfl), (ul_3 (k := 167) (by decide +kernel) rfl)⟩, by decide +kernel⟩
theorem mX1_weave : MV yX1_weave cX1_weave 5 none 1 := ⟨⟨(ul_3 (k := 169) (by decide +kernel) rfl), (ul_3 (k := 170) (by decide +kernel) rfl), (ul_1 (k := 6) (by decide +kernel) rfl), (ul_3 (k := 171) (by decide +kernel) rfl)⟩, by decide +kernel⟩
theorem mX1_join : MV yX1_join cX1_join 3 none 2 := ⟨⟨(ul_3 (k := 173) (by decide +kernel) rfl), (ul_3 (k := 174) (by decide +kernel) rfl), (ul_1 (k := 6) (by decide +kernel) rfl), (ul_3 (k := 175) (by decide +kernel) rfl)⟩, by decide +kernel⟩
theorem mX9_oneMore : MV yX9_oneMore cX9_oneMore 4 (some .int) 2 := ⟨⟨(ul_3 (k := 177) (by decide +kernel) rfl), (ul_3 (k := 178) (by decide +kernel) rfl), (ul_1 (k := 1) (by decide +kernel) rfl), (ul_3 (k := 179) (by decide +kernel) rfl)⟩, by decide +kernel⟩
theorem mX8_helpfulPlace : MV yX8_helpfulPlace cX8_helpfulPlace 6 (some .int) 3 := ⟨⟨(ul_3 (k := 181) (by decide +kernel) rfl), (ul_3 (k := 182) (by decide +kernel) rfl), (ul_1 (k := 5) (by decide +kernel) rfl), (ul_3 (k := 183) (by decide +kernel) rfl)⟩, by decide +kernel⟩
theorem mX8_wouldJoin : MV yX8_wouldJoin cX8_wouldJoin 9 (some .boolean) 4 := ⟨⟨(ul_3 (k := 186) (by decide +kernel) rfl), (ul_3 (k := 187) (by decide +kernel) rfl), (ul_1 (k := 5) (by decide +kernel) rfl), (ul_3 (k := 188) (by decide +kernel) rfl)⟩, by decide +kernel⟩
theorem mX9_islands : MV yX9_islands cX9_islands 3 (some .int) 2 := ⟨⟨(ul_3 (k := 192) (by decide +kernel) rfl), (ul_3 (k := 193) (by decide +kernel) rfl), (ul_1 (k := 1) (by decide +kernel) rfl), (ul_3 (k := 194) (by decide +kernel) rfl)⟩, by decide +kernel⟩
theorem mX8_countIslands : MV yX8_countIslands cX8_countIslands 5 (some .int) 2 := ⟨⟨(ul_3 (k := 196) (by decide +kernel) rfl), (ul_3 (k := 197) (by decide +kernel) rfl), (ul_1 (k := 5) (by decide +kernel) rfl), (ul_3 (k := 198) (by decide +kernel) rfl)⟩, by decide +kernel⟩
theorem mX8_islandSize : MV yX8_islandSize cX8_islandSize 4 (some .int) 3 := ⟨⟨(ul_3 (k := 201) (by decide +kernel) rfl), (ul_3 (k := 202) (by decide +kernel) rfl), (ul_1 (k := 5) (by decide +kernel) rfl), (ul_3 (k := 203) (by decide +kernel) rfl)⟩, by decide +kernel⟩
theorem mX9_key : MV yX9_key cX9_key 7 (some .int) 2 := ⟨⟨(ul_3 (k := 205) (by decide +kernel) rfl), (ul_3 (k := 206) (by decide +kernel) rfl), (ul_1 (k := 1) (by decide +kernel) rfl), (ul_3 (k := 207) (by decide +kernel) rfl)⟩, by decide +kernel⟩
theorem mX8_needs : MV yX8_needs cX8_needs 5 (some .boolean) 3 := ⟨⟨(ul_3 (k := 209) (by decide +kernel) rfl), (ul_3 (k := 210) (by decide +kernel) rfl), (ul_1 (k := 5) (by decide +kernel) rfl), (ul_3 (k := 211) (by decide +kernel) rfl)⟩, by decide +kernel⟩
theorem mX9_meet : MV yX9_meet cX9_meet 6 (some .int) 3 := ⟨⟨(ul_3 (k := 213) (by decide +kernel) rfl), (ul_3 (k := 214) (by decide +kernel) rfl), (ul_1 (k := 1) (by decide +kernel) rfl), (ul_3 (k := 215) (by decide +kernel) rfl)⟩, by decide +kernel⟩
theorem mX8_meeting : MV yX8_meeting cX8_meeting 9 (some .int) 4 := ⟨⟨(ul_3 (k := 217) (by decide +kernel) rfl), (ul_3 (k := 218) (by decide +kernel) rfl), (ul_1 (k := 5) (by decide +kernel) rfl), (ul_3 (k := 219) (by decide +kernel) rfl)⟩, by decide +kernel⟩
theorem mX9_market : MV yX9_market cX9_market 3 (some .int) 0 := ⟨⟨(ul_3 (k := 221) (by decide +kernel) rfl), (ul_3 (k := 222) (by decide +kernel) rfl), (ul_1 (k := 1) (by decide +kernel) rfl), (ul_3 (k := 223) (by decide +kernel) rfl)⟩, by decide +kernel⟩
theorem mX9_firstNight : MV yX9_firstNight cX9_firstNight 4 (some .int) 1 := ⟨⟨(ul_3 (k := 225) (by decide +kernel) rfl), (ul_3 (k := 226) (by decide +kernel) rfl), (ul_1 (k := 1) (by decide +kernel) rfl), (ul_3 (k := 227) (by decide +kernel) rfl)⟩, by decide +kernel⟩
theorem mX9_walk : MV yX9_walk cX9_walk 6 (some .int) 4 := ⟨⟨(ul_3 (k := 229) (by decide +kernel) rfl), (ul_3 (k := 230) (by decide +kernel) rfl), (ul_1 (k := 1) (by decide +kernel) rfl), (ul_3 (k := 231) (by decide +kernel) rfl)⟩, by decide +kernel⟩
theorem mX4_read : MV yX4_read cX4_read 2 (some .boolean) 1 := ⟨⟨(ul_3 (k := 233) (by decide +kernel) rfl), (ul_3 (k := 234) (by decide +kernel) rfl), (ul_1 (k := 7) (by decide +kernel) rfl), (ul_3 (k := 235) (by decide +kernel) rfl)⟩, by decide +kernel⟩
theorem mX4_readSteps : MV yX4_readSteps cX4_readSteps 5 (some .boolean) 2 := ⟨⟨(ul_3 (k := 238) (by decide +kernel) rfl), (ul_0 (k := 5) (by decide +kernel) rfl), (ul_1 (k := 7) (by decide +kernel) rfl), (ul_3 (k := 239) (by decide +kernel) rfl)⟩, by decide +kernel⟩
theorem mX4_readRound : MV yX4_readRound cX4_readRound 6 (some .boolean) 2 := ⟨⟨(ul_4 (k := 3) (by decide +kernel) rfl), (ul_0 (k := 6) (by decide +kernel) rfl), (ul_1 (k := 7) (by decide +kernel) rfl), (ul_4 (k := 4) (by decide +kernel) rfl)⟩, by decide +kernel⟩
theorem mX4_repeat : MV yX4_repeat cX4_repeat 6 (some .boolean) 2 := ⟨⟨(ul_4 (k := 8) (by decide +kernel) rfl), (ul_4 (k := 9) (by decide +kernel) rfl), (ul_1 (k := 7) (by decide +kernel) rfl), (ul_4 (k := 10) (by decide +kernel) rfl)⟩, by decide +kernel⟩
theorem mX4_readHops : MV yX4_readHops cX4_readHops 8 (some .boolean) 1 := ⟨⟨(ul_4 (k := 12) (by decide +kernel) rfl), (ul_4 (k := 13) (by decide +kernel) rfl), (ul_1 (k := 7) (by decide +kernel) rfl), (ul_4 (k := 14) (by decide +kernel) rfl)⟩, by decide +kernel⟩
theorem mX4_isHop : MS yX4_isHop cX4_isHop 1 (some .boolean) 1 := ⟨⟨(ul_4 (k := 16) (by decide +kernel) rfl), (ul_1 (k := 7) (by decide +kernel) rfl), (ul_4 (k := 17) (by decide +kernel) rfl)⟩, by decide +kernel⟩
theorem mX4_go : MV yX4_go cX4_go 8 none 3 := ⟨⟨(ul_4 (k := 21) (by decide +kernel) rfl), (ul_4 (k := 22) (by decide +kernel) rfl), (ul_1 (k := 7) (by decide +kernel) rfl), (ul_4 (k := 23) (by decide +kernel) rfl)⟩, by decide +kernel⟩
theorem mX4_isFooting : MS yX4_isFooting cX4_isFooting 3 (some .boolean) 3 := ⟨⟨(ul_4 (k := 27) (by decide +kernel) rfl), (ul_1 (k := 7) (by decide +kernel) rfl), (ul_4 (k := 28) (by decide +kernel) rfl)⟩, by decide +kernel⟩
theorem mX9_chalk : MV yX9_chalk cX9_chalk 3 (some .int) 2 := ⟨⟨(ul_4 (k := 32) (by decide +kernel) rfl), (ul_4 (k := 33) (by decide +kernel) rfl), (ul_1 (k := 1) (by decide +kernel) rfl), (ul_4 (k := 34) (by decide +kernel) rfl)⟩, by decide +kernel⟩
theorem mX2_countTold : MV yX2_countTold cX2_countTold 3 (some .int) 0 := ⟨⟨(ul_4 (k := 36) (by decide +kernel) rfl), (ul_4 (k := 37) (by decide +kernel) rfl), (ul_1 (k := 2) (by decide +kernel) rfl), (ul_4 (k := 38) (by decide +kernel) rfl)⟩, by decide +kernel⟩
theorem mX0_read : MV yX0_read cX0_read 4 (some .boolean) 2 := ⟨⟨(ul_4 (k := 40) (by decide +kernel) rfl), (ul_4 (k := 41) (by decide +kernel) rfl), (ul_1 (k := 8) (by decide +kernel) rfl), (ul_4 (k := 42) (by decide +kernel) rfl)⟩, by decide +kernel⟩
theorem mX7_byteAt : MV yX7_byteAt cX7_byteAt 2 (some .int) 1 := ⟨⟨(ul_4 (k := 44) (by decide +kernel) rfl), (ul_4 (k := 45) (by decide +kernel) rfl), (ul_1 (k := 3) (by decide +kernel) rfl), (ul_4 (k := 46) (by decide +kernel) rfl)⟩, by decide +kernel⟩
theorem mX0_match : MV yX0_match cX0_match 5 none 2 := ⟨⟨(ul_4 (k := 48) (by decide +kernel) rfl), (ul_4 (k := 49) (by decide +kernel) rfl), (ul_1 (k := 8) (by decide +kernel) rfl), (ul_4 (k := 50) (by decide +kernel) rfl)⟩, by decide +kernel⟩
theorem mX2_nextTold : MV yX2_nextTold cX2_nextTold 3 (some .int) 1 := ⟨⟨(ul_4 (k := 52) (by decide +kernel) rfl), (ul_4 (k := 53) (by decide +kernel) rfl), (ul_1 (k := 2) (by decide +kernel) rfl), (ul_4 (k := 54) (by decide +kernel) rfl)⟩, by decide +kernel⟩
theorem mX0_measure : MV yX0_measure cX0_measure 6 none 3 := ⟨⟨(ul_4 (k := 57) (by decide +kernel) rfl), (ul_4 (k := 58) (by decide +kernel) rfl), (ul_1 (k := 8) (by decide +kernel) rfl), (ul_4 (k := 59) (by decide +kernel) rfl)⟩, by decide +kernel⟩
theorem mX0_fewestBehind : MV yX0_fewestBehind cX0_fewestBehind 6 (some .int) 2 := ⟨⟨(ul_4 (k := 64) (by decide +kernel) rfl), (ul_4 (k := 65) (by decide +kernel) rfl), (ul_1 (k := 8) (by decide +kernel) rfl), (ul_4 (k := 66) (by decide +kernel) rfl)⟩, by decide +kernel⟩
theorem mJ6_bitCount_0f7a4 : MS yJ6_bitCount_0f7a4 cJ6_bitCount_0f7a4 1 (some .int) 1 := ⟨⟨(ul_4 (k := 68) (by decide +kernel) rfl), (ul_1 (k := 13) (by decide +kernel) rfl), (ul_4 (k := 69) (by decide +kernel) rfl)⟩, by decide +kernel⟩
theorem mX0_wayWith : MV yX0_wayWith cX0_wayWith 5 (some .int) 3 := ⟨⟨(ul_4 (k := 75) (by decide +kernel) rfl), (ul_4 (k := 76) (by decide +kernel) rfl), (ul_1 (k := 8) (by decide +kernel) rfl), (ul_4 (k := 77) (by decide +kernel) rfl)⟩, by decide +kernel⟩
theorem mX0_wayInAll : MV yX0_wayInAll cX0_wayInAll 1 (some .int) 0 := ⟨⟨(ul_4 (k := 79) (by decide +kernel) rfl), (ul_4 (k := 80) (by decide +kernel) rfl), (ul_1 (k := 8) (by decide +kernel) rfl), (ul_4 (k := 81) (by decide +kernel) rfl)⟩, by decide +kernel⟩
theorem mX0_stoneOf : MV yX0_stoneOf cX0_stoneOf 7 (some .int) 2 := ⟨⟨(ul_4 (k := 83) (by decide +kernel) rfl), (ul_4 (k := 84) (by decide +kernel) rfl), (ul_1 (k := 8) (by decide +kernel) rfl), (ul_4 (k := 85) (by decide +kernel) rfl)⟩, by decide +kernel⟩
theorem mX9_shape : MV yX9_shape cX9_shape 2 (some .int) 1 := ⟨⟨(ul_4 (k := 87) (by decide +kernel) rfl), (ul_4 (k := 88) (by decide +kernel) rfl), (ul_1 (k := 1) (by decide +kernel) rfl), (ul_4 (k := 89) (by decide +kernel) rfl)⟩, by decide +kernel⟩
theorem mX6_line : MS yX6_line cX6_line 4 (some .int) 1 := ⟨⟨(ul_4 (k := 91) (by decide +kernel) rfl), (ul_1 (k := 14) (by decide +kernel) rfl), (ul_4 (k := 92) (by decide +kernel) rfl)⟩, by decide +kernel⟩
theorem mX6_countOnLine : MS yX6_countOnLine cX6_countOnLine 7 (some .int) 3 := ⟨⟨(ul_4 (k := 96) (by decide +kernel) rfl), (ul_1 (k := 14) (by decide +kernel) rfl), (ul_4 (k := 97) (by decide +kernel) rfl)⟩, by decide +kernel⟩
theorem mX6_yardApart : MS yX6_yardApart cX6_yardApart 4 (some .int) 1 := ⟨⟨(ul_4 (k := 101) (by decide +kernel) rfl), (ul_1 (k := 14) (by decide +kernel) rfl), (ul_4 (k := 102) (by decide +kernel) rfl)⟩, by decide +kernel⟩
theorem mX6_pairs : MS yX6_pairs cX6_pairs 4 (some .int) 1 := ⟨⟨(ul_4 (k := 105) (by decide +kernel) rfl), (ul_1 (k := 14) (by decide +kernel) rfl), (ul_4 (k := 106) (by decide +kernel) rfl)⟩, by decide +kernel⟩
theorem mX6_nearest : MS yX6_nearest cX6_nearest 4 (some .int) 2 := ⟨⟨(ul_4 (k := 108) (by decide +kernel) rfl), (ul_1 (k := 14) (by decide +kernel) rfl), (ul_4 (k := 109) (by decide +kernel) rfl)⟩, by decide +kernel⟩
theorem mX6_closest : MS yX6_closest cX6_closest 4 (some .int) 1 := ⟨⟨(ul_4 (k := 112) (by decide +kernel) rfl), (ul_1 (k := 14) (by decide +kernel) rfl), (ul_4 (k := 113) (by decide +kernel) rfl)⟩, by decide +kernel⟩
theorem mX9_letters : MV yX9_letters cX9_letters 4 (some .int) 2 := ⟨⟨(ul_4 (k := 115) (by decide +kernel) rfl), (ul_4 (k := 116) (by decide +kernel) rfl), (ul_1 (k := 1) (by decide +kernel) rfl), (ul_4 (k := 117) (by decide +kernel) rfl)⟩, by decide +kernel⟩
theorem mX9_evenBag : MV yX9_evenBag cX9_evenBag 4 (some .int) 1 := ⟨⟨(ul_4 (k := 121) (by decide +kernel) rfl), (ul_0 (k := 7) (by decide +kernel) rfl), (ul_1 (k := 1) (by decide +kernel) rfl), (ul_4 (k := 122) (by decide +kernel) rfl)⟩, by decide +kernel⟩
theorem mX9_unlike : MV yX9_unlike cX9_unlike 5 (some .int) 2 := ⟨⟨(ul_4 (k := 125) (by decide +kernel) rfl), (ul_0 (k := 8) (by decide +kernel) rfl), (ul_1 (k := 1) (by decide +kernel) rfl), (ul_4 (k := 126) (by decide +kernel) rfl)⟩, by decide +kernel⟩
theorem mX9_thrown : MV yX9_thrown cX9_thrown 5 (some .int) 1 := ⟨⟨(ul_4 (k := 129) (by decide +kernel) rfl), (ul_4 (k := 130) (by decide +kernel) rfl), (ul_1 (k := 1) (by decide +kernel) rfl), (ul_4 (k := 131) (by decide +kernel) rfl)⟩, by decide +kernel⟩
theorem mX2_nextDry : MV yX2_nextDry cX2_nextDry 3 (some .int) 1 := ⟨⟨(ul_4 (k := 133) (by decide +kernel) rfl), (ul_4 (k := 134) (by decide +kernel) rfl), (ul_1 (k := 2) (by decide +kernel) rfl), (ul_4 (k := 135) (by decide +kernel) rfl)⟩, by decide +kernel⟩
theorem mX9_fewestThrows : MS yX9_fewestThrows cX9_fewestThrows 9 (some .int) 5 := ⟨⟨(ul_4 (k := 137) (by decide +kernel) rfl), (ul_1 (k := 1) (by decide +kernel) rfl), (ul_4 (k := 138) (by decide +kernel) rfl)⟩, by decide +kernel⟩
theorem mX9_seed : MV yX9_seed cX9_seed 2 (some .boolean) 1 := ⟨⟨(ul_4 (k := 144) (by decide +kernel) rfl), (ul_4 (k := 145) (by decide +kernel) rfl), (ul_1 (k := 1) (by decide +kernel) rfl), (ul_4 (k := 146) (by decide +kernel) rfl)⟩, by decide +kernel⟩
theorem mX9_keep : MV yX9_keep cX9_keep 1 (some .int) 0 := ⟨⟨(ul_4 (k := 149) (by decide +kernel) rfl), (ul_4 (k := 150) (by decide +kernel) rfl), (ul_1 (k := 1) (by decide +kernel) rfl), (ul_4 (k := 151) (by decide +kernel) rfl)⟩, by decide +kernel⟩
theorem mX9_undo : MV yX9_undo cX9_undo 1 (some .boolean) 0 := ⟨⟨(ul_4 (k := 153) (by decide +kernel) rfl), (ul_4 (k := 154) (by decide +kernel) rfl), (ul_1 (k := 1) (by decide +kernel) rfl), (ul_4 (k := 155) (by decide +kernel) rfl)⟩, by decide +kernel⟩
theorem mX9_check : MV yX9_check cX9_check 4 (some .int) 1 := ⟨⟨(ul_4 (k := 157) (by decide +kernel) rfl), (ul_4 (k := 158) (by decide +kernel) rfl), (ul_1 (k := 1) (by decide +kernel) rfl), (ul_4 (k := 159) (by decide +kernel) rfl)⟩, by decide +kernel⟩
theorem mX9_count : MV yX9_count cX9_count 2 (some .int) 1 := ⟨⟨(ul_4 (k := 161) (by decide +kernel) rfl), (ul_4 (k := 162) (by decide +kernel) rfl), (ul_1 (k := 1) (by decide +kernel) rfl), (ul_4 (k := 163) (by decide +kernel) rfl)⟩, by decide +kernel⟩
theorem mX9_toldPeople : MV yX9_toldPeople cX9_toldPeople 3 (some .int) 0 := ⟨⟨(ul_4 (k := 166) (by decide +kernel) rfl), (ul_0 (k := 9) (by decide +kernel) rfl), (ul_1 (k := 1) (by decide +kernel) rfl), (ul_4 (k := 167) (by decide +kernel) rfl)⟩, by decide +kernel⟩
theorem mX10_stone : MV yX10_stone cX10_stone 6 (some .boolean) 4 := ⟨⟨(ul_5 (k := 102) (by decide +kernel) rfl), (ul_5 (k := 103) (by decide +kernel) rfl), (ul_1 (k := 10) (by decide +kernel) rfl), (ul_5 (k := 104) (by decide +kernel) rfl)⟩, by decide +kernel⟩
theorem mX10_in : MS yX10_in cX10_in 3 (some .boolean) 3 := ⟨⟨(ul_5 (k := 106) (by decide +kernel) rfl), (ul_1 (k := 10) (by decide +kernel) rfl), (ul_5 (k := 107) (by decide +kernel) rfl)⟩, by decide +kernel⟩
theorem mX10_stoneAt : MV yX10_stoneAt cX10_stoneAt 4 (some .int) 2 := ⟨⟨(ul_5 (k := 110) (by decide +kernel) rfl), (ul_0 (k := 10) (by decide +kernel) rfl), (ul_1 (k := 10) (by decide +kernel) rfl), (ul_5 (k := 111) (by decide +kernel) rfl)⟩, by decide +kernel⟩
theorem mX10_laysStone : MV yX10_laysStone cX10_laysStone 6 none 5 := ⟨⟨(ul_5 (k := 114) (by decide +kernel) rfl), (ul_0 (k := 11) (by decide +kernel) rfl), (ul_1 (k := 10) (by decide +kernel) rfl), (ul_5 (k := 115) (by decide +kernel) rfl)⟩, by decide +kernel⟩
theorem mX10_take : MV yX10_take cX10_take 2 (some .boolean) 1 := ⟨⟨(ul_5 (k := 117) (by decide +kernel) rfl), (ul_5 (k := 118) (by decide +kernel) rfl), (ul_1 (k := 10) (by decide +kernel) rfl), (ul_5 (k := 119) (by decide +kernel) rfl)⟩, by decide +kernel⟩
theorem mX10_isStone : MV yX10_isStone cX10_isStone 2 (some .boolean) 1 := ⟨⟨(ul_5 (k := 122) (by decide +kernel) rfl), (ul_0 (k := 12) (by decide +kernel) rfl), (ul_1 (k := 10) (by decide +kernel) rfl), (ul_5 (k := 123) (by decide +kernel) rfl)⟩, by decide +kernel⟩
theorem mX10_under : MV yX10_under cX10_under 3 (some .boolean) 2 := ⟨⟨(ul_5 (k := 125) (by decide +kernel) rfl), (ul_5 (k := 126) (by decide +kernel) rfl), (ul_1 (k := 10) (by decide +kernel) rfl), (ul_5 (k := 127) (by decide +kernel) rfl)⟩, by decide +kernel⟩
theorem mX10_person : MV yX10_person cX10_person 3 (some .boolean) 2 := ⟨⟨(ul_5 (k := 129) (by decide +kernel) rfl), (ul_5 (k := 130) (by decide +kernel) rfl), (ul_1 (k := 10) (by decide +kernel) rfl), (ul_5 (k := 131) (by decide +kernel) rfl)⟩, by decide +kernel⟩
theorem mX10_feed : MV yX10_feed cX10_feed 6 (some .int) 5 := ⟨⟨(ul_5 (k := 133) (by decide +kernel) rfl), (ul_5 (k := 134) (by decide +kernel) rfl), (ul_1 (k := 10) (by decide +kernel) rfl), (ul_5 (k := 135) (by decide +kernel) rfl)⟩, by decide +kernel⟩
theorem mX10_types : MV yX10_types cX10_types 3 none 1 := ⟨⟨(ul_5 (k := 138) (by decide +kernel) rfl), (ul_0 (k := 13) (by decide +kernel) rfl), (ul_1 (k := 10) (by decide +kernel) rfl), (ul_5 (k := 139) (by decide +kernel) rfl)⟩, by decide +kernel⟩
theorem mX10_law : MV yX10_law cX10_law 4 (some .int) 1 := ⟨⟨(ul_5 (k := 141) (by decide +kernel) rfl), (ul_5 (k := 142) (by decide +kernel) rfl), (ul_1 (k := 10) (by decide +kernel) rfl), (ul_5 (k := 143) (by decide +kernel) rfl)⟩, by decide +kernel⟩
theorem mX10_beginsText : MV yX10_beginsText cX10_beginsText 2 none 1 := ⟨⟨(ul_5 (k := 146) (by decide +kernel) rfl), (ul_0 (k := 14) (by decide +kernel) rfl), (ul_1 (k := 10) (by decide +kernel) rfl), (ul_5 (k := 147) (by decide +kernel) rfl)⟩, by decide +kernel⟩
theorem mX10_readsRule : MV yX10_readsRule cX10_readsRule 2 (some .boolean) 0 := ⟨⟨(ul_5 (k := 150) (by decide +kernel) rfl), (ul_0 (k := 15) (by decide +kernel) rfl), (ul_1 (k := 10) (by decide +kernel) rfl), (ul_5 (k := 151) (by decide +kernel) rfl)⟩, by decide +kernel⟩
theorem mX10_here : MV yX10_here cX10_here 1 (some .int) 0 := ⟨⟨(ul_5 (k := 154) (by decide +kernel) rfl), (ul_0 (k := 16) (by decide +kernel) rfl), (ul_1 (k := 10) (by decide +kernel) rfl), (ul_5 (k := 155) (by decide +kernel) rfl)⟩, by decide +kernel⟩
theorem mX10_wrongAt : MV yX10_wrongAt cX10_wrongAt 3 (some .boolean) 2 := ⟨⟨(ul_5 (k := 158) (by decide +kernel) rfl), (ul_0 (k := 17) (by decide +kernel) rfl), (ul_1 (k := 10) (by decide +kernel) rfl), (ul_5 (k := 159) (by decide +kernel) rfl)⟩, by decide +kernel⟩
theorem mX10_readsSum : MV yX10_readsSum cX10_readsSum 3 (some .boolean) 0 := ⟨⟨(ul_5 (k := 162) (by decide +kernel) rfl), (ul_0 (k := 18) (by decide +kernel) rfl), (ul_1 (k := 10) (by decide +kernel) rfl), (ul_5 (k := 163) (by decide +kernel) rfl)⟩, by decide +kernel⟩
theorem mX10_readsFactor : MV yX10_readsFactor cX10_readsFactor 2 (some .boolean) 0 := ⟨⟨(ul_5 (k := 166) (by decide +kernel) rfl), (ul_0 (k := 19) (by decide +kernel) rfl), (ul_1 (k := 10) (by decide +kernel) rfl), (ul_5 (k := 167) (by decide +kernel) rfl)⟩, by decide +kernel⟩
theorem mX10_opens : MV yX10_opens cX10_opens 2 (some .boolean) 1 := ⟨⟨(ul_5 (k := 170) (by decide +kernel) rfl), (ul_0 (k := 20) (by decide +kernel) rfl), (ul_1 (k := 10) (by decide +kernel) rfl), (ul_5 (k := 171) (by decide +kernel) rfl)⟩, by decide +kernel⟩
theorem mX10_isDigit : MV yX10_isDigit cX10_isDigit 1 (some .boolean) 0 := ⟨⟨(ul_5 (k := 175) (by decide +kernel) rfl), (ul_0 (k := 21) (by decide +kernel) rfl), (ul_1 (k := 10) (by decide +kernel) rfl), (ul_5 (k := 176) (by decide +kernel) rfl)⟩, by decide +kernel⟩
theorem mX10_readsNumber : MV yX10_readsNumber cX10_readsNumber 2 (some .boolean) 0 := ⟨⟨(ul_5 (k := 179) (by decide +kernel) rfl), (ul_0 (k := 22) (by decide +kernel) rfl), (ul_1 (k := 10) (by decide +kernel) rfl), (ul_5 (k := 180) (by decide +kernel) rfl)⟩, by decide +kernel⟩
theorem mX10_notes : MV yX10_notes cX10_notes 3 none 2 := ⟨⟨(ul_5 (k := 183) (by decide +kernel) rfl), (ul_0 (k := 23) (by decide +kernel) rfl), (ul_1 (k := 10) (by decide +kernel) rfl), (ul_5 (k := 184) (by decide +kernel) rfl)⟩, by decide +kernel⟩
theorem mX10_factOf : MS yX10_factOf cX10_factOf 1 (some .int) 1 := ⟨⟨(ul_5 (k := 186) (by decide +kernel) rfl), (ul_1 (k := 10) (by decide +kernel) rfl), (ul_5 (k := 187) (by decide +kernel) rfl)⟩, by decide +kernel⟩
theorem mX10_sumSign : MS yX10_sumSign cX10_sumSign 1 (some .int) 1 := ⟨⟨(ul_5 (k := 189) (by decide +kernel) rfl), (ul_1 (k := 10) (by decide +kernel) rfl), (ul_5 (k := 190) (by decide +kernel) rfl)⟩, by decide +kernel⟩
theorem mX10_closesSums : MV yX10_closesSums cX10_closesSums 2 none 1 := ⟨⟨(ul_5 (k := 193) (by decide +kernel) rfl), (ul_0 (k := 24) (by decide +kernel) rfl), (ul_1 (k := 10) (by decide +kernel) rfl), (ul_5 (k := 194) (by decide +kernel) rfl)⟩, by decide +kernel⟩
theorem mX10_waitTop : MV yX10_waitTop cX10_waitTop 1 (some .int) 0 := ⟨⟨(ul_5 (k := 197) (by decide +kernel) rfl), (ul_0 (k := 25) (by decide +kernel) rfl), (ul_1 (k := 10) (by decide +kernel) rfl), (ul_5 (k := 198) (by decide +kernel) rfl)⟩, by decide +kernel⟩
theorem mX10_hasOpenSum : MV yX10_hasOpenSum cX10_hasOpenSum 3 (some .boolean) 1 := ⟨⟨(ul_5 (k := 201) (by decide +kernel) rfl), (ul_0 (k := 26) (by decide +kernel) rfl), (ul_1 (k := 10) (by decide +kernel) rfl), (ul_5 (k := 202) (by decide +kernel) rfl)⟩, by decide +kernel⟩
theorem mX10_readsCondition : MV yX10_readsCondition cX10_readsCondition 1 (some .boolean) 0 := ⟨⟨(ul_5 (k := 205) (by decide +kernel) rfl), (ul_0 (k := 27) (by decide +kernel) rfl), (ul_1 (k := 10) (by decide +kernel) rfl), (ul_5 (k := 206) (by decide +kernel) rfl)⟩, by decide +kernel⟩
theorem mX10_readsCompared : MV yX10_readsCompared cX10_readsCompared 2 (some .boolean) 0 := ⟨⟨(ul_5 (k := 209) (by decide +kernel) rfl), (ul_0 (k := 28) (by decide +kernel) rfl), (ul_1 (k := 10) (by decide +kernel) rfl), (ul_5 (k := 210) (by decide +kernel) rfl)⟩, by decide +kernel⟩
theorem mX10_endsPiece : MV yX10_endsPiece cX10_endsPiece 1 none 0 := ⟨⟨(ul_5 (k := 213) (by decide +kernel) rfl), (ul_0 (k := 29) (by decide +kernel) rfl), (ul_1 (k := 10) (by decide +kernel) rfl), (ul_5 (k := 214) (by decide +kernel) rfl)⟩, by decide +kernel⟩
theorem mX10_lands : MV yX10_lands cX10_lands 3 none 1 := ⟨⟨(ul_5 (k := 217) (by decide +kernel) rfl), (ul_0 (k := 30) (by decide +kernel) rfl), (ul_1 (k := 10) (by decide +kernel) rfl), (ul_5 (k := 218) (by decide +kernel) rfl)⟩, by decide +kernel⟩
theorem mX10_jumps : MV yX10_jumps cX10_jumps 2 none 1 := ⟨⟨(ul_5 (k := 221) (by decide +kernel) rfl), (ul_0 (k := 31) (by decide +kernel) rfl), (ul_1 (k := 10) (by decide +kernel) rfl), (ul_5 (k := 222) (by decide +kernel) rfl)⟩, by decide +kernel⟩
theorem mX10_takesSign : MV yX10_takesSign cX10_takesSign 2 (some .boolean) 1 := ⟨⟨(ul_5 (k := 225) (by decide +kernel) rfl), (ul_0 (k := 32) (by decide +kernel) rfl), (ul_1 (k := 10) (by decide +kernel) rfl), (ul_5 (k := 226) (by decide +kernel) rfl)⟩, by decide +kernel⟩
theorem mX10_notebook : MV yX10_notebook cX10_notebook 4 (some .int) 1 := ⟨⟨(ul_5 (k := 228) (by decide +kernel) rfl), (ul_5 (k := 229) (by decide +kernel) rfl), (ul_1 (k := 10) (by decide +kernel) rfl), (ul_5 (k := 230) (by decide +kernel) rfl)⟩, by decide +kernel⟩
theorem mX10_readsLine : MV yX10_readsLine cX10_readsLine 3 (some .boolean) 0 := ⟨⟨(ul_5 (k := 233) (by decide +kernel) rfl), (ul_0 (k := 33) (by decide +kernel) rfl), (ul_1 (k := 10) (by decide +kernel) rfl), (ul_5 (k := 234) (by decide +kernel) rfl)⟩, by decide +kernel⟩
theorem mX10_readsBetween : MV yX10_readsBetween cX10_readsBetween 4 (some .boolean) 2 := ⟨⟨(ul_5 (k := 237) (by decide +kernel) rfl), (ul_0 (k := 34) (by decide +kernel) rfl), (ul_1 (k := 10) (by decide +kernel) rfl), (ul_5 (k := 238) (by decide +kernel) rfl)⟩, by decide +kernel⟩
theorem mX10_readsAmount : MV yX10_readsAmount cX10_readsAmount 2 (some .boolean) 0 := ⟨⟨(ul_6 (k := 1) (by decide +kernel) rfl), (ul_0 (k := 35) (by decide +kernel) rfl), (ul_1 (k := 10) (by decide +kernel) rfl), (ul_6 (k := 2) (by decide +kernel) rfl)⟩, by decide +kernel⟩
theorem mX10_nights : MV yX10_nights cX10_nights 2 (some .int) 1 := ⟨⟨(ul_6 (k := 4) (by decide +kernel) rfl), (ul_6 (k := 5) (by decide +kernel) rfl), (ul_1 (k := 10) (by decide +kernel) rfl), (ul_6 (k := 6) (by decide +kernel) rfl)⟩, by decide +kernel⟩
theorem mX10_nightsGo : MV yX10_nightsGo cX10_nightsGo 3 none 1 := ⟨⟨(ul_6 (k := 9) (by decide +kernel) rfl), (ul_0 (k := 36) (by decide +kernel) rfl), (ul_1 (k := 10) (by decide +kernel) rfl), (ul_6 (k := 10) (by decide +kernel) rfl)⟩, by decide +kernel⟩
theorem mX10_nightGoes : MV yX10_nightGoes cX10_nightGoes 2 none 0 := ⟨⟨(ul_6 (k := 13) (by decide +kernel) rfl), (ul_0 (k := 37) (by decide +kernel) rfl), (ul_1 (k := 10) (by decide +kernel) rfl), (ul_6 (k := 14) (by decide +kernel) rfl)⟩, by decide +kernel⟩
theorem mX10_moves : MV yX10_moves cX10_moves 6 none 1 := ⟨⟨(ul_6 (k := 17) (by decide +kernel) rfl), (ul_0 (k := 38) (by decide +kernel) rfl), (ul_1 (k := 10) (by decide +kernel) rfl), (ul_6 (k := 18) (by decide +kernel) rfl)⟩, by decide +kernel⟩
theorem mX10_feels : MV yX10_feels cX10_feels 3 none 2 := ⟨⟨(ul_6 (k := 22) (by decide +kernel) rfl), (ul_0 (k := 39) (by decide +kernel) rfl), (ul_1 (k := 10) (by decide +kernel) rfl), (ul_6 (k := 23) (by decide +kernel) rfl)⟩, by decide +kernel⟩
theorem mX10_nearTo : MV yX10_nearTo cX10_nearTo 4 (some .int) 1 := ⟨⟨(ul_6 (k := 26) (by decide +kernel) rfl), (ul_0 (k := 40) (by decide +kernel) rfl), (ul_1 (k := 10) (by decide +kernel) rfl), (ul_6 (k := 27) (by decide +kernel) rfl)⟩, by decide +kernel⟩
theorem mX10_apart : MV yX10_apart cX10_apart 5 (some .int) 2 := ⟨⟨(ul_6 (k := 30) (by decide +kernel) rfl), (ul_0 (k := 41) (by decide +kernel) rfl), (ul_1 (k := 10) (by decide +kernel) rfl), (ul_6 (k := 31) (by decide +kernel) rfl)⟩, by decide +kernel⟩
theorem mX10_byLaw : MV yX10_byLaw cX10_byLaw 5 (some .int) 2 := ⟨⟨(ul_6 (k := 34) (by decide +kernel) rfl), (ul_0 (k := 42) (by decide +kernel) rfl), (ul_1 (k := 10) (by decide +kernel) rfl), (ul_6 (k := 35) (by decide +kernel) rfl)⟩, by decide +kernel⟩
theorem mX10_comesTo : MV yX10_comesTo cX10_comesTo 8 (some .int) 2 := ⟨⟨(ul_6 (k := 38) (by decide +kernel) rfl), (ul_0 (k := 43) (by decide +kernel) rfl), (ul_1 (k := 10) (by decide +kernel) rfl), (ul_6 (k := 39) (by decide +kernel) rfl)⟩, by decide +kernel⟩
theorem mX10_reckon : MS yX10_reckon cX10_reckon 3 (some .int) 3 := ⟨⟨(ul_6 (k := 41) (by decide +kernel) rfl), (ul_1 (k := 10) (by decide +kernel) rfl), (ul_6 (k := 42) (by decide +kernel) rfl)⟩, by decide +kernel⟩
theorem mX10_bounded : MS yX10_bounded cX10_bounded 3 (some .int) 3 := ⟨⟨(ul_6 (k := 44) (by decide +kernel) rfl), (ul_1 (k := 10) (by decide +kernel) rfl), (ul_6 (k := 45) (by decide +kernel) rfl)⟩, by decide +kernel⟩
theorem mX10_min : MS yX10_min cX10_min 2 (some .int) 2 := ⟨⟨(ul_6 (k := 47) (by decide +kernel) rfl), (ul_1 (k := 10) (by decide +kernel) rfl), (ul_6 (k := 48) (by decide +kernel) rfl)⟩, by decide +kernel⟩
theorem mX10_max : MS yX10_max cX10_max 2 (some .int) 2 := ⟨⟨(ul_6 (k := 50) (by decide +kernel) rfl), (ul_1 (k := 10) (by decide +kernel) rfl), (ul_6 (k := 51) (by decide +kernel) rfl)⟩, by decide +kernel⟩
theorem mX10_holdsAny : MV yX10_holdsAny cX10_holdsAny 3 (some .boolean) 1 := ⟨⟨(ul_6 (k := 54) (by decide +kernel) rfl), (ul_0 (k := 44) (by decide +kernel) rfl), (ul_1 (k := 10) (by decide +kernel) rfl), (ul_6 (k := 55) (by decide +kernel) rfl)⟩, by decide +kernel⟩
theorem mX10_tried : MV yX10_tried cX10_tried 5 (some .int) 2 := ⟨⟨(ul_6 (k := 57) (by decide +kernel) rfl), (ul_6 (k := 58) (by decide +kernel) rfl), (ul_1 (k := 10) (by decide +kernel) rfl), (ul_6 (k := 59) (by decide +kernel) rfl)⟩, by decide +kernel⟩
theorem mX10_sumOf : MV yX10_sumOf cX10_sumOf 4 (some .int) 1 := ⟨⟨(ul_6 (k := 63) (by decide +kernel) rfl), (ul_0 (k := 45) (by decide +kernel) rfl), (ul_1 (k := 10) (by decide +kernel) rfl), (ul_6 (k := 64) (by decide +kernel) rfl)⟩, by decide +kernel⟩
theorem mX10_copies : MS yX10_copies cX10_copies 3 none 2 := ⟨⟨(ul_6 (k := 66) (by decide +kernel) rfl), (ul_1 (k := 10) (by decide +kernel) rfl), (ul_6 (k := 67) (by decide +kernel) rfl)⟩, by decide +kernel⟩
theorem mX10_stoneIs : MV yX10_stoneIs cX10_stoneIs 3 (some .int) 2 := ⟨⟨(ul_6 (k := 69) (by decide +kernel) rfl), (ul_6 (k := 70) (by decide +kernel) rfl), (ul_1 (k := 10) (by decide +kernel) rfl), (ul_6 (k := 71) (by decide +kernel) rfl)⟩, by decide +kernel⟩
theorem mX10_at : MV yX10_at cX10_at 4 (some .int) 2 := ⟨⟨(ul_6 (k := 73) (by decide +kernel) rfl), (ul_6 (k := 74) (by decide +kernel) rfl), (ul_1 (k := 10) (by decide +kernel) rfl), (ul_6 (k := 75) (by decide +kernel) rfl)⟩, by decide +kernel⟩
theorem mX10_cross : MV yX10_cross cX10_cross 8 (some .int) 2 := ⟨⟨(ul_6 (k := 77) (by decide +kernel) rfl), (ul_6 (k := 78) (by decide +kernel) rfl), (ul_1 (k := 10) (by decide +kernel) rfl), (ul_6 (k := 79) (by decide +kernel) rfl)⟩, by decide +kernel⟩
theorem mX10_isPerson : MV yX10_isPerson cX10_isPerson 2 (some .boolean) 1 := ⟨⟨(ul_6 (k := 82) (by decide +kernel) rfl), (ul_0 (k := 46) (by decide +kernel) rfl), (ul_1 (k := 10) (by decide +kernel) rfl), (ul_6 (k := 83) (by decide +kernel) rfl)⟩, by decide +kernel⟩
theorem mX10_has : MS yX10_has cX10_has 2 (some .boolean) 2 := ⟨⟨(ul_6 (k := 85) (by decide +kernel) rfl), (ul_1 (k := 10) (by decide +kernel) rfl), (ul_6 (k := 86) (by decide +kernel) rfl)⟩, by decide +kernel⟩
theorem mX10_crossing : MV yX10_crossing cX10_crossing 4 (some .int) 1 := ⟨⟨(ul_6 (k := 89) (by decide +kernel) rfl), (ul_0 (k := 47) (by decide +kernel) rfl), (ul_1 (k := 10) (by decide +kernel) rfl), (ul_6 (k := 90) (by decide +kernel) rfl)⟩, by decide +kernel⟩
theorem mX10_laysSteps : MV yX10_laysSteps cX10_laysSteps 8 none 3 := ⟨⟨(ul_6 (k := 93) (by decide +kernel) rfl), (ul_0 (k := 48) (by decide +kernel) rfl), (ul_1 (k := 10) (by decide +kernel) rfl), (ul_6 (k := 94) (by decide +kernel) rfl)⟩, by decide +kernel⟩
theorem mX10_isByBank : MV yX10_isByBank cX10_isByBank 5 (some .boolean) 3 := ⟨⟨(ul_6 (k := 97) (by decide +kernel) rfl), (ul_0 (k := 49) (by decide +kernel) rfl), (ul_1 (k := 10) (by decide +kernel) rfl), (ul_6 (k := 98) (by decide +kernel) rfl)⟩, by decide +kernel⟩
theorem mX10_isDry : MV yX10_isDry cX10_isDry 2 (some .boolean) 1 := ⟨⟨(ul_6 (k := 101) (by decide +kernel) rfl), (ul_0 (k := 50) (by decide +kernel) rfl), (ul_1 (k := 10) (by decide +kernel) rfl), (ul_6 (k := 102) (by decide +kernel) rfl)⟩, by decide +kernel⟩
theorem mX10_canStep : MV yX10_canStep cX10_canStep 4 (some .boolean) 3 := ⟨⟨(ul_6 (k := 105) (by decide +kernel) rfl), (ul_0 (k := 51) (by decide +kernel) rfl), (ul_1 (k := 10) (by decide +kernel) rfl), (ul_6 (k := 106) (by decide +kernel) rfl)⟩, by decide +kernel⟩
theorem mX10_laysRows : MV yX10_laysRows cX10_laysRows 5 none 1 := ⟨⟨(ul_6 (k := 109) (by decide +kernel) rfl), (ul_0 (k := 52) (by decide +kernel) rfl), (ul_1 (k := 10) (by decide +kernel) rfl), (ul_6 (k := 110) (by decide +kernel) rfl)⟩, by decide +kernel⟩
theorem mX10_driest : MV yX10_driest cX10_driest 4 (some .int) 2 := ⟨⟨(ul_6 (k := 113) (by decide +kernel) rfl), (ul_6 (k := 114) (by decide +kernel) rfl), (ul_1 (k := 10) (by decide +kernel) rfl), (ul_6 (k := 115) (by decide +kernel) rfl)⟩, by decide +kernel⟩
theorem mX10_dryCost : MV yX10_dryCost cX10_dryCost 6 (some .int) 1 := ⟨⟨(ul_6 (k := 118) (by decide +kernel) rfl), (ul_0 (k := 53) (by decide +kernel) rfl), (ul_1 (k := 10) (by decide +kernel) rfl), (ul_6 (k := 119) (by decide +kernel) rfl)⟩, by decide +kernel⟩
theorem mX10_leastStride : MV yX10_leastStride cX10_leastStride 2 (some .int) 0 := ⟨⟨(ul_6 (k := 122) (by decide +kernel) rfl), (ul_6 (k := 123) (by decide +kernel) rfl), (ul_1 (k := 10) (by decide +kernel) rfl), (ul_6 (k := 124) (by decide +kernel) rfl)⟩, by decide +kernel⟩
theorem mX10_howFar : MV yX10_howFar cX10_howFar 4 (some .int) 1 := ⟨⟨(ul_6 (k := 126) (by decide +kernel) rfl), (ul_6 (k := 127) (by decide +kernel) rfl), (ul_1 (k := 10) (by decide +kernel) rfl), (ul_6 (k := 128) (by decide +kernel) rfl)⟩, by decide +kernel⟩
theorem mX10_hold : MV yX10_hold cX10_hold 3 (some .int) 1 := ⟨⟨(ul_6 (k := 130) (by decide +kernel) rfl), (ul_6 (k := 131) (by decide +kernel) rfl), (ul_1 (k := 10) (by decide +kernel) rfl), (ul_6 (k := 132) (by decide +kernel) rfl)⟩, by decide +kernel⟩
theorem mX10_laysRoom : MV yX10_laysRoom cX10_laysRoom 4 none 1 := ⟨⟨(ul_6 (k := 135) (by decide +kernel) rfl), (ul_0 (k := 54) (by decide +kernel) rfl), (ul_1 (k := 10) (by decide +kernel) rfl), (ul_6 (k := 136) (by decide +kernel) rfl)⟩, by decide +kernel⟩
theorem mX10_goesAcross : MV yX10_goesAcross cX10_goesAcross 4 (some .boolean) 0 := ⟨⟨(ul_6 (k := 139) (by decide +kernel) rfl), (ul_0 (k := 55) (by decide +kernel) rfl), (ul_1 (k := 10) (by decide +kernel) rfl), (ul_6 (k := 140) (by decide +kernel) rfl)⟩, by decide +kernel⟩
theorem mX10_oneMore : MV yX10_oneMore cX10_oneMore 6 (some .int) 2 := ⟨⟨(ul_6 (k := 142) (by decide +kernel) rfl), (ul_6 (k := 143) (by decide +kernel) rfl), (ul_1 (k := 10) (by decide +kernel) rfl), (ul_6 (k := 144) (by decide +kernel) rfl)⟩, by decide +kernel⟩
theorem mX10_wouldDo : MV yX10_wouldDo cX10_wouldDo 9 (some .boolean) 3 := ⟨⟨(ul_6 (k := 147) (by decide +kernel) rfl), (ul_0 (k := 56) (by decide +kernel) rfl), (ul_1 (k := 10) (by decide +kernel) rfl), (ul_6 (k := 148) (by decide +kernel) rfl)⟩, by decide +kernel⟩
theorem mX10_islands : MV yX10_islands cX10_islands 6 (some .int) 2 := ⟨⟨(ul_6 (k := 150) (by decide +kernel) rfl), (ul_6 (k := 151) (by decide +kernel) rfl), (ul_1 (k := 10) (by decide +kernel) rfl), (ul_6 (k := 152) (by decide +kernel) rfl)⟩, by decide +kernel⟩
theorem mX10_laysIslands : MV yX10_laysIslands cX10_laysIslands 7 (some .int) 1 := ⟨⟨(ul_6 (k := 155) (by decide +kernel) rfl), (ul_0 (k := 57) (by decide +kernel) rfl), (ul_1 (k := 10) (by decide +kernel) rfl), (ul_6 (k := 156) (by decide +kernel) rfl)⟩, by decide +kernel⟩
theorem mX10_key : MV yX10_key cX10_key 8 (some .int) 2 := ⟨⟨(ul_6 (k := 158) (by decide +kernel) rfl), (ul_6 (k := 159) (by decide +kernel) rfl), (ul_1 (k := 10) (by decide +kernel) rfl), (ul_6 (k := 160) (by decide +kernel) rfl)⟩, by decide +kernel⟩
theorem mX10_meet : MV yX10_meet cX10_meet 8 (some .int) 3 := ⟨⟨(ul_6 (k := 162) (by decide +kernel) rfl), (ul_6 (k := 163) (by decide +kernel) rfl), (ul_1 (k := 10) (by decide +kernel) rfl), (ul_6 (k := 164) (by decide +kernel) rfl)⟩, by decide +kernel⟩
theorem mX10_market : MV yX10_market cX10_market 3 (some .int) 0 := ⟨⟨(ul_6 (k := 166) (by decide +kernel) rfl), (ul_6 (k := 167) (by decide +kernel) rfl), (ul_1 (k := 10) (by decide +kernel) rfl), (ul_6 (k := 168) (by decide +kernel) rfl)⟩, by decide +kernel⟩
theorem mX10_firstNight : MV yX10_firstNight cX10_firstNight 4 (some .int) 1 := ⟨⟨(ul_6 (k := 170) (by decide +kernel) rfl), (ul_6 (k := 171) (by decide +kernel) rfl), (ul_1 (k := 10) (by decide +kernel) rfl), (ul_6 (k := 172) (by decide +kernel) rfl)⟩, by decide +kernel⟩
theorem mX10_walk : MV yX10_walk cX10_walk 15 (some .int) 4 := ⟨⟨(ul_6 (k := 174) (by decide +kernel) rfl), (ul_6 (k := 175) (by decide +kernel) rfl), (ul_1 (k := 10) (by decide +kernel) rfl), (ul_6 (k := 176) (by decide +kernel) rfl)⟩, by decide +kernel⟩
theorem mX10_readsWalk : MV yX10_readsWalk cX10_readsWalk 2 (some .boolean) 0 := ⟨⟨(ul_6 (k := 179) (by decide +kernel) rfl), (ul_0 (k := 58) (by decide +kernel) rfl), (ul_1 (k := 10) (by decide +kernel) rfl), (ul_6 (k := 180) (by decide +kernel) rfl)⟩, by decide +kernel⟩
theorem mX10_readsHops : MV yX10_readsHops cX10_readsHops 6 (some .boolean) 0 := ⟨⟨(ul_6 (k := 183) (by decide +kernel) rfl), (ul_0 (k := 59) (by decide +kernel) rfl), (ul_1 (k := 10) (by decide +kernel) rfl), (ul_6 (k := 184) (by decide +kernel) rfl)⟩, by decide +kernel⟩
theorem mX10_endsRound : MV yX10_endsRound cX10_endsRound 4 (some .boolean) 0 := ⟨⟨(ul_6 (k := 187) (by decide +kernel) rfl), (ul_0 (k := 60) (by decide +kernel) rfl), (ul_1 (k := 10) (by decide +kernel) rfl), (ul_6 (k := 188) (by decide +kernel) rfl)⟩, by decide +kernel⟩
theorem mX10_chalk : MV yX10_chalk cX10_chalk 7 (some .int) 2 := ⟨⟨(ul_6 (k := 190) (by decide +kernel) rfl), (ul_6 (k := 191) (by decide +kernel) rfl), (ul_1 (k := 10) (by decide +kernel) rfl), (ul_6 (k := 192) (by decide +kernel) rfl)⟩, by decide +kernel⟩
theorem mX10_listsStones : MV yX10_listsStones cX10_listsStones 5 (some .boolean) 2 := ⟨⟨(ul_6 (k := 195) (by decide +kernel) rfl), (ul_0 (k := 61) (by decide +kernel) rfl), (ul_1 (k := 10) (by decide +kernel) rfl), (ul_6 (k := 196) (by decide +kernel) rfl)⟩, by decide +kernel⟩
theorem mX10_octet : MV yX10_octet cX10_octet 2 (some .int) 1 := ⟨⟨(ul_6 (k := 199) (by decide +kernel) rfl), (ul_0 (k := 62) (by decide +kernel) rfl), (ul_1 (k := 10) (by decide +kernel) rfl), (ul_6 (k := 200) (by decide +kernel) rfl)⟩, by decide +kernel⟩
theorem mX10_beginsRows : MV yX10_beginsRows cX10_beginsRows 3 none 1 := ⟨⟨(ul_6 (k := 203) (by decide +kernel) rfl), (ul_0 (k := 63) (by decide +kernel) rfl), (ul_1 (k := 10) (by decide +kernel) rfl), (ul_6 (k := 204) (by decide +kernel) rfl)⟩, by decide +kernel⟩
theorem mX10_chalkOff : MV yX10_chalkOff cX10_chalkOff 5 (some .int) 1 := ⟨⟨(ul_6 (k := 207) (by decide +kernel) rfl), (ul_0 (k := 64) (by decide +kernel) rfl), (ul_1 (k := 10) (by decide +kernel) rfl), (ul_6 (k := 208) (by decide +kernel) rfl)⟩, by decide +kernel⟩
theorem mX10_size : MS yX10_size cX10_size 1 (some .int) 1 := ⟨⟨(ul_6 (k := 210) (by decide +kernel) rfl), (ul_1 (k := 10) (by decide +kernel) rfl), (ul_6 (k := 211) (by decide +kernel) rfl)⟩, by decide +kernel⟩
theorem mX10_nextRow : MV yX10_nextRow cX10_nextRow 7 (some .boolean) 2 := ⟨⟨(ul_6 (k := 214) (by decide +kernel) rfl), (ul_0 (k := 65) (by decide +kernel) rfl), (ul_1 (k := 10) (by decide +kernel) rfl), (ul_6 (k := 215) (by decide +kernel) rfl)⟩, by decide +kernel⟩
theorem mX10_changes : MV yX10_changes cX10_changes 4 none 2 := ⟨⟨(ul_6 (k := 218) (by decide +kernel) rfl), (ul_0 (k := 66) (by decide +kernel) rfl), (ul_1 (k := 10) (by decide +kernel) rfl), (ul_6 (k := 219) (by decide +kernel) rfl)⟩, by decide +kernel⟩
theorem mX10_shape : MV yX10_shape cX10_shape 2 (some .int) 1 := ⟨⟨(ul_6 (k := 221) (by decide +kernel) rfl), (ul_6 (k := 222) (by decide +kernel) rfl), (ul_1 (k := 10) (by decide +kernel) rfl), (ul_6 (k := 223) (by decide +kernel) rfl)⟩, by decide +kernel⟩
theorem mX10_mostInLine : MV yX10_mostInLine cX10_mostInLine 6 (some .int) 0 := ⟨⟨(ul_6 (k := 226) (by decide +kernel) rfl), (ul_0 (k := 67) (by decide +kernel) rfl), (ul_1 (k := 10) (by decide +kernel) rfl), (ul_6 (k := 227) (by decide +kernel) rfl)⟩, by decide +kernel⟩
theorem mX10_areInLine : MV yX10_areInLine cX10_areInLine 6 (some .boolean) 3 := ⟨⟨(ul_6 (k := 230) (by decide +kernel) rfl), (ul_0 (k := 68) (by decide +kernel) rfl), (ul_1 (k := 10) (by decide +kernel) rfl), (ul_6 (k := 231) (by decide +kernel) rfl)⟩, by decide +kernel⟩
theorem mX10_yardRow : MV yX10_yardRow cX10_yardRow 4 (some .int) 0 := ⟨⟨(ul_6 (k := 234) (by decide +kernel) rfl), (ul_0 (k := 69) (by decide +kernel) rfl), (ul_1 (k := 10) (by decide +kernel) rfl), (ul_6 (k := 235) (by decide +kernel) rfl)⟩, by decide +kernel⟩
theorem mX10_pairsOf : MV yX10_pairsOf cX10_pairsOf 4 (some .int) 0 := ⟨⟨(ul_6 (k := 238) (by decide +kernel) rfl), (ul_0 (k := 70) (by decide +kernel) rfl), (ul_1 (k := 10) (by decide +kernel) rfl), (ul_6 (k := 239) (by decide +kernel) rfl)⟩, by decide +kernel⟩
theorem mX10_nearestTo : MV yX10_nearestTo cX10_nearestTo 4 (some .int) 1 := ⟨⟨(ul_7 (k := 2) (by decide +kernel) rfl), (ul_0 (k := 71) (by decide +kernel) rfl), (ul_1 (k := 10) (by decide +kernel) rfl), (ul_7 (k := 3) (by decide +kernel) rfl)⟩, by decide +kernel⟩
theorem mX10_closest : MV yX10_closest cX10_closest 4 (some .int) 0 := ⟨⟨(ul_7 (k := 6) (by decide +kernel) rfl), (ul_0 (k := 72) (by decide +kernel) rfl), (ul_1 (k := 10) (by decide +kernel) rfl), (ul_7 (k := 7) (by decide +kernel) rfl)⟩, by decide +kernel⟩
theorem mX10_letters : MV yX10_letters cX10_letters 8 (some .int) 2 := ⟨⟨(ul_7 (k := 9) (by decide +kernel) rfl), (ul_7 (k := 10) (by decide +kernel) rfl), (ul_1 (k := 10) (by decide +kernel) rfl), (ul_7 (k := 11) (by decide +kernel) rfl)⟩, by decide +kernel⟩
theorem mX10_thrown : MV yX10_thrown cX10_thrown 6 (some .int) 1 := ⟨⟨(ul_7 (k := 13) (by decide +kernel) rfl), (ul_7 (k := 14) (by decide +kernel) rfl), (ul_1 (k := 10) (by decide +kernel) rfl), (ul_7 (k := 15) (by decide +kernel) rfl)⟩, by decide +kernel⟩
theorem mX10_seed : MV yX10_seed cX10_seed 2 (some .boolean) 1 := ⟨⟨(ul_7 (k := 17) (by decide +kernel) rfl), (ul_7 (k := 18) (by decide +kernel) rfl), (ul_1 (k := 10) (by decide +kernel) rfl), (ul_7 (k := 19) (by decide +kernel) rfl)⟩, by decide +kernel⟩
theorem mX10_keep : MV yX10_keep cX10_keep 1 (some .int) 0 := ⟨⟨(ul_7 (k := 22) (by decide +kernel) rfl), (ul_7 (k := 23) (by decide +kernel) rfl), (ul_1 (k := 10) (by decide +kernel) rfl), (ul_7 (k := 24) (by decide +kernel) rfl)⟩, by decide +kernel⟩
theorem mX10_undo : MV yX10_undo cX10_undo 1 (some .boolean) 0 := ⟨⟨(ul_7 (k := 26) (by decide +kernel) rfl), (ul_7 (k := 27) (by decide +kernel) rfl), (ul_1 (k := 10) (by decide +kernel) rfl), (ul_7 (k := 28) (by decide +kernel) rfl)⟩, by decide +kernel⟩
theorem mX10_check : MV yX10_check cX10_check 3 (some .int) 1 := ⟨⟨(ul_7 (k := 30) (by decide +kernel) rfl), (ul_7 (k := 31) (by decide +kernel) rfl), (ul_1 (k := 10) (by decide +kernel) rfl), (ul_7 (k := 32) (by decide +kernel) rfl)⟩, by decide +kernel⟩
theorem mX10_count : MV yX10_count cX10_count 2 (some .int) 1 := ⟨⟨(ul_7 (k := 34) (by decide +kernel) rfl), (ul_7 (k := 35) (by decide +kernel) rfl), (ul_1 (k := 10) (by decide +kernel) rfl), (ul_7 (k := 36) (by decide +kernel) rfl)⟩, by decide +kernel⟩
theorem lL_9 : Cond.methodLink RL 9 yX9_init ∈ UL := (ul_1 (k := 17) (by decide +kernel) rfl)
theorem lX9_1 : Cond.methodLink RX9 1 objectInit ∈ UL := (ul_1 (k := 20) (by decide +kernel) rfl)
theorem lX2_3 : Cond.methodLink RX2 3 objectInit ∈ UL := (ul_1 (k := 28) (by decide +kernel) rfl)
theorem lX7_3 : Cond.methodLink RX7 3 objectInit ∈ UL := (ul_1 (k := 78) (by decide +kernel) rfl)
theorem lX5_3 : Cond.methodLink RX5 3 objectInit ∈ UL := (ul_1 (k := 106) (by decide +kernel) rfl)
theorem lX8_3 : Cond.methodLink RX8 3 objectInit ∈ UL := (ul_1 (k := 124) (by decide +kernel) rfl)
theorem lX1_3 : Cond.methodLink RX1 3 objectInit ∈ UL := (ul_1 (k := 149) (by decide +kernel) rfl)
theorem lX4_3 : Cond.methodLink RX4 3 objectInit ∈ UL := (ul_1 (k := 168) (by decide +kernel) rfl)
theorem lX0_3 : Cond.methodLink RX0 3 objectInit ∈ UL := (ul_1 (k := 196) (by decide +kernel) rfl)
theorem lX3_3 : Cond.methodLink RX3 3 objectInit ∈ UL := (ul_1 (k := 218) (by decide +kernel) rfl)
theorem lL_13 : Cond.methodLink RL 13 yX9_stone ∈ UL := (ul_2 (k := 52) (by decide +kernel) rfl)
theorem lX9_82 : Cond.methodLink RX9 82 yX9_isStone ∈ UL := (ul_2 (k := 56) (by decide +kernel) rfl)
theorem lX9_86 : Cond.methodLink RX9 86 yX9_isPlace ∈ UL := (ul_2 (k := 59) (by decide +kernel) rfl)
theorem lX9_90 : Cond.methodLink RX9 90 yX2_stoneAt ∈ UL := (ul_2 (k := 62) (by decide +kernel) rfl)
theorem lX9_94 : Cond.methodLink RX9 94 yX2_lay ∈ UL := (ul_2 (k := 66) (by decide +kernel) rfl)
theorem lL_18 : Cond.methodLink RL 18 yX9_take ∈ UL := (ul_2 (k := 70) (by decide +kernel) rfl)
theorem lX9_98 : Cond.methodLink RX9 98 yX2_isTold ∈ UL := (ul_2 (k := 74) (by decide +kernel) rfl)
theorem lL_23 : Cond.methodLink RL 23 yX9_under ∈ UL := (ul_2 (k := 78) (by decide +kernel) rfl)
theorem lL_28 : Cond.methodLink RL 28 yX9_person ∈ UL := (ul_2 (k := 82) (by decide +kernel) rfl)
theorem lX9_108 : Cond.methodLink RX9 108 yX9_isStride ∈ UL := (ul_2 (k := 86) (by decide +kernel) rfl)
theorem lL_33 : Cond.methodLink RL 33 yX9_feed ∈ UL := (ul_2 (k := 89) (by decide +kernel) rfl)
theorem lX9_115 : Cond.methodLink RX9 115 yX7_append ∈ UL := (ul_2 (k := 93) (by decide +kernel) rfl)
theorem lL_38 : Cond.methodLink RL 38 yX9_law ∈ UL := (ul_2 (k := 97) (by decide +kernel) rfl)
theorem lX9_119 : Cond.methodLink RX9 119 yX7_holds ∈ UL := (ul_2 (k := 101) (by decide +kernel) rfl)
theorem lX9_123 : Cond.methodLink RX9 123 yX7_open ∈ UL := (ul_2 (k := 105) (by decide +kernel) rfl)
theorem lX9_126 : Cond.methodLink RX9 126 yX3_compile ∈ UL := (ul_2 (k := 109) (by decide +kernel) rfl)
theorem lX3_44 : Cond.methodLink RX3 44 yX7_here ∈ UL := (ul_2 (k := 113) (by decide +kernel) rfl)
theorem lX3_50 : Cond.methodLink RX3 50 yX3_isRuleLetter ∈ UL := (ul_2 (k := 117) (by decide +kernel) rfl)
theorem lX3_57 : Cond.methodLink RX3 57 yX7_refuse ∈ UL := (ul_2 (k := 120) (by decide +kernel) rfl)
theorem lX3_64 : Cond.methodLink RX3 64 yX3_compileSum ∈ UL := (ul_2 (k := 124) (by decide +kernel) rfl)
theorem lX3_85 : Cond.methodLink RX3 85 yX3_compileFactor ∈ UL := (ul_2 (k := 128) (by decide +kernel) rfl)
theorem lX3_68 : Cond.methodLink RX3 68 yX7_skip ∈ UL := (ul_2 (k := 132) (by decide +kernel) rfl)
theorem lX7_28 : Cond.methodLink RX7 28 yX7_here ∈ UL := (ul_2 (k := 136) (by decide +kernel) rfl)
theorem lX7_32 : Cond.methodLink RX7 32 yX7_refuse ∈ UL := (ul_2 (k := 137) (by decide +kernel) rfl)
theorem lX3_88 : Cond.methodLink RX3 88 yX7_isDigit ∈ UL := (ul_2 (k := 138) (by decide +kernel) rfl)
theorem lX3_91 : Cond.methodLink RX3 91 yX7_number ∈ UL := (ul_2 (k := 141) (by decide +kernel) rfl)
theorem lX7_36 : Cond.methodLink RX7 36 yX7_isDigit ∈ UL := (ul_2 (k := 145) (by decide +kernel) rfl)
theorem lX3_81 : Cond.methodLink RX3 81 yX3_order ∈ UL := (ul_2 (k := 146) (by decide +kernel) rfl)
theorem lX3_95 : Cond.methodLink RX3 95 yX5_indexOf ∈ UL := (ul_2 (k := 150) (by decide +kernel) rfl)
theorem lX3_71 : Cond.methodLink RX3 71 yX3_compileChoice ∈ UL := (ul_2 (k := 153) (by decide +kernel) rfl)
theorem lX3_74 : Cond.methodLink RX3 74 yX3_compileTest ∈ UL := (ul_2 (k := 157) (by decide +kernel) rfl)
theorem lX3_77 : Cond.methodLink RX3 77 yX3_landHere ∈ UL := (ul_2 (k := 161) (by decide +kernel) rfl)
theorem lL_43 : Cond.methodLink RL 43 yX9_notebook ∈ UL := (ul_2 (k := 165) (by decide +kernel) rfl)
theorem lX9_130 : Cond.methodLink RX9 130 yX9_readNotebook ∈ UL := (ul_2 (k := 169) (by decide +kernel) rfl)
theorem lX9_294 : Cond.methodLink RX9 294 yX2_clearStones ∈ UL := (ul_2 (k := 172) (by decide +kernel) rfl)
theorem lX9_297 : Cond.methodLink RX9 297 yX9_readLine ∈ UL := (ul_2 (k := 176) (by decide +kernel) rfl)
theorem lX9_316 : Cond.methodLink RX9 316 yX7_number ∈ UL := (ul_2 (k := 179) (by decide +kernel) rfl)
theorem lX9_313 : Cond.methodLink RX9 313 yX7_refuse ∈ UL := (ul_2 (k := 180) (by decide +kernel) rfl)
theorem lX9_304 : Cond.methodLink RX9 304 yX7_skip ∈ UL := (ul_2 (k := 181) (by decide +kernel) rfl)
theorem lX9_301 : Cond.methodLink RX9 301 yX7_here ∈ UL := (ul_2 (k := 182) (by decide +kernel) rfl)
theorem lX9_307 : Cond.methodLink RX9 307 yX7_isDigit ∈ UL := (ul_2 (k := 183) (by decide +kernel) rfl)
theorem lX9_134 : Cond.methodLink RX9 134 yX2_copyStones ∈ UL := (ul_2 (k := 184) (by decide +kernel) rfl)
theorem lL_47 : Cond.methodLink RL 47 yX9_nights ∈ UL := (ul_2 (k := 188) (by decide +kernel) rfl)
theorem lX9_138 : Cond.methodLink RX9 138 yX9_isNights ∈ UL := (ul_2 (k := 192) (by decide +kernel) rfl)
theorem lX9_141 : Cond.methodLink RX9 141 yX5_pass ∈ UL := (ul_2 (k := 195) (by decide +kernel) rfl)
theorem lX5_31 : Cond.methodLink RX5 31 yX5_turn ∈ UL := (ul_2 (k := 199) (by decide +kernel) rfl)
theorem lX5_35 : Cond.methodLink RX5 35 yX2_isTold ∈ UL := (ul_2 (k := 203) (by decide +kernel) rfl)
theorem lX5_39 : Cond.methodLink RX5 39 yX2_draw ∈ UL := (ul_2 (k := 204) (by decide +kernel) rfl)
theorem lX5_43 : Cond.methodLink RX5 43 yX5_look ∈ UL := (ul_2 (k := 209) (by decide +kernel) rfl)
theorem lX5_76 : Cond.methodLink RX5 76 yX2_countClose ∈ UL := (ul_2 (k := 213) (by decide +kernel) rfl)
theorem lX2_49 : Cond.methodLink RX2 49 yX2_squares ∈ UL := (ul_2 (k := 217) (by decide +kernel) rfl)
theorem lX2_52 : Cond.methodLink RX2 52 yX2_isTold ∈ UL := (ul_2 (k := 221) (by decide +kernel) rfl)
theorem lX5_46 : Cond.methodLink RX5 46 yX3_amountOf ∈ UL := (ul_2 (k := 222) (by decide +kernel) rfl)
theorem lX3_100 : Cond.methodLink RX3 100 yX3_doesHold ∈ UL := (ul_2 (k := 226) (by decide +kernel) rfl)
theorem lX3_104 : Cond.methodLink RX3 104 yX3_reckon ∈ UL := (ul_2 (k := 230) (by decide +kernel) rfl)
theorem lX3_117 : Cond.methodLink RX3 117 yX3_combine ∈ UL := (ul_2 (k := 234) (by decide +kernel) rfl)
theorem lX3_108 : Cond.methodLink RX3 108 Lib.Math.min.name ∈ UL := (ul_2 (k := 237) (by decide +kernel) rfl)
theorem lX3_114 : Cond.methodLink RX3 114 Lib.Math.max.name ∈ UL := (ul_3 (k := 0) (by decide +kernel) rfl)
theorem lX5_52 : Cond.methodLink RX5 52 yX5_shift ∈ UL := (ul_3 (k := 3) (by decide +kernel) rfl)
theorem lX5_80 : Cond.methodLink RX5 80 Lib.Math.min.name ∈ UL := (ul_3 (k := 7) (by decide +kernel) rfl)
theorem lX5_86 : Cond.methodLink RX5 86 Lib.Math.max.name ∈ UL := (ul_3 (k := 8) (by decide +kernel) rfl)
theorem lX5_89 : Cond.methodLink RX5 89 yX2_stoneAt ∈ UL := (ul_3 (k := 9) (by decide +kernel) rfl)
theorem lX5_59 : Cond.methodLink RX5 59 yX3_doesSink ∈ UL := (ul_3 (k := 10) (by decide +kernel) rfl)
theorem lL_51 : Cond.methodLink RL 51 yX9_tried ∈ UL := (ul_3 (k := 14) (by decide +kernel) rfl)
theorem lX9_149 : Cond.methodLink RX9 149 yX2_copyAll ∈ UL := (ul_3 (k := 19) (by decide +kernel) rfl)
theorem lX2_35 : Cond.methodLink RX2 35 yX2_copyStones ∈ UL := (ul_3 (k := 23) (by decide +kernel) rfl)
theorem lX9_161 : Cond.methodLink RX9 161 yX2_countSunk ∈ UL := (ul_3 (k := 24) (by decide +kernel) rfl)
theorem lX9_165 : Cond.methodLink RX9 165 yX2_sumOfX ∈ UL := (ul_3 (k := 28) (by decide +kernel) rfl)
theorem lL_56 : Cond.methodLink RL 56 yX9_stoneIs ∈ UL := (ul_3 (k := 32) (by decide +kernel) rfl)
theorem lX9_171 : Cond.methodLink RX9 171 yX2_countClose ∈ UL := (ul_3 (k := 36) (by decide +kernel) rfl)
theorem lL_60 : Cond.methodLink RL 60 yX9_at ∈ UL := (ul_3 (k := 37) (by decide +kernel) rfl)
theorem lL_64 : Cond.methodLink RL 64 yX9_cross ∈ UL := (ul_3 (k := 41) (by decide +kernel) rfl)
theorem lX9_175 : Cond.methodLink RX9 175 yX9_strideOf ∈ UL := (ul_3 (k := 45) (by decide +kernel) rfl)
theorem lX9_178 : Cond.methodLink RX9 178 yX8_crossing ∈ UL := (ul_3 (k := 49) (by decide +kernel) rfl)
theorem lX8_47 : Cond.methodLink RX8 47 yX8_spread ∈ UL := (ul_3 (k := 53) (by decide +kernel) rfl)
theorem lX8_31 : Cond.methodLink RX8 31 yJ7_fill_53178 ∈ UL := (ul_3 (k := 57) (by decide +kernel) rfl)
theorem lX8_37 : Cond.methodLink RX8 37 yX8_spreadOn ∈ UL := (ul_3 (k := 60) (by decide +kernel) rfl)
theorem lX8_41 : Cond.methodLink RX8 41 yX2_isStep ∈ UL := (ul_3 (k := 64) (by decide +kernel) rfl)
theorem lX2_56 : Cond.methodLink RX2 56 yX2_canStand ∈ UL := (ul_3 (k := 68) (by decide +kernel) rfl)
theorem lX2_45 : Cond.methodLink RX2 45 yX2_isDry ∈ UL := (ul_3 (k := 72) (by decide +kernel) rfl)
theorem lX2_59 : Cond.methodLink RX2 59 yX2_isStepFrom ∈ UL := (ul_3 (k := 76) (by decide +kernel) rfl)
theorem lX2_63 : Cond.methodLink RX2 63 yX2_heightOf ∈ UL := (ul_3 (k := 80) (by decide +kernel) rfl)
theorem lX2_67 : Cond.methodLink RX2 67 Lib.Math.abs.name ∈ UL := (ul_3 (k := 84) (by decide +kernel) rfl)
theorem lX8_50 : Cond.methodLink RX8 50 yX8_countRows ∈ UL := (ul_3 (k := 87) (by decide +kernel) rfl)
theorem lX8_58 : Cond.methodLink RX8 58 yX8_leadOn ∈ UL := (ul_3 (k := 91) (by decide +kernel) rfl)
theorem lX8_63 : Cond.methodLink RX8 63 Lib.Math.min.name ∈ UL := (ul_3 (k := 96) (by decide +kernel) rfl)
theorem lX8_54 : Cond.methodLink RX8 54 yX8_stoneOfLeastRow ∈ UL := (ul_3 (k := 97) (by decide +kernel) rfl)
theorem lX8_69 : Cond.methodLink RX8 69 yX8_lowestOnward ∈ UL := (ul_3 (k := 101) (by decide +kernel) rfl)
theorem lL_68 : Cond.methodLink RL 68 yX9_driest ∈ UL := (ul_3 (k := 105) (by decide +kernel) rfl)
theorem lX9_182 : Cond.methodLink RX9 182 yX9_isEither ∈ UL := (ul_3 (k := 109) (by decide +kernel) rfl)
theorem lX9_185 : Cond.methodLink RX9 185 yX8_driestWay ∈ UL := (ul_3 (k := 112) (by decide +kernel) rfl)
theorem lX8_72 : Cond.methodLink RX8 72 yX8_cheapest ∈ UL := (ul_3 (k := 116) (by decide +kernel) rfl)
theorem lX8_76 : Cond.methodLink RX8 76 yX8_settle ∈ UL := (ul_3 (k := 120) (by decide +kernel) rfl)
theorem lL_72 : Cond.methodLink RL 72 yX9_leastStride ∈ UL := (ul_3 (k := 124) (by decide +kernel) rfl)
theorem lX9_188 : Cond.methodLink RX9 188 yX8_canCross ∈ UL := (ul_3 (k := 128) (by decide +kernel) rfl)
theorem lL_77 : Cond.methodLink RL 77 yX9_howFar ∈ UL := (ul_3 (k := 132) (by decide +kernel) rfl)
theorem lX9_192 : Cond.methodLink RX9 192 yX8_farthest ∈ UL := (ul_3 (k := 136) (by decide +kernel) rfl)
theorem lX8_82 : Cond.methodLink RX8 82 yX2_heightOf ∈ UL := (ul_3 (k := 140) (by decide +kernel) rfl)
theorem lX8_86 : Cond.methodLink RX8 86 Lib.Math.max.name ∈ UL := (ul_3 (k := 141) (by decide +kernel) rfl)
theorem lL_81 : Cond.methodLink RL 81 yX9_hold ∈ UL := (ul_3 (k := 142) (by decide +kernel) rfl)
theorem lX9_196 : Cond.methodLink RX9 196 yX1_fewest ∈ UL := (ul_3 (k := 146) (by decide +kernel) rfl)
theorem lX1_25 : Cond.methodLink RX1 25 yJ7_fill_53178 ∈ UL := (ul_3 (k := 150) (by decide +kernel) rfl)
theorem lX1_31 : Cond.methodLink RX1 31 yX1_search ∈ UL := (ul_3 (k := 151) (by decide +kernel) rfl)
theorem lX1_39 : Cond.methodLink RX1 39 yX2_isStep ∈ UL := (ul_3 (k := 155) (by decide +kernel) rfl)
theorem lX1_45 : Cond.methodLink RX1 45 yX1_reach ∈ UL := (ul_3 (k := 156) (by decide +kernel) rfl)
theorem lX1_49 : Cond.methodLink RX1 49 yX1_comeOn ∈ UL := (ul_3 (k := 160) (by decide +kernel) rfl)
theorem lX1_52 : Cond.methodLink RX1 52 yX1_leave ∈ UL := (ul_3 (k := 164) (by decide +kernel) rfl)
theorem lX1_35 : Cond.methodLink RX1 35 yX1_weave ∈ UL := (ul_3 (k := 168) (by decide +kernel) rfl)
theorem lX1_56 : Cond.methodLink RX1 56 yX1_join ∈ UL := (ul_3 (k := 172) (by decide +kernel) rfl)
theorem lL_85 : Cond.methodLink RL 85 yX9_oneMore ∈ UL := (ul_3 (k := 176) (by decide +kernel) rfl)
theorem lX9_199 : Cond.methodLink RX9 199 yX8_helpfulPlace ∈ UL := (ul_3 (k := 180) (by decide +kernel) rfl)
theorem lX8_89 : Cond.methodLink RX8 89 yX8_canCross ∈ UL := (ul_3 (k := 184) (by decide +kernel) rfl)
theorem lX8_93 : Cond.methodLink RX8 93 yX8_wouldJoin ∈ UL := (ul_3 (k := 185) (by decide +kernel) rfl)
theorem lX8_97 : Cond.methodLink RX8 97 yX2_isStepFrom ∈ UL := (ul_3 (k := 189) (by decide +kernel) rfl)
theorem lX8_101 : Cond.methodLink RX8 101 yX2_stoneAt ∈ UL := (ul_3 (k := 190) (by decide +kernel) rfl)
theorem lL_89 : Cond.methodLink RL 89 yX9_islands ∈ UL := (ul_3 (k := 191) (by decide +kernel) rfl)
theorem lX9_202 : Cond.methodLink RX9 202 yX8_countIslands ∈ UL := (ul_3 (k := 195) (by decide +kernel) rfl)
theorem lX8_104 : Cond.methodLink RX8 104 yX2_isDry ∈ UL := (ul_3 (k := 199) (by decide +kernel) rfl)
theorem lX9_205 : Cond.methodLink RX9 205 yX8_islandSize ∈ UL := (ul_3 (k := 200) (by decide +kernel) rfl)
theorem lL_93 : Cond.methodLink RL 93 yX9_key ∈ UL := (ul_3 (k := 204) (by decide +kernel) rfl)
theorem lX9_208 : Cond.methodLink RX9 208 yX8_needs ∈ UL := (ul_3 (k := 208) (by decide +kernel) rfl)
theorem lL_97 : Cond.methodLink RL 97 yX9_meet ∈ UL := (ul_3 (k := 212) (by decide +kernel) rfl)
theorem lX9_212 : Cond.methodLink RX9 212 yX8_meeting ∈ UL := (ul_3 (k := 216) (by decide +kernel) rfl)
theorem lL_102 : Cond.methodLink RL 102 yX9_market ∈ UL := (ul_3 (k := 220) (by decide +kernel) rfl)
theorem lL_106 : Cond.methodLink RL 106 yX9_firstNight ∈ UL := (ul_3 (k := 224) (by decide +kernel) rfl)
theorem lL_110 : Cond.methodLink RL 110 yX9_walk ∈ UL := (ul_3 (k := 228) (by decide +kernel) rfl)
theorem lX9_216 : Cond.methodLink RX9 216 yX4_read ∈ UL := (ul_3 (k := 232) (by decide +kernel) rfl)
theorem lX4_31 : Cond.methodLink RX4 31 yX4_readSteps ∈ UL := (ul_3 (k := 236) (by decide +kernel) rfl)
theorem lX4_35 : Cond.methodLink RX4 35 yX7_here ∈ UL := (ul_4 (k := 0) (by decide +kernel) rfl)
theorem lX4_48 : Cond.methodLink RX4 48 yX4_readRound ∈ UL := (ul_4 (k := 1) (by decide +kernel) rfl)
theorem lX4_44 : Cond.methodLink RX4 44 yX7_refuse ∈ UL := (ul_4 (k := 5) (by decide +kernel) rfl)
theorem lX4_55 : Cond.methodLink RX4 55 yX7_skip ∈ UL := (ul_4 (k := 6) (by decide +kernel) rfl)
theorem lX4_59 : Cond.methodLink RX4 59 yX4_repeat ∈ UL := (ul_4 (k := 7) (by decide +kernel) rfl)
theorem lX4_51 : Cond.methodLink RX4 51 yX4_readHops ∈ UL := (ul_4 (k := 11) (by decide +kernel) rfl)
theorem lX4_62 : Cond.methodLink RX4 62 yX4_isHop ∈ UL := (ul_4 (k := 15) (by decide +kernel) rfl)
theorem lX4_65 : Cond.methodLink RX4 65 yX7_isDigit ∈ UL := (ul_4 (k := 18) (by decide +kernel) rfl)
theorem lX4_68 : Cond.methodLink RX4 68 yX7_number ∈ UL := (ul_4 (k := 19) (by decide +kernel) rfl)
theorem lX9_223 : Cond.methodLink RX9 223 yX4_go ∈ UL := (ul_4 (k := 20) (by decide +kernel) rfl)
theorem lX4_72 : Cond.methodLink RX4 72 Lib.Math.min.name ∈ UL := (ul_4 (k := 24) (by decide +kernel) rfl)
theorem lX4_78 : Cond.methodLink RX4 78 Lib.Math.max.name ∈ UL := (ul_4 (k := 25) (by decide +kernel) rfl)
theorem lX4_81 : Cond.methodLink RX4 81 yX4_isFooting ∈ UL := (ul_4 (k := 26) (by decide +kernel) rfl)
theorem lX4_85 : Cond.methodLink RX4 85 yX2_stoneAt ∈ UL := (ul_4 (k := 29) (by decide +kernel) rfl)
theorem lX4_90 : Cond.methodLink RX4 90 yX2_isDry ∈ UL := (ul_4 (k := 30) (by decide +kernel) rfl)
theorem lL_115 : Cond.methodLink RL 115 yX9_chalk ∈ UL := (ul_4 (k := 31) (by decide +kernel) rfl)
theorem lX9_234 : Cond.methodLink RX9 234 yX2_countTold ∈ UL := (ul_4 (k := 35) (by decide +kernel) rfl)
theorem lX9_237 : Cond.methodLink RX9 237 yX0_read ∈ UL := (ul_4 (k := 39) (by decide +kernel) rfl)
theorem lX0_27 : Cond.methodLink RX0 27 yX7_byteAt ∈ UL := (ul_4 (k := 43) (by decide +kernel) rfl)
theorem lX9_240 : Cond.methodLink RX9 240 yX0_match ∈ UL := (ul_4 (k := 47) (by decide +kernel) rfl)
theorem lX0_33 : Cond.methodLink RX0 33 yX2_nextTold ∈ UL := (ul_4 (k := 51) (by decide +kernel) rfl)
theorem lX2_39 : Cond.methodLink RX2 39 Lib.Math.max.name ∈ UL := (ul_4 (k := 55) (by decide +kernel) rfl)
theorem lX0_38 : Cond.methodLink RX0 38 yX0_measure ∈ UL := (ul_4 (k := 56) (by decide +kernel) rfl)
theorem lX0_51 : Cond.methodLink RX0 51 yX2_isTold ∈ UL := (ul_4 (k := 60) (by decide +kernel) rfl)
theorem lX0_58 : Cond.methodLink RX0 58 Lib.Math.abs.name ∈ UL := (ul_4 (k := 61) (by decide +kernel) rfl)
theorem lX0_42 : Cond.methodLink RX0 42 Lib.Math.min.name ∈ UL := (ul_4 (k := 62) (by decide +kernel) rfl)
theorem lX0_48 : Cond.methodLink RX0 48 yX0_fewestBehind ∈ UL := (ul_4 (k := 63) (by decide +kernel) rfl)
theorem lX0_64 : Cond.methodLink RX0 64 yJ6_bitCount_0f7a4 ∈ UL := (ul_4 (k := 67) (by decide +kernel) rfl)
theorem lX0_70 : Cond.methodLink RX0 70 yX0_wayWith ∈ UL := (ul_4 (k := 74) (by decide +kernel) rfl)
theorem lX9_244 : Cond.methodLink RX9 244 yX0_wayInAll ∈ UL := (ul_4 (k := 78) (by decide +kernel) rfl)
theorem lX9_247 : Cond.methodLink RX9 247 yX0_stoneOf ∈ UL := (ul_4 (k := 82) (by decide +kernel) rfl)
theorem lL_119 : Cond.methodLink RL 119 yX9_shape ∈ UL := (ul_4 (k := 86) (by decide +kernel) rfl)
theorem lX9_250 : Cond.methodLink RX9 250 yX6_line ∈ UL := (ul_4 (k := 90) (by decide +kernel) rfl)
theorem lX6_9 : Cond.methodLink RX6 9 yX2_countTold ∈ UL := (ul_4 (k := 93) (by decide +kernel) rfl)
theorem lX6_15 : Cond.methodLink RX6 15 Lib.Math.min.name ∈ UL := (ul_4 (k := 94) (by decide +kernel) rfl)
theorem lX6_25 : Cond.methodLink RX6 25 yX6_countOnLine ∈ UL := (ul_4 (k := 95) (by decide +kernel) rfl)
theorem lX6_34 : Cond.methodLink RX6 34 yX2_isTold ∈ UL := (ul_4 (k := 98) (by decide +kernel) rfl)
theorem lX6_31 : Cond.methodLink RX6 31 Lib.Math.max.name ∈ UL := (ul_4 (k := 99) (by decide +kernel) rfl)
theorem lX9_256 : Cond.methodLink RX9 256 yX6_yardApart ∈ UL := (ul_4 (k := 100) (by decide +kernel) rfl)
theorem lX6_45 : Cond.methodLink RX6 45 yX2_stoneAt ∈ UL := (ul_4 (k := 103) (by decide +kernel) rfl)
theorem lX9_259 : Cond.methodLink RX9 259 yX6_pairs ∈ UL := (ul_4 (k := 104) (by decide +kernel) rfl)
theorem lX6_48 : Cond.methodLink RX6 48 yX6_nearest ∈ UL := (ul_4 (k := 107) (by decide +kernel) rfl)
theorem lX6_52 : Cond.methodLink RX6 52 yX2_squares ∈ UL := (ul_4 (k := 110) (by decide +kernel) rfl)
theorem lX9_262 : Cond.methodLink RX9 262 yX6_closest ∈ UL := (ul_4 (k := 111) (by decide +kernel) rfl)
theorem lL_123 : Cond.methodLink RL 123 yX9_letters ∈ UL := (ul_4 (k := 114) (by decide +kernel) rfl)
theorem lX9_265 : Cond.methodLink RX9 265 yX7_byteAt ∈ UL := (ul_4 (k := 118) (by decide +kernel) rfl)
theorem lX9_268 : Cond.methodLink RX9 268 yX9_evenBag ∈ UL := (ul_4 (k := 119) (by decide +kernel) rfl)
theorem lX9_271 : Cond.methodLink RX9 271 yX9_unlike ∈ UL := (ul_4 (k := 123) (by decide +kernel) rfl)
theorem lX9_319 : Cond.methodLink RX9 319 Lib.Math.abs.name ∈ UL := (ul_4 (k := 127) (by decide +kernel) rfl)
theorem lL_127 : Cond.methodLink RL 127 yX9_thrown ∈ UL := (ul_4 (k := 128) (by decide +kernel) rfl)
theorem lX9_274 : Cond.methodLink RX9 274 yX2_nextDry ∈ UL := (ul_4 (k := 132) (by decide +kernel) rfl)
theorem lX9_277 : Cond.methodLink RX9 277 yX9_fewestThrows ∈ UL := (ul_4 (k := 136) (by decide +kernel) rfl)
theorem lX9_327 : Cond.methodLink RX9 327 yX2_isDry ∈ UL := (ul_4 (k := 140) (by decide +kernel) rfl)
theorem lX9_330 : Cond.methodLink RX9 330 yX2_squares ∈ UL := (ul_4 (k := 141) (by decide +kernel) rfl)
theorem lX9_333 : Cond.methodLink RX9 333 Lib.Math.min.name ∈ UL := (ul_4 (k := 142) (by decide +kernel) rfl)
theorem lL_131 : Cond.methodLink RL 131 yX9_seed ∈ UL := (ul_4 (k := 143) (by decide +kernel) rfl)
theorem lL_135 : Cond.methodLink RL 135 yX9_keep ∈ UL := (ul_4 (k := 148) (by decide +kernel) rfl)
theorem lL_139 : Cond.methodLink RL 139 yX9_undo ∈ UL := (ul_4 (k := 152) (by decide +kernel) rfl)
theorem lL_144 : Cond.methodLink RL 144 yX9_check ∈ UL := (ul_4 (k := 156) (by decide +kernel) rfl)
theorem lL_148 : Cond.methodLink RL 148 yX9_count ∈ UL := (ul_4 (k := 160) (by decide +kernel) rfl)
theorem lX9_288 : Cond.methodLink RX9 288 yX9_toldPeople ∈ UL := (ul_4 (k := 164) (by decide +kernel) rfl)
theorem lL_12 : Cond.methodLink RL 12 yX10_init ∈ UL := (ul_4 (k := 170) (by decide +kernel) rfl)
theorem lX10_1 : Cond.methodLink RX10 1 objectInit ∈ UL := (ul_4 (k := 173) (by decide +kernel) rfl)
theorem lL_17 : Cond.methodLink RL 17 yX10_stone ∈ UL := (ul_5 (k := 101) (by decide +kernel) rfl)
theorem lX10_132 : Cond.methodLink RX10 132 yX10_in ∈ UL := (ul_5 (k := 105) (by decide +kernel) rfl)
theorem lX10_147 : Cond.methodLink RX10 147 yX10_stoneAt ∈ UL := (ul_5 (k := 108) (by decide +kernel) rfl)
theorem lX10_150 : Cond.methodLink RX10 150 yX10_laysStone ∈ UL := (ul_5 (k := 112) (by decide +kernel) rfl)
theorem lL_22 : Cond.methodLink RL 22 yX10_take ∈ UL := (ul_5 (k := 116) (by decide +kernel) rfl)
theorem lX10_154 : Cond.methodLink RX10 154 yX10_isStone ∈ UL := (ul_5 (k := 120) (by decide +kernel) rfl)
theorem lL_27 : Cond.methodLink RL 27 yX10_under ∈ UL := (ul_5 (k := 124) (by decide +kernel) rfl)
theorem lL_32 : Cond.methodLink RL 32 yX10_person ∈ UL := (ul_5 (k := 128) (by decide +kernel) rfl)
theorem lL_37 : Cond.methodLink RL 37 yX10_feed ∈ UL := (ul_5 (k := 132) (by decide +kernel) rfl)
theorem lX10_161 : Cond.methodLink RX10 161 yX10_types ∈ UL := (ul_5 (k := 136) (by decide +kernel) rfl)
theorem lL_42 : Cond.methodLink RL 42 yX10_law ∈ UL := (ul_5 (k := 140) (by decide +kernel) rfl)
theorem lX10_249 : Cond.methodLink RX10 249 yX10_beginsText ∈ UL := (ul_5 (k := 144) (by decide +kernel) rfl)
theorem lX10_252 : Cond.methodLink RX10 252 yX10_readsRule ∈ UL := (ul_5 (k := 148) (by decide +kernel) rfl)
theorem lX10_171 : Cond.methodLink RX10 171 yX10_here ∈ UL := (ul_5 (k := 152) (by decide +kernel) rfl)
theorem lX10_178 : Cond.methodLink RX10 178 yX10_wrongAt ∈ UL := (ul_5 (k := 156) (by decide +kernel) rfl)
theorem lX10_228 : Cond.methodLink RX10 228 yX10_readsSum ∈ UL := (ul_5 (k := 160) (by decide +kernel) rfl)
theorem lX10_215 : Cond.methodLink RX10 215 yX10_readsFactor ∈ UL := (ul_5 (k := 164) (by decide +kernel) rfl)
theorem lX10_205 : Cond.methodLink RX10 205 yX10_opens ∈ UL := (ul_5 (k := 168) (by decide +kernel) rfl)
theorem lX10_184 : Cond.methodLink RX10 184 yX10_isDigit ∈ UL := (ul_5 (k := 173) (by decide +kernel) rfl)
theorem lX10_208 : Cond.methodLink RX10 208 yX10_readsNumber ∈ UL := (ul_5 (k := 177) (by decide +kernel) rfl)
theorem lX10_201 : Cond.methodLink RX10 201 yX10_notes ∈ UL := (ul_5 (k := 181) (by decide +kernel) rfl)
theorem lX10_211 : Cond.methodLink RX10 211 yX10_factOf ∈ UL := (ul_5 (k := 185) (by decide +kernel) rfl)
theorem lX10_218 : Cond.methodLink RX10 218 yX10_sumSign ∈ UL := (ul_5 (k := 188) (by decide +kernel) rfl)
theorem lX10_221 : Cond.methodLink RX10 221 yX10_closesSums ∈ UL := (ul_5 (k := 191) (by decide +kernel) rfl)
theorem lX10_198 : Cond.methodLink RX10 198 yX10_waitTop ∈ UL := (ul_5 (k := 195) (by decide +kernel) rfl)
theorem lX10_225 : Cond.methodLink RX10 225 yX10_hasOpenSum ∈ UL := (ul_5 (k := 199) (by decide +kernel) rfl)
theorem lX10_246 : Cond.methodLink RX10 246 yX10_readsCondition ∈ UL := (ul_5 (k := 203) (by decide +kernel) rfl)
theorem lX10_234 : Cond.methodLink RX10 234 yX10_readsCompared ∈ UL := (ul_5 (k := 207) (by decide +kernel) rfl)
theorem lX10_231 : Cond.methodLink RX10 231 yX10_endsPiece ∈ UL := (ul_5 (k := 211) (by decide +kernel) rfl)
theorem lX10_237 : Cond.methodLink RX10 237 yX10_lands ∈ UL := (ul_5 (k := 215) (by decide +kernel) rfl)
theorem lX10_240 : Cond.methodLink RX10 240 yX10_jumps ∈ UL := (ul_5 (k := 219) (by decide +kernel) rfl)
theorem lX10_255 : Cond.methodLink RX10 255 yX10_takesSign ∈ UL := (ul_5 (k := 223) (by decide +kernel) rfl)
theorem lL_46 : Cond.methodLink RL 46 yX10_notebook ∈ UL := (ul_5 (k := 227) (by decide +kernel) rfl)
theorem lX10_280 : Cond.methodLink RX10 280 yX10_readsLine ∈ UL := (ul_5 (k := 231) (by decide +kernel) rfl)
theorem lX10_277 : Cond.methodLink RX10 277 yX10_readsBetween ∈ UL := (ul_5 (k := 235) (by decide +kernel) rfl)
theorem lX10_271 : Cond.methodLink RX10 271 yX10_readsAmount ∈ UL := (ul_5 (k := 239) (by decide +kernel) rfl)
theorem lL_50 : Cond.methodLink RL 50 yX10_nights ∈ UL := (ul_6 (k := 3) (by decide +kernel) rfl)
theorem lX10_308 : Cond.methodLink RX10 308 yX10_nightsGo ∈ UL := (ul_6 (k := 7) (by decide +kernel) rfl)
theorem lX10_305 : Cond.methodLink RX10 305 yX10_nightGoes ∈ UL := (ul_6 (k := 11) (by decide +kernel) rfl)
theorem lX10_302 : Cond.methodLink RX10 302 yX10_moves ∈ UL := (ul_6 (k := 15) (by decide +kernel) rfl)
theorem lX10_284 : Cond.methodLink RX10 284 yX10_feels ∈ UL := (ul_6 (k := 20) (by decide +kernel) rfl)
theorem lX10_268 : Cond.methodLink RX10 268 yX10_nearTo ∈ UL := (ul_6 (k := 24) (by decide +kernel) rfl)
theorem lX10_144 : Cond.methodLink RX10 144 yX10_apart ∈ UL := (ul_6 (k := 28) (by decide +kernel) rfl)
theorem lX10_287 : Cond.methodLink RX10 287 yX10_byLaw ∈ UL := (ul_6 (k := 32) (by decide +kernel) rfl)
theorem lX10_265 : Cond.methodLink RX10 265 yX10_comesTo ∈ UL := (ul_6 (k := 36) (by decide +kernel) rfl)
theorem lX10_261 : Cond.methodLink RX10 261 yX10_reckon ∈ UL := (ul_6 (k := 40) (by decide +kernel) rfl)
theorem lX10_290 : Cond.methodLink RX10 290 yX10_bounded ∈ UL := (ul_6 (k := 43) (by decide +kernel) rfl)
theorem lX10_125 : Cond.methodLink RX10 125 yX10_min ∈ UL := (ul_6 (k := 46) (by decide +kernel) rfl)
theorem lX10_129 : Cond.methodLink RX10 129 yX10_max ∈ UL := (ul_6 (k := 49) (by decide +kernel) rfl)
theorem lX10_299 : Cond.methodLink RX10 299 yX10_holdsAny ∈ UL := (ul_6 (k := 52) (by decide +kernel) rfl)
theorem lL_55 : Cond.methodLink RL 55 yX10_tried ∈ UL := (ul_6 (k := 56) (by decide +kernel) rfl)
theorem lX10_312 : Cond.methodLink RX10 312 yX10_sumOf ∈ UL := (ul_6 (k := 61) (by decide +kernel) rfl)
theorem lX10_315 : Cond.methodLink RX10 315 yX10_copies ∈ UL := (ul_6 (k := 65) (by decide +kernel) rfl)
theorem lL_59 : Cond.methodLink RL 59 yX10_stoneIs ∈ UL := (ul_6 (k := 68) (by decide +kernel) rfl)
theorem lL_63 : Cond.methodLink RL 63 yX10_at ∈ UL := (ul_6 (k := 72) (by decide +kernel) rfl)
theorem lL_67 : Cond.methodLink RL 67 yX10_cross ∈ UL := (ul_6 (k := 76) (by decide +kernel) rfl)
theorem lX10_334 : Cond.methodLink RX10 334 yX10_isPerson ∈ UL := (ul_6 (k := 80) (by decide +kernel) rfl)
theorem lX10_140 : Cond.methodLink RX10 140 yX10_has ∈ UL := (ul_6 (k := 84) (by decide +kernel) rfl)
theorem lX10_337 : Cond.methodLink RX10 337 yX10_crossing ∈ UL := (ul_6 (k := 87) (by decide +kernel) rfl)
theorem lX10_329 : Cond.methodLink RX10 329 yX10_laysSteps ∈ UL := (ul_6 (k := 91) (by decide +kernel) rfl)
theorem lX10_322 : Cond.methodLink RX10 322 yX10_isByBank ∈ UL := (ul_6 (k := 95) (by decide +kernel) rfl)
theorem lX10_319 : Cond.methodLink RX10 319 yX10_isDry ∈ UL := (ul_6 (k := 99) (by decide +kernel) rfl)
theorem lX10_326 : Cond.methodLink RX10 326 yX10_canStep ∈ UL := (ul_6 (k := 103) (by decide +kernel) rfl)
theorem lX10_340 : Cond.methodLink RX10 340 yX10_laysRows ∈ UL := (ul_6 (k := 107) (by decide +kernel) rfl)
theorem lL_71 : Cond.methodLink RL 71 yX10_driest ∈ UL := (ul_6 (k := 112) (by decide +kernel) rfl)
theorem lX10_344 : Cond.methodLink RX10 344 yX10_dryCost ∈ UL := (ul_6 (k := 116) (by decide +kernel) rfl)
theorem lL_76 : Cond.methodLink RL 76 yX10_leastStride ∈ UL := (ul_6 (k := 121) (by decide +kernel) rfl)
theorem lL_80 : Cond.methodLink RL 80 yX10_howFar ∈ UL := (ul_6 (k := 125) (by decide +kernel) rfl)
theorem lL_84 : Cond.methodLink RL 84 yX10_hold ∈ UL := (ul_6 (k := 129) (by decide +kernel) rfl)
theorem lX10_347 : Cond.methodLink RX10 347 yX10_laysRoom ∈ UL := (ul_6 (k := 133) (by decide +kernel) rfl)
theorem lX10_350 : Cond.methodLink RX10 350 yX10_goesAcross ∈ UL := (ul_6 (k := 137) (by decide +kernel) rfl)
theorem lL_88 : Cond.methodLink RL 88 yX10_oneMore ∈ UL := (ul_6 (k := 141) (by decide +kernel) rfl)
theorem lX10_353 : Cond.methodLink RX10 353 yX10_wouldDo ∈ UL := (ul_6 (k := 145) (by decide +kernel) rfl)
theorem lL_92 : Cond.methodLink RL 92 yX10_islands ∈ UL := (ul_6 (k := 149) (by decide +kernel) rfl)
theorem lX10_356 : Cond.methodLink RX10 356 yX10_laysIslands ∈ UL := (ul_6 (k := 153) (by decide +kernel) rfl)
theorem lL_96 : Cond.methodLink RL 96 yX10_key ∈ UL := (ul_6 (k := 157) (by decide +kernel) rfl)
theorem lL_101 : Cond.methodLink RL 101 yX10_meet ∈ UL := (ul_6 (k := 161) (by decide +kernel) rfl)
theorem lL_105 : Cond.methodLink RL 105 yX10_market ∈ UL := (ul_6 (k := 165) (by decide +kernel) rfl)
theorem lL_109 : Cond.methodLink RL 109 yX10_firstNight ∈ UL := (ul_6 (k := 169) (by decide +kernel) rfl)
theorem lL_114 : Cond.methodLink RL 114 yX10_walk ∈ UL := (ul_6 (k := 173) (by decide +kernel) rfl)
theorem lX10_371 : Cond.methodLink RX10 371 yX10_readsWalk ∈ UL := (ul_6 (k := 177) (by decide +kernel) rfl)
theorem lX10_365 : Cond.methodLink RX10 365 yX10_readsHops ∈ UL := (ul_6 (k := 181) (by decide +kernel) rfl)
theorem lX10_368 : Cond.methodLink RX10 368 yX10_endsRound ∈ UL := (ul_6 (k := 185) (by decide +kernel) rfl)
theorem lL_118 : Cond.methodLink RL 118 yX10_chalk ∈ UL := (ul_6 (k := 189) (by decide +kernel) rfl)
theorem lX10_383 : Cond.methodLink RX10 383 yX10_listsStones ∈ UL := (ul_6 (k := 193) (by decide +kernel) rfl)
theorem lX10_377 : Cond.methodLink RX10 377 yX10_octet ∈ UL := (ul_6 (k := 197) (by decide +kernel) rfl)
theorem lX10_387 : Cond.methodLink RX10 387 yX10_beginsRows ∈ UL := (ul_6 (k := 201) (by decide +kernel) rfl)
theorem lX10_390 : Cond.methodLink RX10 390 yX10_chalkOff ∈ UL := (ul_6 (k := 205) (by decide +kernel) rfl)
theorem lX10_380 : Cond.methodLink RX10 380 yX10_size ∈ UL := (ul_6 (k := 209) (by decide +kernel) rfl)
theorem lX10_393 : Cond.methodLink RX10 393 yX10_nextRow ∈ UL := (ul_6 (k := 212) (by decide +kernel) rfl)
theorem lX10_374 : Cond.methodLink RX10 374 yX10_changes ∈ UL := (ul_6 (k := 216) (by decide +kernel) rfl)
theorem lL_122 : Cond.methodLink RL 122 yX10_shape ∈ UL := (ul_6 (k := 220) (by decide +kernel) rfl)
theorem lX10_402 : Cond.methodLink RX10 402 yX10_mostInLine ∈ UL := (ul_6 (k := 224) (by decide +kernel) rfl)
theorem lX10_396 : Cond.methodLink RX10 396 yX10_areInLine ∈ UL := (ul_6 (k := 228) (by decide +kernel) rfl)
theorem lX10_405 : Cond.methodLink RX10 405 yX10_yardRow ∈ UL := (ul_6 (k := 232) (by decide +kernel) rfl)
theorem lX10_408 : Cond.methodLink RX10 408 yX10_pairsOf ∈ UL := (ul_6 (k := 236) (by decide +kernel) rfl)
theorem lX10_399 : Cond.methodLink RX10 399 yX10_nearestTo ∈ UL := (ul_7 (k := 0) (by decide +kernel) rfl)
theorem lX10_411 : Cond.methodLink RX10 411 yX10_closest ∈ UL := (ul_7 (k := 4) (by decide +kernel) rfl)
theorem lL_126 : Cond.methodLink RL 126 yX10_letters ∈ UL := (ul_7 (k := 8) (by decide +kernel) rfl)
theorem lL_130 : Cond.methodLink RL 130 yX10_thrown ∈ UL := (ul_7 (k := 12) (by decide +kernel) rfl)
theorem lL_134 : Cond.methodLink RL 134 yX10_seed ∈ UL := (ul_7 (k := 16) (by decide +kernel) rfl)
theorem lL_138 : Cond.methodLink RL 138 yX10_keep ∈ UL := (ul_7 (k := 21) (by decide +kernel) rfl)
theorem lL_143 : Cond.methodLink RL 143 yX10_undo ∈ UL := (ul_7 (k := 25) (by decide +kernel) rfl)
theorem lL_147 : Cond.methodLink RL 147 yX10_check ∈ UL := (ul_7 (k := 29) (by decide +kernel) rfl)
theorem lL_151 : Cond.methodLink RL 151 yX10_count ∈ UL := (ul_7 (k := 33) (by decide +kernel) rfl)
theorem mJ9_max : Cond.static Lib.Math.max.name ∈ UL ∧ Cond.initialized "java/lang/Math" ∈ UL ∧ Cond.code Lib.Math.max.name Lib.Math.max.code 2 (some .int) ∈ UL := ⟨(ul_3 (k := 1) (by decide +kernel) rfl), (ul_1 (k := 11) (by decide +kernel) rfl), (ul_3 (k := 2) (by decide +kernel) rfl)⟩
theorem mJ9_min : Cond.static Lib.Math.min.name ∈ UL ∧ Cond.initialized "java/lang/Math" ∈ UL ∧ Cond.code Lib.Math.min.name Lib.Math.min.code 2 (some .int) ∈ UL := ⟨(ul_2 (k := 238) (by decide +kernel) rfl), (ul_1 (k := 11) (by decide +kernel) rfl), (ul_2 (k := 239) (by decide +kernel) rfl)⟩
theorem mJ9_abs : Cond.static Lib.Math.abs.name ∈ UL ∧ Cond.initialized "java/lang/Math" ∈ UL ∧ Cond.code Lib.Math.abs.name Lib.Math.abs.code 1 (some .int) ∈ UL := ⟨(ul_3 (k := 85) (by decide +kernel) rfl), (ul_1 (k := 11) (by decide +kernel) rfl), (ul_3 (k := 86) (by decide +kernel) rfl)⟩
theorem kX2_55 : Cond.constant RX2 55 (65535) ∈ UL := (ul_2 (k := 208) (by decide +kernel) rfl)
theorem kX9_148 : Cond.constant RX9 148 (-100000) ∈ UL := (ul_3 (k := 18) (by decide +kernel) rfl)
theorem kX8_62 : Cond.constant RX8 62 (1000000000) ∈ UL := (ul_3 (k := 95) (by decide +kernel) rfl)
theorem kJ6_265 : Cond.constant RJ6 265 (1431655765) ∈ UL := (ul_4 (k := 70) (by decide +kernel) rfl)
theorem kJ6_266 : Cond.constant RJ6 266 (858993459) ∈ UL := (ul_4 (k := 71) (by decide +kernel) rfl)
theorem kJ6_267 : Cond.constant RJ6 267 (252645135) ∈ UL := (ul_4 (k := 72) (by decide +kernel) rfl)
theorem kX0_69 : Cond.constant RX0 69 (2147483647) ∈ UL := (ul_4 (k := 73) (by decide +kernel) rfl)
theorem kX9_326 : Cond.constant RX9 326 (2147483647) ∈ UL := (ul_4 (k := 139) (by decide +kernel) rfl)
theorem kX9_281 : Cond.constant RX9 281 (65535) ∈ UL := (ul_4 (k := 147) (by decide +kernel) rfl)
theorem kX10_191 : Cond.constant RX10 191 (1048576) ∈ UL := (ul_5 (k := 172) (by decide +kernel) rfl)
theorem kX10_283 : Cond.constant RX10 283 (65536) ∈ UL := (ul_6 (k := 19) (by decide +kernel) rfl)
theorem kX10_311 : Cond.constant RX10 311 (-100000) ∈ UL := (ul_6 (k := 60) (by decide +kernel) rfl)
theorem kX10_333 : Cond.constant RX10 333 (1000000000) ∈ UL := (ul_6 (k := 111) (by decide +kernel) rfl)
theorem kX10_343 : Cond.constant RX10 343 (1000000) ∈ UL := (ul_6 (k := 120) (by decide +kernel) rfl)
theorem kX10_414 : Cond.constant RX10 414 (65535) ∈ UL := (ul_7 (k := 20) (by decide +kernel) rfl)
end
section

/-! memory: row k, place i; a layout says what cell a row is -/
abbrev Mem : Type := Nat → Nat → Int32
def mset (M : Mem) (k i : Nat) (x : Int32) : Mem := fun a => if a = k then upd (M a) i x else M a
abbrev Lay : Type := Nat → (Nat → Int32) → va_E
def wl (n : Nat) (ad : Nat → Nat) (g : Lay) (M : Mem) : va_W := (List.range n).map (fun k => (ad k, g k (M k)))
theorem wl_len {n : Nat} {ad : Nat → Nat} {g : Lay} {M : Mem} : (wl n ad g M).length = n := by simp [wl]
theorem wl_at {n : Nat} {ad : Nat → Nat} {g : Lay} {M : Mem} {k : Nat} (h : k < n) : (wl n ad g M)[k]? = some (ad k, g k (M k)) := by simp [wl, h]
theorem mset_s {M : Mem} {k i : Nat} {x : Int32} : mset M k i x k = upd (M k) i x := by simp [mset]
theorem mset_n {M : Mem} {k i a : Nat} {x : Int32} (h : a ≠ k) : mset M k i x a = M a := by simp [mset, h]
theorem wl_set {n : Nat} {ad : Nat → Nat} {g : Lay} {M : Mem} {k i : Nat} {x : Int32} (hk : k < n) : (wl n ad g M).set k (ad k, g k (upd (M k) i x)) = wl n ad g (mset M k i x) := by
  apply List.ext_getElem?
  intro j
  by_cases hj : j = k
  · subst hj
    rw [List.getElem?_set_self (by rw [wl_len]; exact hk), wl_at hk, mset_s]
  · rw [List.getElem?_set_ne (Ne.symm hj)]
    by_cases hn : j < n
    · rw [wl_at hn, wl_at hn, mset_n hj]
    · rw [List.getElem?_eq_none (by rw [wl_len]; omega), List.getElem?_eq_none (by rw [wl_len]; omega)]
abbrev CT : Type := Program × Launch × Env × Room × State × MethodId × Array Value × List Frame × Method × Code × (State → Prop) × (Nat → Prop) × va_G × Nat × (Nat → Nat) × Lay × Nat
def V : CT → Mem → List (Nat × Value) → List Value → Nat → Prop
  | (p, l, e, R, s, m, args, below, meth, c, Q, A, D, n, ad, g, nL), M, lv, st, pc => ∀ (H : Heap) (locs : List Loc) (ls : Array Slot), va_P D cls11 (wl n ad g M) H → va_S A s.heap H locs → lv_has ls nL lv → W p l e R s m args below meth c H locs 0 0 Q (F0 m pc ls st)
def tyl (cI cZ cB : ClassId) : List (ClassId × FieldType) := [(cI, .int), (cZ, .boolean), (cB, .byte)]
def Ok (X : CT) (cc : ByteArray) (own : String) (nL n : Nat) (ad : Nat → Nat) (g : Lay) (cI cZ cB : ClassId) (d : Nat) : Prop := match X with
  | (p, l, e, R, s, m, args, below, meth, c, Q, A, D, n', ad', g', nL') => p.tables.exec = Jvm.exec ∧ c.code = cc ∧ c.maxLocals = nL ∧ s.vm.findClass own = some m.cls ∧ (∀ w ∈ UL, w.before args s = true) ∧ va_K D cls11 (tyl cI cZ cB) s ∧ (∀ M, va_D A (wl n ad g M)) ∧ n' = n ∧ ad' = ad ∧ g' = g ∧ nL' = nL ∧ (d ≤ R.frames ∧ 64 * d ≤ R.locals) ∧ (∀ q, s.heap.size ≤ q → A q) ∧ meth.locks = false
def QA (D : va_G) (n : Nat) (ad : Nat → Nat) (g : Lay) (tys : List (ClassId × FieldType)) (post : Option Value → Mem → Prop) (A : Nat → Prop) : Array Value → State → Outcome → State → Prop := fun _ st oc t =>
  (∃ (v : Option Value) (M : Mem), oc = .returned v ∧ post v M ∧ va_P D cls11 (wl n ad g M) t.heap ∧ va_K D cls11 tys t) ∧ va_F A st t
def Ret (X : CT) (ret : Option FieldType) (cI cZ cB : ClassId) (post : Option Value → Mem → Prop) : Prop := match X with
  | (p, l, e, R, s, m, args, below, meth, c, Q, A, D, n, ad, g, nL) => meth.sig.returnType = ret ∧ Q = MQ below (QA D n ad g (tyl cI cZ cB) post A) args s 0 0 A
def rmh (d : Nat) : Room := { frames := d, cells := 0, slots := 0, locals := 64 * d }
def PI (q : Int32 → Mem → Prop) : Option Value → Mem → Prop := fun v M => ∃ r : Int32, v = some (.int r) ∧ q r M
def PV (q : Mem → Prop) : Option Value → Mem → Prop := fun v M => v = none ∧ q M
/-- a method's contract at a memory -/
def AM (y : MethodName) (cc : ByteArray) (maxL : Nat) (ret : Option FieldType) (d n : Nat) (gl : (Nat → Nat) → ClassId → ClassId → ClassId → Lay) (av : (Nat → Nat) → List Value) (M : Mem) (post : Option Value → Mem → Prop) : Prop :=
  ∀ (l : Launch) (D : va_G) (cI cZ cB : ClassId) (ad : Nat → Nat) (sz : Nat), Met l y (UW y cc maxL ret) (rmh d) (va_Pc (av ad) (fun U => U.heap.size = sz ∧ va_P D cls11 (wl n ad (gl ad cI cZ cB) M) U.heap ∧ va_K D cls11 (tyl cI cZ cB) U ∧ va_D (fun _ => True) (wl n ad (gl ad cI cZ cB) M)))
    (QA D n ad (gl ad cI cZ cB) (tyl cI cZ cB) post (va_A (wl n ad (gl ad cI cZ cB) M) sz)) 0 0 (va_A (wl n ad (gl ad cI cZ cB) M) sz)
theorem wl_D {A : Nat → Prop} {n : Nat} {ad : Nat → Nat} {g : Lay} {M : Mem} (h : va_D A (wl n ad g M)) (M' : Mem) : va_D A (wl n ad g M') := by
  have key : ∀ (k : Nat) (q : Nat × va_E), (wl n ad g M')[k]? = some q → ∃ q0, (wl n ad g M)[k]? = some q0 ∧ q0.1 = q.1 := by
    intro k q hk
    have hn : k < n := by
      have := (List.getElem?_eq_some_iff.mp hk).1
      rwa [wl_len] at this
    rw [wl_at hn] at hk
    cases hk
    exact ⟨_, wl_at hn, rfl⟩
  refine ⟨fun i j x y hi hj hxy => ?_, fun k q hk => ?_⟩
  · obtain ⟨x0, h1, h2⟩ := key i x hi
    obtain ⟨y0, h3, h4⟩ := key j y hj
    exact h.1 i j x0 y0 h1 h3 (h2.trans (hxy.trans h4.symm))
  · obtain ⟨q0, h1, h2⟩ := key k q hk
    rw [← h2]
    exact h.2 k q0 h1
theorem wl_A {n : Nat} {ad : Nat → Nat} {g : Lay} {M M' : Mem} {sz q : Nat} (h : va_A (wl n ad g M) sz q) : va_A (wl n ad g M') sz q := by
  rcases h with ⟨k, e, h⟩ | h
  · have hn : k < n := by
      have := (List.getElem?_eq_some_iff.mp h).1
      rwa [wl_len] at this
    rw [wl_at hn] at h
    cases h
    exact Or.inl ⟨k, _, wl_at hn⟩
  · exact Or.inr h
theorem AM.of {y : MethodName} {cc : ByteArray} {maxL : Nat} {ret : Option FieldType} {d n : Nat} {gl : (Nat → Nat) → ClassId → ClassId → ClassId → Lay} {av : (Nat → Nat) → List Value} {M : Mem} {post : Option Value → Mem → Prop} (hy : plainName y.cls = true) (hn : ∀ ad, (lg_sl (av ad)).length ≤ maxL)
    (body : ∀ (X : CT) (ad : Nat → Nat) (cI cZ cB : ClassId), Ok X cc y.cls maxL n ad (gl ad cI cZ cB) cI cZ cB d → Ret X ret cI cZ cB post → V X M (lv_args 0 (av ad)) [] 0) : AM y cc maxL ret d n gl av M post := by
  intro l D cI cZ cB ad sz
  refine Met.ofW (cc := cc) (maxL := maxL) (ret := ret) hy rfl ?_
  intro p e s m args below meth c s₁ B hml hv
  obtain ⟨rfl, hsz, hP, hK, hD0⟩ := hv
  have hts := atoms_spec (ws := UW y cc maxL ret) B.pre
  have hown : s.vm.findClass y.cls = some m.cls := findClass_of_methodNamed B.named
  subst hsz
  have hD := hD0.self (sz := s.heap.size)
  have hl := lv_entry (av ad) (n := maxL) (hn ad)
  rw [lg_entry_eq]
  exact body (p, l, e, (headSpec (UW y cc maxL ret) (rmh d)).room, s, m, (av ad).toArray, below, meth, c, MQ below (QA D n ad (gl ad cI cZ cB) (tyl cI cZ cB) post (va_A (wl n ad (gl ad cI cZ cB) M) s.heap.size)) (av ad).toArray s 0 0 (va_A (wl n ad (gl ad cI cZ cB) M) s.heap.size), va_A (wl n ad (gl ad cI cZ cB) M) s.heap.size, D, n, ad, gl ad cI cZ cB, maxL) ad cI cZ cB
    ⟨B.exec, B.bytes, hml, hown, fun w hw => hts w (List.mem_cons_of_mem _ hw), hK, fun M' => wl_D hD M', rfl, rfl, rfl, rfl, ⟨Nat.le_refl _, Nat.le_refl _⟩, fun q h => Or.inr h, B.notSynchronized⟩ ⟨B.returns, rfl⟩ s.heap [] _ hP va_S.rf hl

set_option maxHeartbeats 1000000 in
theorem s_iconst {X : CT} {cc : ByteArray} {own : String} {nL n : Nat} {ad : Nat → Nat} {g : Lay} {cI cZ cB : ClassId} {d : Nat} {M : Mem} {lv : List (Nat × Value)} {st : List Value} {pc : Nat} (h : Ok X cc own nL n ad g cI cZ cB d) {i : Int} {v : Int32} (hd : decode cc pc = .ok (.iconst i, 1)) (hv : Int32.ofInt i = v) (k : V X M lv (.int v :: st) (pc + 1)) : V X M lv (st) pc := by
  obtain ⟨p, l, e, R, s, m, args, below, meth, c, Q, A, D, n', ad', g', nL'⟩ := X
  obtain ⟨hx, hb, hml, hown, hts, hK, hD, rfl, rfl, rfl, rfl, hroom, hA, hlk⟩ := h
  intro H locs ls hP hS hl
  exact lv_iconst hx hb hd hv (k H locs ls hP hS hl)

set_option maxHeartbeats 1000000 in
theorem s_bipush {X : CT} {cc : ByteArray} {own : String} {nL n : Nat} {ad : Nat → Nat} {g : Lay} {cI cZ cB : ClassId} {d : Nat} {M : Mem} {lv : List (Nat × Value)} {st : List Value} {pc : Nat} (h : Ok X cc own nL n ad g cI cZ cB d) {i : Int} {v : Int32} (hd : decode cc pc = .ok (.bipush i, 2)) (hv : (Int8.ofInt i).toInt32 = v) (k : V X M lv (.int v :: st) (pc + 2)) : V X M lv (st) pc := by
  obtain ⟨p, l, e, R, s, m, args, below, meth, c, Q, A, D, n', ad', g', nL'⟩ := X
  obtain ⟨hx, hb, hml, hown, hts, hK, hD, rfl, rfl, rfl, rfl, hroom, hA, hlk⟩ := h
  intro H locs ls hP hS hl
  exact lv_bipush hx hb hd hv (k H locs ls hP hS hl)

set_option maxHeartbeats 1000000 in
theorem s_sipush {X : CT} {cc : ByteArray} {own : String} {nL n : Nat} {ad : Nat → Nat} {g : Lay} {cI cZ cB : ClassId} {d : Nat} {M : Mem} {lv : List (Nat × Value)} {st : List Value} {pc : Nat} (h : Ok X cc own nL n ad g cI cZ cB d) {i : Int} {v : Int32} (hd : decode cc pc = .ok (.sipush i, 3)) (hv : (Int16.ofInt i).toInt32 = v) (k : V X M lv (.int v :: st) (pc + 3)) : V X M lv (st) pc := by
  obtain ⟨p, l, e, R, s, m, args, below, meth, c, Q, A, D, n', ad', g', nL'⟩ := X
  obtain ⟨hx, hb, hml, hown, hts, hK, hD, rfl, rfl, rfl, rfl, hroom, hA, hlk⟩ := h
  intro H locs ls hP hS hl
  exact lv_sipush hx hb hd hv (k H locs ls hP hS hl)

set_option maxHeartbeats 1000000 in
theorem s_lconst {X : CT} {cc : ByteArray} {own : String} {nL n : Nat} {ad : Nat → Nat} {g : Lay} {cI cZ cB : ClassId} {d : Nat} {M : Mem} {lv : List (Nat × Value)} {st : List Value} {pc : Nat} (h : Ok X cc own nL n ad g cI cZ cB d) {i : Fin 2} {v : Int64} (hd : decode cc pc = .ok (.lconst i, 1)) (hv : Int64.ofNat (i : Nat) = v) (k : V X M lv (.long v :: st) (pc + 1)) : V X M lv (st) pc := by
  obtain ⟨p, l, e, R, s, m, args, below, meth, c, Q, A, D, n', ad', g', nL'⟩ := X
  obtain ⟨hx, hb, hml, hown, hts, hK, hD, rfl, rfl, rfl, rfl, hroom, hA, hlk⟩ := h
  intro H locs ls hP hS hl
  exact lv_lconst hx hb hd hv (k H locs ls hP hS hl)

set_option maxHeartbeats 1000000 in
theorem s_iadd {X : CT} {cc : ByteArray} {own : String} {nL n : Nat} {ad : Nat → Nat} {g : Lay} {cI cZ cB : ClassId} {d : Nat} {M : Mem} {lv : List (Nat × Value)} {st : List Value} {pc : Nat} (h : Ok X cc own nL n ad g cI cZ cB d) {x y : Int32} (hd : decode cc pc = .ok (.iadd, 1))  (k : V X M lv (.int (x + y) :: st) (pc + 1)) : V X M lv (.int y :: .int x :: st) pc := by
  obtain ⟨p, l, e, R, s, m, args, below, meth, c, Q, A, D, n', ad', g', nL'⟩ := X
  obtain ⟨hx, hb, hml, hown, hts, hK, hD, rfl, rfl, rfl, rfl, hroom, hA, hlk⟩ := h
  intro H locs ls hP hS hl
  exact lv_iadd hx hb hd  (k H locs ls hP hS hl)

set_option maxHeartbeats 1000000 in
theorem s_isub {X : CT} {cc : ByteArray} {own : String} {nL n : Nat} {ad : Nat → Nat} {g : Lay} {cI cZ cB : ClassId} {d : Nat} {M : Mem} {lv : List (Nat × Value)} {st : List Value} {pc : Nat} (h : Ok X cc own nL n ad g cI cZ cB d) {x y : Int32} (hd : decode cc pc = .ok (.isub, 1))  (k : V X M lv (.int (x - y) :: st) (pc + 1)) : V X M lv (.int y :: .int x :: st) pc := by
  obtain ⟨p, l, e, R, s, m, args, below, meth, c, Q, A, D, n', ad', g', nL'⟩ := X
  obtain ⟨hx, hb, hml, hown, hts, hK, hD, rfl, rfl, rfl, rfl, hroom, hA, hlk⟩ := h
  intro H locs ls hP hS hl
  exact lv_isub hx hb hd  (k H locs ls hP hS hl)

set_option maxHeartbeats 1000000 in
theorem s_imul {X : CT} {cc : ByteArray} {own : String} {nL n : Nat} {ad : Nat → Nat} {g : Lay} {cI cZ cB : ClassId} {d : Nat} {M : Mem} {lv : List (Nat × Value)} {st : List Value} {pc : Nat} (h : Ok X cc own nL n ad g cI cZ cB d) {x y : Int32} (hd : decode cc pc = .ok (.imul, 1))  (k : V X M lv (.int (x * y) :: st) (pc + 1)) : V X M lv (.int y :: .int x :: st) pc := by
  obtain ⟨p, l, e, R, s, m, args, below, meth, c, Q, A, D, n', ad', g', nL'⟩ := X
  obtain ⟨hx, hb, hml, hown, hts, hK, hD, rfl, rfl, rfl, rfl, hroom, hA, hlk⟩ := h
  intro H locs ls hP hS hl
  exact lv_imul hx hb hd  (k H locs ls hP hS hl)

set_option maxHeartbeats 1000000 in
theorem s_iand {X : CT} {cc : ByteArray} {own : String} {nL n : Nat} {ad : Nat → Nat} {g : Lay} {cI cZ cB : ClassId} {d : Nat} {M : Mem} {lv : List (Nat × Value)} {st : List Value} {pc : Nat} (h : Ok X cc own nL n ad g cI cZ cB d) {x y : Int32} (hd : decode cc pc = .ok (.iand, 1))  (k : V X M lv (.int (x &&& y) :: st) (pc + 1)) : V X M lv (.int y :: .int x :: st) pc := by
  obtain ⟨p, l, e, R, s, m, args, below, meth, c, Q, A, D, n', ad', g', nL'⟩ := X
  obtain ⟨hx, hb, hml, hown, hts, hK, hD, rfl, rfl, rfl, rfl, hroom, hA, hlk⟩ := h
  intro H locs ls hP hS hl
  exact lv_iand hx hb hd  (k H locs ls hP hS hl)

set_option maxHeartbeats 1000000 in
theorem s_ior {X : CT} {cc : ByteArray} {own : String} {nL n : Nat} {ad : Nat → Nat} {g : Lay} {cI cZ cB : ClassId} {d : Nat} {M : Mem} {lv : List (Nat × Value)} {st : List Value} {pc : Nat} (h : Ok X cc own nL n ad g cI cZ cB d) {x y : Int32} (hd : decode cc pc = .ok (.ior, 1))  (k : V X M lv (.int (x ||| y) :: st) (pc + 1)) : V X M lv (.int y :: .int x :: st) pc := by
  obtain ⟨p, l, e, R, s, m, args, below, meth, c, Q, A, D, n', ad', g', nL'⟩ := X
  obtain ⟨hx, hb, hml, hown, hts, hK, hD, rfl, rfl, rfl, rfl, hroom, hA, hlk⟩ := h
  intro H locs ls hP hS hl
  exact lv_ior hx hb hd  (k H locs ls hP hS hl)

set_option maxHeartbeats 1000000 in
theorem s_ishl {X : CT} {cc : ByteArray} {own : String} {nL n : Nat} {ad : Nat → Nat} {g : Lay} {cI cZ cB : ClassId} {d : Nat} {M : Mem} {lv : List (Nat × Value)} {st : List Value} {pc : Nat} (h : Ok X cc own nL n ad g cI cZ cB d) {x y : Int32} (hd : decode cc pc = .ok (.ishl, 1))  (k : V X M lv (.int (x <<< (y &&& 31)) :: st) (pc + 1)) : V X M lv (.int y :: .int x :: st) pc := by
  obtain ⟨p, l, e, R, s, m, args, below, meth, c, Q, A, D, n', ad', g', nL'⟩ := X
  obtain ⟨hx, hb, hml, hown, hts, hK, hD, rfl, rfl, rfl, rfl, hroom, hA, hlk⟩ := h
  intro H locs ls hP hS hl
  exact lv_ishl hx hb hd  (k H locs ls hP hS hl)

set_option maxHeartbeats 1000000 in
theorem s_ishr {X : CT} {cc : ByteArray} {own : String} {nL n : Nat} {ad : Nat → Nat} {g : Lay} {cI cZ cB : ClassId} {d : Nat} {M : Mem} {lv : List (Nat × Value)} {st : List Value} {pc : Nat} (h : Ok X cc own nL n ad g cI cZ cB d) {x y : Int32} (hd : decode cc pc = .ok (.ishr, 1))  (k : V X M lv (.int (x >>> (y &&& 31)) :: st) (pc + 1)) : V X M lv (.int y :: .int x :: st) pc := by
  obtain ⟨p, l, e, R, s, m, args, below, meth, c, Q, A, D, n', ad', g', nL'⟩ := X
  obtain ⟨hx, hb, hml, hown, hts, hK, hD, rfl, rfl, rfl, rfl, hroom, hA, hlk⟩ := h
  intro H locs ls hP hS hl
  exact lv_ishr hx hb hd  (k H locs ls hP hS hl)

set_option maxHeartbeats 1000000 in
theorem s_idiv {X : CT} {cc : ByteArray} {own : String} {nL n : Nat} {ad : Nat → Nat} {g : Lay} {cI cZ cB : ClassId} {d : Nat} {M : Mem} {lv : List (Nat × Value)} {st : List Value} {pc : Nat} (h : Ok X cc own nL n ad g cI cZ cB d) {x y : Int32} (hd : decode cc pc = .ok (.idiv, 1)) (hne : ¬ y = 0) (k : V X M lv (.int (x / y) :: st) (pc + 1)) : V X M lv (.int y :: .int x :: st) pc := by
  obtain ⟨p, l, e, R, s, m, args, below, meth, c, Q, A, D, n', ad', g', nL'⟩ := X
  obtain ⟨hx, hb, hml, hown, hts, hK, hD, rfl, rfl, rfl, rfl, hroom, hA, hlk⟩ := h
  intro H locs ls hP hS hl
  exact lv_idiv hx hb hd hne (k H locs ls hP hS hl)

set_option maxHeartbeats 1000000 in
theorem s_irem {X : CT} {cc : ByteArray} {own : String} {nL n : Nat} {ad : Nat → Nat} {g : Lay} {cI cZ cB : ClassId} {d : Nat} {M : Mem} {lv : List (Nat × Value)} {st : List Value} {pc : Nat} (h : Ok X cc own nL n ad g cI cZ cB d) {x y : Int32} (hd : decode cc pc = .ok (.irem, 1)) (hne : ¬ y = 0) (k : V X M lv (.int (x - x / y * y) :: st) (pc + 1)) : V X M lv (.int y :: .int x :: st) pc := by
  obtain ⟨p, l, e, R, s, m, args, below, meth, c, Q, A, D, n', ad', g', nL'⟩ := X
  obtain ⟨hx, hb, hml, hown, hts, hK, hD, rfl, rfl, rfl, rfl, hroom, hA, hlk⟩ := h
  intro H locs ls hP hS hl
  exact lv_irem hx hb hd hne (k H locs ls hP hS hl)

set_option maxHeartbeats 1000000 in
theorem s_ineg {X : CT} {cc : ByteArray} {own : String} {nL n : Nat} {ad : Nat → Nat} {g : Lay} {cI cZ cB : ClassId} {d : Nat} {M : Mem} {lv : List (Nat × Value)} {st : List Value} {pc : Nat} (h : Ok X cc own nL n ad g cI cZ cB d) {x : Int32} (hd : decode cc pc = .ok (.ineg, 1))  (k : V X M lv (.int (-x) :: st) (pc + 1)) : V X M lv (.int x :: st) pc := by
  obtain ⟨p, l, e, R, s, m, args, below, meth, c, Q, A, D, n', ad', g', nL'⟩ := X
  obtain ⟨hx, hb, hml, hown, hts, hK, hD, rfl, rfl, rfl, rfl, hroom, hA, hlk⟩ := h
  intro H locs ls hP hS hl
  exact lv_ineg hx hb hd  (k H locs ls hP hS hl)

set_option maxHeartbeats 1000000 in
theorem s_i2b {X : CT} {cc : ByteArray} {own : String} {nL n : Nat} {ad : Nat → Nat} {g : Lay} {cI cZ cB : ClassId} {d : Nat} {M : Mem} {lv : List (Nat × Value)} {st : List Value} {pc : Nat} (h : Ok X cc own nL n ad g cI cZ cB d) {x v : Int32} (hd : decode cc pc = .ok (.i2b, 1)) (hv : x.toInt8.toInt32 = v) (k : V X M lv (.int v :: st) (pc + 1)) : V X M lv (.int x :: st) pc := by
  obtain ⟨p, l, e, R, s, m, args, below, meth, c, Q, A, D, n', ad', g', nL'⟩ := X
  obtain ⟨hx, hb, hml, hown, hts, hK, hD, rfl, rfl, rfl, rfl, hroom, hA, hlk⟩ := h
  intro H locs ls hP hS hl
  exact lv_i2b hx hb hd hv (k H locs ls hP hS hl)

set_option maxHeartbeats 1000000 in
theorem s_land {X : CT} {cc : ByteArray} {own : String} {nL n : Nat} {ad : Nat → Nat} {g : Lay} {cI cZ cB : ClassId} {d : Nat} {M : Mem} {lv : List (Nat × Value)} {st : List Value} {pc : Nat} (h : Ok X cc own nL n ad g cI cZ cB d) {x y : Int64} (hd : decode cc pc = .ok (.land, 1))  (k : V X M lv (.long (x &&& y) :: st) (pc + 1)) : V X M lv (.long y :: .long x :: st) pc := by
  obtain ⟨p, l, e, R, s, m, args, below, meth, c, Q, A, D, n', ad', g', nL'⟩ := X
  obtain ⟨hx, hb, hml, hown, hts, hK, hD, rfl, rfl, rfl, rfl, hroom, hA, hlk⟩ := h
  intro H locs ls hP hS hl
  exact lv_land hx hb hd  (k H locs ls hP hS hl)

set_option maxHeartbeats 1000000 in
theorem s_lor {X : CT} {cc : ByteArray} {own : String} {nL n : Nat} {ad : Nat → Nat} {g : Lay} {cI cZ cB : ClassId} {d : Nat} {M : Mem} {lv : List (Nat × Value)} {st : List Value} {pc : Nat} (h : Ok X cc own nL n ad g cI cZ cB d) {x y : Int64} (hd : decode cc pc = .ok (.lor, 1))  (k : V X M lv (.long (x ||| y) :: st) (pc + 1)) : V X M lv (.long y :: .long x :: st) pc := by
  obtain ⟨p, l, e, R, s, m, args, below, meth, c, Q, A, D, n', ad', g', nL'⟩ := X
  obtain ⟨hx, hb, hml, hown, hts, hK, hD, rfl, rfl, rfl, rfl, hroom, hA, hlk⟩ := h
  intro H locs ls hP hS hl
  exact lv_lor hx hb hd  (k H locs ls hP hS hl)

set_option maxHeartbeats 1000000 in
theorem s_lshl {X : CT} {cc : ByteArray} {own : String} {nL n : Nat} {ad : Nat → Nat} {g : Lay} {cI cZ cB : ClassId} {d : Nat} {M : Mem} {lv : List (Nat × Value)} {st : List Value} {pc : Nat} (h : Ok X cc own nL n ad g cI cZ cB d) {x v : Int64} {y : Int32} (hd : decode cc pc = .ok (.lshl, 1)) (hv : x <<< (y.toInt64 &&& 63) = v) (k : V X M lv (.long v :: st) (pc + 1)) : V X M lv (.int y :: .long x :: st) pc := by
  obtain ⟨p, l, e, R, s, m, args, below, meth, c, Q, A, D, n', ad', g', nL'⟩ := X
  obtain ⟨hx, hb, hml, hown, hts, hK, hD, rfl, rfl, rfl, rfl, hroom, hA, hlk⟩ := h
  intro H locs ls hP hS hl
  exact lv_lshl hx hb hd hv (k H locs ls hP hS hl)

set_option maxHeartbeats 1000000 in
theorem s_lshr {X : CT} {cc : ByteArray} {own : String} {nL n : Nat} {ad : Nat → Nat} {g : Lay} {cI cZ cB : ClassId} {d : Nat} {M : Mem} {lv : List (Nat × Value)} {st : List Value} {pc : Nat} (h : Ok X cc own nL n ad g cI cZ cB d) {x v : Int64} {y : Int32} (hd : decode cc pc = .ok (.lshr, 1)) (hv : x >>> (y.toInt64 &&& 63) = v) (k : V X M lv (.long v :: st) (pc + 1)) : V X M lv (.int y :: .long x :: st) pc := by
  obtain ⟨p, l, e, R, s, m, args, below, meth, c, Q, A, D, n', ad', g', nL'⟩ := X
  obtain ⟨hx, hb, hml, hown, hts, hK, hD, rfl, rfl, rfl, rfl, hroom, hA, hlk⟩ := h
  intro H locs ls hP hS hl
  exact lv_lshr hx hb hd hv (k H locs ls hP hS hl)

set_option maxHeartbeats 1000000 in
theorem s_lcmp {X : CT} {cc : ByteArray} {own : String} {nL n : Nat} {ad : Nat → Nat} {g : Lay} {cI cZ cB : ClassId} {d : Nat} {M : Mem} {lv : List (Nat × Value)} {st : List Value} {pc : Nat} (h : Ok X cc own nL n ad g cI cZ cB d) {x y : Int64} (hd : decode cc pc = .ok (.lcmp, 1))  (k : V X M lv (.int (lg_cmp x y) :: st) (pc + 1)) : V X M lv (.long y :: .long x :: st) pc := by
  obtain ⟨p, l, e, R, s, m, args, below, meth, c, Q, A, D, n', ad', g', nL'⟩ := X
  obtain ⟨hx, hb, hml, hown, hts, hK, hD, rfl, rfl, rfl, rfl, hroom, hA, hlk⟩ := h
  intro H locs ls hP hS hl
  exact W.lcmp hx hb hd  (k H locs ls hP hS hl)

set_option maxHeartbeats 1000000 in
theorem s_dup {X : CT} {cc : ByteArray} {own : String} {nL n : Nat} {ad : Nat → Nat} {g : Lay} {cI cZ cB : ClassId} {d : Nat} {M : Mem} {lv : List (Nat × Value)} {st : List Value} {pc : Nat} (h : Ok X cc own nL n ad g cI cZ cB d) {va : Value} (hd : decode cc pc = .ok (.dup, 1)) (hc : va.category = 1) (k : V X M lv (va :: va :: st) (pc + 1)) : V X M lv (va :: st) pc := by
  obtain ⟨p, l, e, R, s, m, args, below, meth, c, Q, A, D, n', ad', g', nL'⟩ := X
  obtain ⟨hx, hb, hml, hown, hts, hK, hD, rfl, rfl, rfl, rfl, hroom, hA, hlk⟩ := h
  intro H locs ls hP hS hl
  exact lv_dup hx hb hd hc (k H locs ls hP hS hl)

set_option maxHeartbeats 1000000 in
theorem s_pop {X : CT} {cc : ByteArray} {own : String} {nL n : Nat} {ad : Nat → Nat} {g : Lay} {cI cZ cB : ClassId} {d : Nat} {M : Mem} {lv : List (Nat × Value)} {st : List Value} {pc : Nat} (h : Ok X cc own nL n ad g cI cZ cB d) {va : Value} (hd : decode cc pc = .ok (.pop, 1)) (hc : va.category = 1) (k : V X M lv (st) (pc + 1)) : V X M lv (va :: st) pc := by
  obtain ⟨p, l, e, R, s, m, args, below, meth, c, Q, A, D, n', ad', g', nL'⟩ := X
  obtain ⟨hx, hb, hml, hown, hts, hK, hD, rfl, rfl, rfl, rfl, hroom, hA, hlk⟩ := h
  intro H locs ls hP hS hl
  exact lv_pop hx hb hd hc (k H locs ls hP hS hl)

set_option maxHeartbeats 1000000 in
theorem s_dup2 {X : CT} {cc : ByteArray} {own : String} {nL n : Nat} {ad : Nat → Nat} {g : Lay} {cI cZ cB : ClassId} {d : Nat} {M : Mem} {lv : List (Nat × Value)} {st : List Value} {pc : Nat} (h : Ok X cc own nL n ad g cI cZ cB d) {va vb : Value} (hd : decode cc pc = .ok (.dup2, 1)) (hc : va.category = 1) (hc2 : vb.category = 1) (k : V X M lv (va :: vb :: va :: vb :: st) (pc + 1)) : V X M lv (va :: vb :: st) pc := by
  obtain ⟨p, l, e, R, s, m, args, below, meth, c, Q, A, D, n', ad', g', nL'⟩ := X
  obtain ⟨hx, hb, hml, hown, hts, hK, hD, rfl, rfl, rfl, rfl, hroom, hA, hlk⟩ := h
  intro H locs ls hP hS hl
  exact lv_dup2_11 hx hb hd hc hc2 (k H locs ls hP hS hl)

set_option maxHeartbeats 1000000 in
theorem s_iload_n {X : CT} {cc : ByteArray} {own : String} {nL n : Nat} {ad : Nat → Nat} {g : Lay} {cI cZ cB : ClassId} {d : Nat} {M : Mem} {lv : List (Nat × Value)} {st : List Value} {pc : Nat} (h : Ok X cc own nL n ad g cI cZ cB d) {q : Fin 4} {i k : Nat} {x : Int32} (hd : decode cc pc = .ok (.iload_n q, 1)) (hi : (q : Nat) = i) (hk : lv[k]? = some (i, .int x)) (kk : V X M lv (.int x :: st) (pc + 1)) : V X M lv st pc := by
  obtain ⟨p, l, e, R, s, m, args, below, meth, c, Q, A, D, n', ad', g', nL'⟩ := X
  obtain ⟨hx, hb, hml, hown, hts, hK, hD, rfl, rfl, rfl, rfl, hroom, hA, hlk⟩ := h
  intro H locs ls hP hS hl
  exact lv_iload_n hx hb hd hi (lv_at hl k hk) (kk H locs ls hP hS hl)

set_option maxHeartbeats 1000000 in
theorem s_iload {X : CT} {cc : ByteArray} {own : String} {nL n : Nat} {ad : Nat → Nat} {g : Lay} {cI cZ cB : ClassId} {d : Nat} {M : Mem} {lv : List (Nat × Value)} {st : List Value} {pc : Nat} (h : Ok X cc own nL n ad g cI cZ cB d) {i k : Nat} {x : Int32} (hd : decode cc pc = .ok (.iload i, 2)) (hk : lv[k]? = some (i, .int x)) (kk : V X M lv (.int x :: st) (pc + 2)) : V X M lv st pc := by
  obtain ⟨p, l, e, R, s, m, args, below, meth, c, Q, A, D, n', ad', g', nL'⟩ := X
  obtain ⟨hx, hb, hml, hown, hts, hK, hD, rfl, rfl, rfl, rfl, hroom, hA, hlk⟩ := h
  intro H locs ls hP hS hl
  exact lv_iload hx hb hd (lv_at hl k hk) (kk H locs ls hP hS hl)

set_option maxHeartbeats 1000000 in
theorem s_lload_n {X : CT} {cc : ByteArray} {own : String} {nL n : Nat} {ad : Nat → Nat} {g : Lay} {cI cZ cB : ClassId} {d : Nat} {M : Mem} {lv : List (Nat × Value)} {st : List Value} {pc : Nat} (h : Ok X cc own nL n ad g cI cZ cB d) {q : Fin 4} {i k : Nat} {x : Int64} (hd : decode cc pc = .ok (.lload_n q, 1)) (hi : (q : Nat) = i) (hk : lv[k]? = some (i, .long x)) (kk : V X M lv (.long x :: st) (pc + 1)) : V X M lv st pc := by
  obtain ⟨p, l, e, R, s, m, args, below, meth, c, Q, A, D, n', ad', g', nL'⟩ := X
  obtain ⟨hx, hb, hml, hown, hts, hK, hD, rfl, rfl, rfl, rfl, hroom, hA, hlk⟩ := h
  intro H locs ls hP hS hl
  exact lv_lload_n hx hb hd hi (lv_at hl k hk) (kk H locs ls hP hS hl)

set_option maxHeartbeats 1000000 in
theorem s_lload {X : CT} {cc : ByteArray} {own : String} {nL n : Nat} {ad : Nat → Nat} {g : Lay} {cI cZ cB : ClassId} {d : Nat} {M : Mem} {lv : List (Nat × Value)} {st : List Value} {pc : Nat} (h : Ok X cc own nL n ad g cI cZ cB d) {i k : Nat} {x : Int64} (hd : decode cc pc = .ok (.lload i, 2)) (hk : lv[k]? = some (i, .long x)) (kk : V X M lv (.long x :: st) (pc + 2)) : V X M lv st pc := by
  obtain ⟨p, l, e, R, s, m, args, below, meth, c, Q, A, D, n', ad', g', nL'⟩ := X
  obtain ⟨hx, hb, hml, hown, hts, hK, hD, rfl, rfl, rfl, rfl, hroom, hA, hlk⟩ := h
  intro H locs ls hP hS hl
  exact lv_lload hx hb hd (lv_at hl k hk) (kk H locs ls hP hS hl)

set_option maxHeartbeats 1000000 in
theorem s_aload_n {X : CT} {cc : ByteArray} {own : String} {nL n : Nat} {ad : Nat → Nat} {g : Lay} {cI cZ cB : ClassId} {d : Nat} {M : Mem} {lv : List (Nat × Value)} {st : List Value} {pc : Nat} (h : Ok X cc own nL n ad g cI cZ cB d) {q : Fin 4} {i k : Nat} {x : Nat} (hd : decode cc pc = .ok (.aload_n q, 1)) (hi : (q : Nat) = i) (hk : lv[k]? = some (i, .ref x)) (kk : V X M lv (.ref x :: st) (pc + 1)) : V X M lv st pc := by
  obtain ⟨p, l, e, R, s, m, args, below, meth, c, Q, A, D, n', ad', g', nL'⟩ := X
  obtain ⟨hx, hb, hml, hown, hts, hK, hD, rfl, rfl, rfl, rfl, hroom, hA, hlk⟩ := h
  intro H locs ls hP hS hl
  exact lv_aload_n hx hb hd hi (lv_at hl k hk) (kk H locs ls hP hS hl)

set_option maxHeartbeats 1000000 in
theorem s_aload {X : CT} {cc : ByteArray} {own : String} {nL n : Nat} {ad : Nat → Nat} {g : Lay} {cI cZ cB : ClassId} {d : Nat} {M : Mem} {lv : List (Nat × Value)} {st : List Value} {pc : Nat} (h : Ok X cc own nL n ad g cI cZ cB d) {i k : Nat} {x : Nat} (hd : decode cc pc = .ok (.aload i, 2)) (hk : lv[k]? = some (i, .ref x)) (kk : V X M lv (.ref x :: st) (pc + 2)) : V X M lv st pc := by
  obtain ⟨p, l, e, R, s, m, args, below, meth, c, Q, A, D, n', ad', g', nL'⟩ := X
  obtain ⟨hx, hb, hml, hown, hts, hK, hD, rfl, rfl, rfl, rfl, hroom, hA, hlk⟩ := h
  intro H locs ls hP hS hl
  exact lv_aload hx hb hd (lv_at hl k hk) (kk H locs ls hP hS hl)

def lput (i : Nat) (v : Value) (lv : List (Nat × Value)) : List (Nat × Value) := lv.filter (fun q => !(q.1 == i) && !(q.1 + 1 == i && q.2.category == 2)) ++ [(i, v)]
theorem lput_has {ls : Array Slot} {nL i : Nat} {v : Value} {lv : List (Nat × Value)} (h : lv_has ls nL ((i, v) :: lv.filter (fun q => !(q.1 == i) && !(q.1 + 1 == i && q.2.category == 2)))) : lv_has ls nL (lput i v lv) := by
  refine ⟨h.1, h.2.1, fun q hq => h.2.2 q ?_⟩
  unfold lput at hq
  rcases List.mem_append.mp hq with hq | hq
  · exact List.mem_cons_of_mem _ hq
  · rw [List.mem_singleton.mp hq]
    exact List.mem_cons_self

set_option maxHeartbeats 1000000 in
theorem s_istore_n {X : CT} {cc : ByteArray} {own : String} {nL n : Nat} {ad : Nat → Nat} {g : Lay} {cI cZ cB : ClassId} {d : Nat} {M : Mem} {lv : List (Nat × Value)} {st : List Value} {pc : Nat} (h : Ok X cc own nL n ad g cI cZ cB d) {q : Fin 4} {i : Nat} {x : Int32} {lv' : List (Nat × Value)} (hd : decode cc pc = .ok (.istore_n q, 1)) (hi : (q : Nat) = i) (hn : i < nL) (hk : lput i (.int x) lv = lv') (kk : V X M lv' st (pc + 1)) : V X M lv (.int x :: st) pc := by
  obtain ⟨p, l, e, R, s, m, args, below, meth, c, Q, A, D, n', ad', g', nL'⟩ := X
  obtain ⟨hx, hb, hml, hown, hts, hK, hD, rfl, rfl, rfl, rfl, hroom, hA, hlk⟩ := h
  intro H locs ls hP hS hl
  exact lv_istore_n hx hb hd hi hl hn rfl (fun ls' hl' => kk H locs ls' hP hS (hk ▸ lput_has hl'))

set_option maxHeartbeats 1000000 in
theorem s_istore {X : CT} {cc : ByteArray} {own : String} {nL n : Nat} {ad : Nat → Nat} {g : Lay} {cI cZ cB : ClassId} {d : Nat} {M : Mem} {lv : List (Nat × Value)} {st : List Value} {pc : Nat} (h : Ok X cc own nL n ad g cI cZ cB d) {i : Nat} {x : Int32} {lv' : List (Nat × Value)} (hd : decode cc pc = .ok (.istore i, 2)) (hn : i < nL) (hk : lput i (.int x) lv = lv') (kk : V X M lv' st (pc + 2)) : V X M lv (.int x :: st) pc := by
  obtain ⟨p, l, e, R, s, m, args, below, meth, c, Q, A, D, n', ad', g', nL'⟩ := X
  obtain ⟨hx, hb, hml, hown, hts, hK, hD, rfl, rfl, rfl, rfl, hroom, hA, hlk⟩ := h
  intro H locs ls hP hS hl
  exact lv_istore hx hb hd hl hn rfl (fun ls' hl' => kk H locs ls' hP hS (hk ▸ lput_has hl'))

set_option maxHeartbeats 1000000 in
theorem s_astore_n {X : CT} {cc : ByteArray} {own : String} {nL n : Nat} {ad : Nat → Nat} {g : Lay} {cI cZ cB : ClassId} {d : Nat} {M : Mem} {lv : List (Nat × Value)} {st : List Value} {pc : Nat} (h : Ok X cc own nL n ad g cI cZ cB d) {q : Fin 4} {i : Nat} {x : Nat} {lv' : List (Nat × Value)} (hd : decode cc pc = .ok (.astore_n q, 1)) (hi : (q : Nat) = i) (hn : i < nL) (hk : lput i (.ref x) lv = lv') (kk : V X M lv' st (pc + 1)) : V X M lv (.ref x :: st) pc := by
  obtain ⟨p, l, e, R, s, m, args, below, meth, c, Q, A, D, n', ad', g', nL'⟩ := X
  obtain ⟨hx, hb, hml, hown, hts, hK, hD, rfl, rfl, rfl, rfl, hroom, hA, hlk⟩ := h
  intro H locs ls hP hS hl
  exact lv_astore_n hx hb hd hi hl hn rfl (fun ls' hl' => kk H locs ls' hP hS (hk ▸ lput_has hl'))

set_option maxHeartbeats 1000000 in
theorem s_astore {X : CT} {cc : ByteArray} {own : String} {nL n : Nat} {ad : Nat → Nat} {g : Lay} {cI cZ cB : ClassId} {d : Nat} {M : Mem} {lv : List (Nat × Value)} {st : List Value} {pc : Nat} (h : Ok X cc own nL n ad g cI cZ cB d) {i : Nat} {x : Nat} {lv' : List (Nat × Value)} (hd : decode cc pc = .ok (.astore i, 2)) (hn : i < nL) (hk : lput i (.ref x) lv = lv') (kk : V X M lv' st (pc + 2)) : V X M lv (.ref x :: st) pc := by
  obtain ⟨p, l, e, R, s, m, args, below, meth, c, Q, A, D, n', ad', g', nL'⟩ := X
  obtain ⟨hx, hb, hml, hown, hts, hK, hD, rfl, rfl, rfl, rfl, hroom, hA, hlk⟩ := h
  intro H locs ls hP hS hl
  exact lv_astore hx hb hd hl hn rfl (fun ls' hl' => kk H locs ls' hP hS (hk ▸ lput_has hl'))

set_option maxHeartbeats 1000000 in
theorem s_iinc {X : CT} {cc : ByteArray} {own : String} {nL n : Nat} {ad : Nat → Nat} {g : Lay} {cI cZ cB : ClassId} {d : Nat} {M : Mem} {lv : List (Nat × Value)} {st : List Value} {pc : Nat} (h : Ok X cc own nL n ad g cI cZ cB d) {i k : Nat} {c0 : Int} {x v : Int32} {lv' : List (Nat × Value)} (hd : decode cc pc = .ok (.iinc i c0, 3)) (hv : x + Int32.ofInt c0 = v) (hn : i < nL) (hk : lv[k]? = some (i, .int x)) (hk2 : lput i (.int v) lv = lv') (kk : V X M lv' st (pc + 3)) : V X M lv st pc := by
  obtain ⟨p, l, e, R, s, m, args, below, meth, c, Q, A, D, n', ad', g', nL'⟩ := X
  obtain ⟨hx, hb, hml, hown, hts, hK, hD, rfl, rfl, rfl, rfl, hroom, hA, hlk⟩ := h
  intro H locs ls hP hS hl
  exact lv_iinc hx hb hd hl hk hv hn rfl (fun ls' hl' => kk H locs ls' hP hS (hk2 ▸ lput_has hl'))

/-! branches -/

set_option maxHeartbeats 1000000 in
theorem s_goto {X : CT} {cc : ByteArray} {own : String} {nL n : Nat} {ad : Nat → Nat} {g : Lay} {cI cZ cB : ClassId} {d : Nat} {M : Mem} {lv : List (Nat × Value)} {st : List Value} {pc : Nat} (h : Ok X cc own nL n ad g cI cZ cB d) {off : Int} {tgt : Nat} (hd : decode cc pc = .ok (.goto off, 3)) (ht : (pc : Int) + off = (tgt : Int)) (k : V X M lv st tgt) : V X M lv st pc := by
  obtain ⟨p, l, e, R, s, m, args, below, meth, c, Q, A, D, n', ad', g', nL'⟩ := X
  obtain ⟨hx, hb, hml, hown, hts, hK, hD, rfl, rfl, rfl, rfl, hroom, hA, hlk⟩ := h
  intro H locs ls hP hS hl
  exact lv_goto hx hb hd ht (k H locs ls hP hS hl)

set_option maxHeartbeats 1000000 in
theorem s_ldc {X : CT} {cc : ByteArray} {own : String} {nL n : Nat} {ad : Nat → Nat} {g : Lay} {cI cZ cB : ClassId} {d : Nat} {M : Mem} {lv : List (Nat × Value)} {st : List Value} {pc : Nat} (h : Ok X cc own nL n ad g cI cZ cB d) {idx : Nat} {v : Int32} (hw : Cond.constant own idx v ∈ UL) (hd : decode cc pc = .ok (.ldc idx, 2)) (k : V X M lv (.int v :: st) (pc + 2)) : V X M lv st pc := by
  obtain ⟨p, l, e, R, s, m, args, below, meth, c, Q, A, D, n', ad', g', nL'⟩ := X
  obtain ⟨hx, hb, hml, hown, hts, hK, hD, rfl, rfl, rfl, rfl, hroom, hA, hlk⟩ := h
  intro H locs ls hP hS hl
  exact lv_ldc hx hb hown (hts _ hw) hd (k H locs ls hP hS hl)

set_option maxHeartbeats 1000000 in
theorem s_ldcw {X : CT} {cc : ByteArray} {own : String} {nL n : Nat} {ad : Nat → Nat} {g : Lay} {cI cZ cB : ClassId} {d : Nat} {M : Mem} {lv : List (Nat × Value)} {st : List Value} {pc : Nat} (h : Ok X cc own nL n ad g cI cZ cB d) {idx : Nat} {v : Int32} (hw : Cond.constant own idx v ∈ UL) (hd : decode cc pc = .ok (.ldc_w idx, 3)) (k : V X M lv (.int v :: st) (pc + 3)) : V X M lv st pc := by
  obtain ⟨p, l, e, R, s, m, args, below, meth, c, Q, A, D, n', ad', g', nL'⟩ := X
  obtain ⟨hx, hb, hml, hown, hts, hK, hD, rfl, rfl, rfl, rfl, hroom, hA, hlk⟩ := h
  intro H locs ls hP hS hl
  exact lv_ldcw hx hb hown (hts _ hw) hd (k H locs ls hP hS hl)

set_option maxHeartbeats 1000000 in
theorem s_tabIn {X : CT} {cc : ByteArray} {own : String} {nL n : Nat} {ad : Nat → Nat} {g : Lay} {cI cZ cB : ClassId} {d : Nat} {M : Mem} {lv : List (Nat × Value)} {st : List Value} {pc : Nat} (h : Ok X cc own nL n ad g cI cZ cB d) {dflt lo hi : Int} {offs : Array Int} {len : Nat} {x : Int32} {off : Int} {tgt : Nat} (hd : decode cc pc = .ok (.tableswitch dflt lo hi offs, len)) (h1 : ¬ x.toInt < lo) (h2 : ¬ hi < x.toInt) (ho : offs[(x.toInt - lo).toNat]? = some off) (ht : (pc : Int) + off = (tgt : Int)) (k : V X M lv st tgt) : V X M lv (.int x :: st) pc := by
  obtain ⟨p, l, e, R, s, m, args, below, meth, c, Q, A, D, n', ad', g', nL'⟩ := X
  obtain ⟨hx, hb, hml, hown, hts, hK, hD, rfl, rfl, rfl, rfl, hroom, hA, hlk⟩ := h
  intro H locs ls hP hS hl
  exact lv_tableIn hx hb hd h1 h2 ho ht (k H locs ls hP hS hl)

set_option maxHeartbeats 1000000 in
theorem s_tabOut {X : CT} {cc : ByteArray} {own : String} {nL n : Nat} {ad : Nat → Nat} {g : Lay} {cI cZ cB : ClassId} {d : Nat} {M : Mem} {lv : List (Nat × Value)} {st : List Value} {pc : Nat} (h : Ok X cc own nL n ad g cI cZ cB d) {dflt lo hi : Int} {offs : Array Int} {len : Nat} {x : Int32} {tgt : Nat} (hd : decode cc pc = .ok (.tableswitch dflt lo hi offs, len)) (h1 : x.toInt < lo ∨ hi < x.toInt) (ht : (pc : Int) + dflt = (tgt : Int)) (k : V X M lv st tgt) : V X M lv (.int x :: st) pc := by
  obtain ⟨p, l, e, R, s, m, args, below, meth, c, Q, A, D, n', ad', g', nL'⟩ := X
  obtain ⟨hx, hb, hml, hown, hts, hK, hD, rfl, rfl, rfl, rfl, hroom, hA, hlk⟩ := h
  intro H locs ls hP hS hl
  exact lv_tableOut hx hb hd h1 ht (k H locs ls hP hS hl)

set_option maxHeartbeats 1000000 in
theorem s_lookup {X : CT} {cc : ByteArray} {own : String} {nL n : Nat} {ad : Nat → Nat} {g : Lay} {cI cZ cB : ClassId} {d : Nat} {M : Mem} {lv : List (Nat × Value)} {st : List Value} {pc : Nat} (h : Ok X cc own nL n ad g cI cZ cB d) {dflt : Int} {ps : Array (Int × Int)} {len : Nat} {x : Int32} {off : Int} {tgt : Nat} (hd : decode cc pc = .ok (.lookupswitch dflt ps, len)) (hp : (ps.toList.zip (ps.toList.drop 1)).all (fun (a, next) => a.1 < next.1) = true) (ho : Op.lookupswitch.offset ps.toList dflt x.toInt = off) (ht : (pc : Int) + off = (tgt : Int)) (k : V X M lv st tgt) : V X M lv (.int x :: st) pc := by
  obtain ⟨p, l, e, R, s, m, args, below, meth, c, Q, A, D, n', ad', g', nL'⟩ := X
  obtain ⟨hx, hb, hml, hown, hts, hK, hD, rfl, rfl, rfl, rfl, hroom, hA, hlk⟩ := h
  intro H locs ls hP hS hl
  exact lv_lookup hx hb hd hp ho ht (k H locs ls hP hS hl)

/-- cell k is an array of ints (booleans, bytes) of length len -/
def IA (g : Lay) (n k : Nat) (c : ClassId) (len : Nat) : Prop := k < n ∧ ∀ f, g k f = .inl (c, len, .inl f)
/-- cell k is an object of class ci with fields fs -/
def OB (g : Lay) (n k ci : Nat) (fs : (Nat → Int32) → List Value) : Prop := k < n ∧ ∀ f, g k f = .inr (ci, fs f)
theorem IA.at {g : Lay} {n k : Nat} {c : ClassId} {len : Nat} (h : IA g n k c len) {ad : Nat → Nat} {M : Mem} : (wl n ad g M)[k]? = some (ad k, .inl (c, len, .inl (M k))) := by rw [wl_at h.1, h.2]
theorem OB.at {g : Lay} {n k ci : Nat} {fs : (Nat → Int32) → List Value} (h : OB g n k ci fs) {ad : Nat → Nat} {M : Mem} : (wl n ad g M)[k]? = some (ad k, .inr (ci, fs (M k))) := by rw [wl_at h.1, h.2]

set_option maxHeartbeats 1000000 in
theorem s_iald {X : CT} {cc : ByteArray} {own : String} {nL n : Nat} {ad : Nat → Nat} {g : Lay} {cI cZ cB : ClassId} {d : Nat} {M : Mem} {lv : List (Nat × Value)} {st : List Value} {pc : Nat} (h : Ok X cc own nL n ad g cI cZ cB d) {k len : Nat} {i : Int32} (ha : IA g n k cI len) (hin : vp_in i len) (hd : decode cc pc = .ok (.iaload, 1)) (kk : V X M lv (.int (M k i.toNatClampNeg) :: st) (pc + 1)) : V X M lv (.int i :: .ref (ad k) :: st) pc := by
  obtain ⟨p, l, e, R, s, m, args, below, meth, c, Q, A, D, n', ad', g', nL'⟩ := X
  obtain ⟨hx, hb, hml, hown, hts, hK, hD, rfl, rfl, rfl, rfl, hroom, hA, hlk⟩ := h
  intro H locs ls hP hS hl
  exact va_iald hx hb hK hP k 0 ha.at rfl hin hd (kk H locs ls hP hS hl)

set_option maxHeartbeats 1000000 in
theorem s_zald {X : CT} {cc : ByteArray} {own : String} {nL n : Nat} {ad : Nat → Nat} {g : Lay} {cI cZ cB : ClassId} {d : Nat} {M : Mem} {lv : List (Nat × Value)} {st : List Value} {pc : Nat} (h : Ok X cc own nL n ad g cI cZ cB d) {k len : Nat} {i : Int32} (ha : IA g n k cZ len) (hin : vp_in i len) (hd : decode cc pc = .ok (.baload, 1)) (kk : V X M lv (.int (M k i.toNatClampNeg) :: st) (pc + 1)) : V X M lv (.int i :: .ref (ad k) :: st) pc := by
  obtain ⟨p, l, e, R, s, m, args, below, meth, c, Q, A, D, n', ad', g', nL'⟩ := X
  obtain ⟨hx, hb, hml, hown, hts, hK, hD, rfl, rfl, rfl, rfl, hroom, hA, hlk⟩ := h
  intro H locs ls hP hS hl
  exact va_zald hx hb hK hP k 1 ha.at rfl hin hd (kk H locs ls hP hS hl)

set_option maxHeartbeats 1000000 in
theorem s_bald {X : CT} {cc : ByteArray} {own : String} {nL n : Nat} {ad : Nat → Nat} {g : Lay} {cI cZ cB : ClassId} {d : Nat} {M : Mem} {lv : List (Nat × Value)} {st : List Value} {pc : Nat} (h : Ok X cc own nL n ad g cI cZ cB d) {k len : Nat} {i : Int32} (ha : IA g n k cB len) (hin : vp_in i len) (hd : decode cc pc = .ok (.baload, 1)) (kk : V X M lv (.int (M k i.toNatClampNeg) :: st) (pc + 1)) : V X M lv (.int i :: .ref (ad k) :: st) pc := by
  obtain ⟨p, l, e, R, s, m, args, below, meth, c, Q, A, D, n', ad', g', nL'⟩ := X
  obtain ⟨hx, hb, hml, hown, hts, hK, hD, rfl, rfl, rfl, rfl, hroom, hA, hlk⟩ := h
  intro H locs ls hP hS hl
  exact va_bald hx hb hK hP k 2 ha.at rfl hin hd (kk H locs ls hP hS hl)

set_option maxHeartbeats 1000000 in
theorem s_iast {X : CT} {cc : ByteArray} {own : String} {nL n : Nat} {ad : Nat → Nat} {g : Lay} {cI cZ cB : ClassId} {d : Nat} {M : Mem} {lv : List (Nat × Value)} {st : List Value} {pc : Nat} (h : Ok X cc own nL n ad g cI cZ cB d) {k len : Nat} {i x : Int32} (ha : IA g n k cI len) (hin : vp_in i len) (hd : decode cc pc = .ok (.iastore, 1)) (kk : V X (mset M k i.toNatClampNeg x) lv st (pc + 1)) : V X M lv (.int x :: .int i :: .ref (ad k) :: st) pc := by
  obtain ⟨p, l, e, R, s, m, args, below, meth, c, Q, A, D, n', ad', g', nL'⟩ := X
  obtain ⟨hx, hb, hml, hown, hts, hK, hD, rfl, rfl, rfl, rfl, hroom, hA, hlk⟩ := h
  intro H locs ls hP hS hl
  refine va_iast hx hb hK hP (hD M) hS k 0 ha.at rfl hin hd (fun H1 locs1 hP1 hD1 hS1 => kk H1 locs1 ls ?_ hS1 hl)
  rw [← wl_set ha.1, ha.2]
  exact hP1

set_option maxHeartbeats 1000000 in
theorem s_zast {X : CT} {cc : ByteArray} {own : String} {nL n : Nat} {ad : Nat → Nat} {g : Lay} {cI cZ cB : ClassId} {d : Nat} {M : Mem} {lv : List (Nat × Value)} {st : List Value} {pc : Nat} (h : Ok X cc own nL n ad g cI cZ cB d) {k len : Nat} {i x : Int32} (ha : IA g n k cZ len) (hin : vp_in i len) (hd : decode cc pc = .ok (.bastore, 1)) (kk : V X (mset M k i.toNatClampNeg (vp_nar .boolean x)) lv st (pc + 1)) : V X M lv (.int x :: .int i :: .ref (ad k) :: st) pc := by
  obtain ⟨p, l, e, R, s, m, args, below, meth, c, Q, A, D, n', ad', g', nL'⟩ := X
  obtain ⟨hx, hb, hml, hown, hts, hK, hD, rfl, rfl, rfl, rfl, hroom, hA, hlk⟩ := h
  intro H locs ls hP hS hl
  refine va_zast hx hb hK hP (hD M) hS k 1 ha.at rfl hin hd (fun H1 locs1 hP1 hD1 hS1 => kk H1 locs1 ls ?_ hS1 hl)
  rw [← wl_set ha.1, ha.2]
  exact hP1

set_option maxHeartbeats 1000000 in
theorem s_bast {X : CT} {cc : ByteArray} {own : String} {nL n : Nat} {ad : Nat → Nat} {g : Lay} {cI cZ cB : ClassId} {d : Nat} {M : Mem} {lv : List (Nat × Value)} {st : List Value} {pc : Nat} (h : Ok X cc own nL n ad g cI cZ cB d) {k len : Nat} {i x : Int32} (ha : IA g n k cB len) (hin : vp_in i len) (hd : decode cc pc = .ok (.bastore, 1)) (kk : V X (mset M k i.toNatClampNeg (vp_nar .byte x)) lv st (pc + 1)) : V X M lv (.int x :: .int i :: .ref (ad k) :: st) pc := by
  obtain ⟨p, l, e, R, s, m, args, below, meth, c, Q, A, D, n', ad', g', nL'⟩ := X
  obtain ⟨hx, hb, hml, hown, hts, hK, hD, rfl, rfl, rfl, rfl, hroom, hA, hlk⟩ := h
  intro H locs ls hP hS hl
  refine va_bast hx hb hK hP (hD M) hS k 2 ha.at rfl hin hd (fun H1 locs1 hP1 hD1 hS1 => kk H1 locs1 ls ?_ hS1 hl)
  rw [← wl_set ha.1, ha.2]
  exact hP1

set_option maxHeartbeats 1000000 in
theorem s_ialdN {X : CT} {cc : ByteArray} {own : String} {nL n : Nat} {ad : Nat → Nat} {g : Lay} {cI cZ cB : ClassId} {d : Nat} {M : Mem} {lv : List (Nat × Value)} {st : List Value} {pc : Nat} (h : Ok X cc own nL n ad g cI cZ cB d) {k len i : Nat} (ha : IA g n k cI len) (hin : i < len) (hd : decode cc pc = .ok (.iaload, 1)) (kk : V X M lv (.int (M k i) :: st) (pc + 1)) (hlen : len < 2 ^ 31 := by decide) : V X M lv (.int (nI i) :: .ref (ad k) :: st) pc := by
  obtain ⟨p, l, e, R, s, m, args, below, meth, c, Q, A, D, n', ad', g', nL'⟩ := X
  obtain ⟨hx, hb, hml, hown, hts, hK, hD, rfl, rfl, rfl, rfl, hroom, hA, hlk⟩ := h
  intro H locs ls hP hS hl
  exact va_iald hx hb hK hP k 0 ha.at rfl (vp_in_nI hin hlen) hd (by rw [nI_clamp (Nat.lt_trans hin hlen)]; exact kk H locs ls hP hS hl)

set_option maxHeartbeats 1000000 in
theorem s_zaldN {X : CT} {cc : ByteArray} {own : String} {nL n : Nat} {ad : Nat → Nat} {g : Lay} {cI cZ cB : ClassId} {d : Nat} {M : Mem} {lv : List (Nat × Value)} {st : List Value} {pc : Nat} (h : Ok X cc own nL n ad g cI cZ cB d) {k len i : Nat} (ha : IA g n k cZ len) (hin : i < len) (hd : decode cc pc = .ok (.baload, 1)) (kk : V X M lv (.int (M k i) :: st) (pc + 1)) (hlen : len < 2 ^ 31 := by decide) : V X M lv (.int (nI i) :: .ref (ad k) :: st) pc := by
  obtain ⟨p, l, e, R, s, m, args, below, meth, c, Q, A, D, n', ad', g', nL'⟩ := X
  obtain ⟨hx, hb, hml, hown, hts, hK, hD, rfl, rfl, rfl, rfl, hroom, hA, hlk⟩ := h
  intro H locs ls hP hS hl
  exact va_zald hx hb hK hP k 1 ha.at rfl (vp_in_nI hin hlen) hd (by rw [nI_clamp (Nat.lt_trans hin hlen)]; exact kk H locs ls hP hS hl)

set_option maxHeartbeats 1000000 in
theorem s_baldN {X : CT} {cc : ByteArray} {own : String} {nL n : Nat} {ad : Nat → Nat} {g : Lay} {cI cZ cB : ClassId} {d : Nat} {M : Mem} {lv : List (Nat × Value)} {st : List Value} {pc : Nat} (h : Ok X cc own nL n ad g cI cZ cB d) {k len i : Nat} (ha : IA g n k cB len) (hin : i < len) (hd : decode cc pc = .ok (.baload, 1)) (kk : V X M lv (.int (M k i) :: st) (pc + 1)) (hlen : len < 2 ^ 31 := by decide) : V X M lv (.int (nI i) :: .ref (ad k) :: st) pc := by
  obtain ⟨p, l, e, R, s, m, args, below, meth, c, Q, A, D, n', ad', g', nL'⟩ := X
  obtain ⟨hx, hb, hml, hown, hts, hK, hD, rfl, rfl, rfl, rfl, hroom, hA, hlk⟩ := h
  intro H locs ls hP hS hl
  exact va_bald hx hb hK hP k 2 ha.at rfl (vp_in_nI hin hlen) hd (by rw [nI_clamp (Nat.lt_trans hin hlen)]; exact kk H locs ls hP hS hl)

set_option maxHeartbeats 1000000 in
theorem s_iastN {X : CT} {cc : ByteArray} {own : String} {nL n : Nat} {ad : Nat → Nat} {g : Lay} {cI cZ cB : ClassId} {d : Nat} {M : Mem} {lv : List (Nat × Value)} {st : List Value} {pc : Nat} (h : Ok X cc own nL n ad g cI cZ cB d) {k len i : Nat} {x : Int32} (ha : IA g n k cI len) (hin : i < len) (hd : decode cc pc = .ok (.iastore, 1)) (kk : V X (mset M k i x) lv st (pc + 1)) (hlen : len < 2 ^ 31 := by decide) : V X M lv (.int x :: .int (nI i) :: .ref (ad k) :: st) pc := by
  obtain ⟨p, l, e, R, s, m, args, below, meth, c, Q, A, D, n', ad', g', nL'⟩ := X
  obtain ⟨hx, hb, hml, hown, hts, hK, hD, rfl, rfl, rfl, rfl, hroom, hA, hlk⟩ := h
  intro H locs ls hP hS hl
  refine va_iast hx hb hK hP (hD M) hS k 0 ha.at rfl (vp_in_nI hin hlen) hd (fun H1 locs1 hP1 hD1 hS1 => kk H1 locs1 ls ?_ hS1 hl)
  rw [nI_clamp (Nat.lt_trans hin hlen)] at hP1
  rw [← wl_set ha.1, ha.2]
  exact hP1

set_option maxHeartbeats 1000000 in
theorem s_zastN {X : CT} {cc : ByteArray} {own : String} {nL n : Nat} {ad : Nat → Nat} {g : Lay} {cI cZ cB : ClassId} {d : Nat} {M : Mem} {lv : List (Nat × Value)} {st : List Value} {pc : Nat} (h : Ok X cc own nL n ad g cI cZ cB d) {k len i : Nat} {x : Int32} (ha : IA g n k cZ len) (hin : i < len) (hd : decode cc pc = .ok (.bastore, 1)) (kk : V X (mset M k i (vp_nar .boolean x)) lv st (pc + 1)) (hlen : len < 2 ^ 31 := by decide) : V X M lv (.int x :: .int (nI i) :: .ref (ad k) :: st) pc := by
  obtain ⟨p, l, e, R, s, m, args, below, meth, c, Q, A, D, n', ad', g', nL'⟩ := X
  obtain ⟨hx, hb, hml, hown, hts, hK, hD, rfl, rfl, rfl, rfl, hroom, hA, hlk⟩ := h
  intro H locs ls hP hS hl
  refine va_zast hx hb hK hP (hD M) hS k 1 ha.at rfl (vp_in_nI hin hlen) hd (fun H1 locs1 hP1 hD1 hS1 => kk H1 locs1 ls ?_ hS1 hl)
  rw [nI_clamp (Nat.lt_trans hin hlen)] at hP1
  rw [← wl_set ha.1, ha.2]
  exact hP1

set_option maxHeartbeats 1000000 in
theorem s_bastN {X : CT} {cc : ByteArray} {own : String} {nL n : Nat} {ad : Nat → Nat} {g : Lay} {cI cZ cB : ClassId} {d : Nat} {M : Mem} {lv : List (Nat × Value)} {st : List Value} {pc : Nat} (h : Ok X cc own nL n ad g cI cZ cB d) {k len i : Nat} {x : Int32} (ha : IA g n k cB len) (hin : i < len) (hd : decode cc pc = .ok (.bastore, 1)) (kk : V X (mset M k i (vp_nar .byte x)) lv st (pc + 1)) (hlen : len < 2 ^ 31 := by decide) : V X M lv (.int x :: .int (nI i) :: .ref (ad k) :: st) pc := by
  obtain ⟨p, l, e, R, s, m, args, below, meth, c, Q, A, D, n', ad', g', nL'⟩ := X
  obtain ⟨hx, hb, hml, hown, hts, hK, hD, rfl, rfl, rfl, rfl, hroom, hA, hlk⟩ := h
  intro H locs ls hP hS hl
  refine va_bast hx hb hK hP (hD M) hS k 2 ha.at rfl (vp_in_nI hin hlen) hd (fun H1 locs1 hP1 hD1 hS1 => kk H1 locs1 ls ?_ hS1 hl)
  rw [nI_clamp (Nat.lt_trans hin hlen)] at hP1
  rw [← wl_set ha.1, ha.2]
  exact hP1

set_option maxHeartbeats 1000000 in
theorem s_loc {X : CT} {M : Mem} {lv lv' : List (Nat × Value)} {st : List Value} {pc : Nat} (ks : List Nat) (h : lv_pick lv ks = lv') (k : V X M lv' st pc) : V X M lv st pc := by
  obtain ⟨p, l, e, R, s, m, args, below, meth, c, Q, A, D, n', ad', g', nL'⟩ := X
  intro H locs ls hP hS hl
  exact k H locs ls hP hS (lv_sub hl ks h)
set_option maxHeartbeats 1000000 in
theorem s_topr {X : CT} {M : Mem} {lv : List (Nat × Value)} {st : List Value} {pc a b : Nat} (e : a = b) (k : V X M lv (.ref b :: st) pc) : V X M lv (.ref a :: st) pc := e ▸ k
set_option maxHeartbeats 1000000 in
theorem s_alen {X : CT} {cc : ByteArray} {own : String} {nL n : Nat} {ad : Nat → Nat} {g : Lay} {cI cZ cB : ClassId} {d : Nat} {M : Mem} {lv : List (Nat × Value)} {st : List Value} {pc : Nat} (h : Ok X cc own nL n ad g cI cZ cB d) {k len : Nat} {v : Int32} (ha : IA g n k cI len) (hv : Int32.ofNat len = v) (hd : decode cc pc = .ok (.arraylength, 1)) (kk : V X M lv (.int v :: st) (pc + 1)) : V X M lv (.ref (ad k) :: st) pc := by
  obtain ⟨p, l, e, R, s, m, args, below, meth, c, Q, A, D, n', ad', g', nL'⟩ := X
  obtain ⟨hx, hb, hml, hown, hts, hK, hD, rfl, rfl, rfl, rfl, hroom, hA, hlk⟩ := h
  intro H locs ls hP hS hl
  exact va_alen hx hb hK hP k 0 ha.at rfl hv hd (kk H locs ls hP hS hl)

set_option maxHeartbeats 1000000 in
theorem s_get {X : CT} {cc : ByteArray} {own : String} {nL n : Nat} {ad : Nat → Nat} {g : Lay} {cI cZ cB : ClassId} {d : Nat} {M : Mem} {lv : List (Nat × Value)} {st : List Value} {pc : Nat} (h : Ok X cc own nL n ad g cI cZ cB d) {idx ci j k : Nat} {v : Value} {fs : (Nat → Int32) → List Value} (hf : FL own idx ci j) (ho : OB g n k ci fs) (hv : (fs (M k))[j]? = some v) (hd : decode cc pc = .ok (.getfield idx, 3)) (kk : V X M lv (v :: st) (pc + 3)) : V X M lv (.ref (ad k) :: st) pc := by
  obtain ⟨p, l, e, R, s, m, args, below, meth, c, Q, A, D, n', ad', g', nL'⟩ := X
  obtain ⟨hx, hb, hml, hown, hts, hK, hD, rfl, rfl, rfl, rfl, hroom, hA, hlk⟩ := h
  intro H locs ls hP hS hl
  obtain ⟨⟨C, T, N⟩, hc, hj, hw⟩ := hf
  exact va_get (C := C) (T := T) (N := N) hx hb hts (cls_in ci _ hc) hown hK hP k ho.at hc j hj (hts _ hw) (fun _ h9 => h9) hv hd (kk H locs ls hP hS hl)

set_option maxHeartbeats 1000000 in
theorem s_put {X : CT} {cc : ByteArray} {own : String} {nL n : Nat} {ad : Nat → Nat} {g : Lay} {cI cZ cB : ClassId} {d : Nat} {M : Mem} {lv : List (Nat × Value)} {st : List Value} {pc : Nat} (h : Ok X cc own nL n ad g cI cZ cB d) {idx ci j k : Nat} {v : Value} {x : Int32} {ty : FieldType} {fs : (Nat → Int32) → List Value} (hf : FL own idx ci j) (ho : OB g n k ci fs) (hs : (fs (M k)).set j v = fs (upd (M k) j x)) (hl0 : j < (fs (M k)).length) (hty : ∀ q : vw_C, cls11[ci]? = some q → (q.2.1 j).2.2.2 = false ∧ parseFieldDescriptor (q.2.1 j).2.2.1 = some ty) (hnr : narrow ty v = v) (hft : fits ty v = true) (hd : decode cc pc = .ok (.putfield idx, 3)) (kk : V X (mset M k j x) lv st (pc + 3)) : V X M lv (v :: .ref (ad k) :: st) pc := by
  obtain ⟨p, l, e, R, s, m, args, below, meth, c, Q, A, D, n', ad', g', nL'⟩ := X
  obtain ⟨hx, hb, hml, hown, hts, hK, hD, rfl, rfl, rfl, rfl, hroom, hA, hlk⟩ := h
  intro H locs ls hP hS hl
  obtain ⟨⟨C, T, N⟩, hc, hj, hw⟩ := hf
  obtain ⟨ty0, hty0⟩ := cls_ty ci _ hc
  refine va_put (C := C) (T := T) (N := N) hx hb hts (cls_in ci _ hc) ty0 hty0 (cls_nm ci _ hc) hown hK hP (hD M) hS k ho.at hc j hj (hts _ hw) (fun _ h9 => h9) (hty _ hc).1 (hty _ hc).2 hnr hft hl0 hd (fun H1 locs1 hP1 hD1 hS1 => kk H1 locs1 ls ?_ hS1 hl)
  rw [← wl_set ho.1, ho.2, ← hs]
  exact hP1

set_option maxHeartbeats 1000000 in
theorem s_iret {X : CT} {cc : ByteArray} {own : String} {nL n : Nat} {ad : Nat → Nat} {g : Lay} {cI cZ cB : ClassId} {d : Nat} {M : Mem} {lv : List (Nat × Value)} {pc : Nat} (h : Ok X cc own nL n ad g cI cZ cB d) {q : Int32 → Mem → Prop} {v : Int32} (hr : Ret X (some .int) cI cZ cB (PI q)) (hd : decode cc pc = .ok (.ireturn, 1)) (hp : q v M) : V X M lv [.int v] pc := by
  obtain ⟨p, l, e, R, s, m, args, below, meth, c, Q, A, D, n', ad', g', nL'⟩ := X
  obtain ⟨hx, hb, hml, hown, hts, hK, hD, rfl, rfl, rfl, rfl, hroom, hA, hlk⟩ := h
  intro H locs ls hP hS hl
  obtain ⟨hr1, rfl⟩ := hr
  exact W.iret (v := v) hx hb hr1 (fun t ht hW => ⟨⟨_, M, rfl, ⟨v, rfl, hp⟩, by rw [ht]; exact hP, va_K.moved hW.alike hK⟩, hS.F ht⟩) hS.2.2 hd hlk

set_option maxHeartbeats 1000000 in
theorem s_zret {X : CT} {cc : ByteArray} {own : String} {nL n : Nat} {ad : Nat → Nat} {g : Lay} {cI cZ cB : ClassId} {d : Nat} {M : Mem} {lv : List (Nat × Value)} {pc : Nat} (h : Ok X cc own nL n ad g cI cZ cB d) {q : Int32 → Mem → Prop} {v : Int32} (hr : Ret X (some .boolean) cI cZ cB (PI q)) (hd : decode cc pc = .ok (.ireturn, 1)) (hz : v = 0 ∨ v = 1) (hp : q v M) : V X M lv [.int v] pc := by
  obtain ⟨p, l, e, R, s, m, args, below, meth, c, Q, A, D, n', ad', g', nL'⟩ := X
  obtain ⟨hx, hb, hml, hown, hts, hK, hD, rfl, rfl, rfl, rfl, hroom, hA, hlk⟩ := h
  intro H locs ls hP hS hl
  obtain ⟨hr1, rfl⟩ := hr
  exact W.zret (v := v) hx hb hr1 (by rcases hz with rfl | rfl <;> rfl) (fun t ht hW => ⟨⟨_, M, rfl, ⟨v, rfl, hp⟩, by rw [ht]; exact hP, va_K.moved hW.alike hK⟩, hS.F ht⟩) hS.2.2 hd hlk

set_option maxHeartbeats 1000000 in
theorem s_vret {X : CT} {cc : ByteArray} {own : String} {nL n : Nat} {ad : Nat → Nat} {g : Lay} {cI cZ cB : ClassId} {d : Nat} {M : Mem} {lv : List (Nat × Value)} {pc : Nat} (h : Ok X cc own nL n ad g cI cZ cB d) {q : Mem → Prop} (hr : Ret X none cI cZ cB (PV q)) (hd : decode cc pc = .ok (.return_, 1)) (hp : q M) : V X M lv [] pc := by
  obtain ⟨p, l, e, R, s, m, args, below, meth, c, Q, A, D, n', ad', g', nL'⟩ := X
  obtain ⟨hx, hb, hml, hown, hts, hK, hD, rfl, rfl, rfl, rfl, hroom, hA, hlk⟩ := h
  intro H locs ls hP hS hl
  obtain ⟨hr1, rfl⟩ := hr
  exact W.vret hx hb hr1 (fun t ht hW => ⟨⟨_, M, rfl, ⟨rfl, hp⟩, by rw [ht]; exact hP, va_K.moved hW.alike hK⟩, hS.F ht⟩) hS.2.2 hd hlk

set_option maxHeartbeats 1000000 in
theorem s_topi {X : CT} {M : Mem} {lv : List (Nat × Value)} {st : List Value} {pc : Nat} {x : Int32} (k : ∀ y : Int32, y = x → V X M lv (.int y :: st) pc) : V X M lv (.int x :: st) pc := k x rfl
set_option maxHeartbeats 1000000 in
theorem s_mem {X : CT} {M : Mem} {lv : List (Nat × Value)} {st : List Value} {pc : Nat} (k : ∀ M' : Mem, M' = M → V X M' lv st pc) : V X M lv st pc := k M rfl
set_option maxHeartbeats 1000000 in
theorem s_top {X : CT} {M : Mem} {lv : List (Nat × Value)} {st : List Value} {pc : Nat} {x y : Int32} (e : x = y) (k : V X M lv (.int y :: st) pc) : V X M lv (.int x :: st) pc := e ▸ k
set_option maxHeartbeats 1000000 in
theorem s_if_eq {X : CT} {cc : ByteArray} {own : String} {nL n : Nat} {ad : Nat → Nat} {g : Lay} {cI cZ cB : ClassId} {d : Nat} {M : Mem} {lv : List (Nat × Value)} {st : List Value} {pc : Nat} (h : Ok X cc own nL n ad g cI cZ cB d) {x : Int32} {off : Int} {tgt : Nat} (hd : decode cc pc = .ok (.ifCond .eq off, 3)) (ht : (pc : Int) + off = (tgt : Int)) (kt : x = 0 → V X M lv st tgt) (kf : ¬ x = 0 → V X M lv st (pc + 3)) : V X M lv (.int x :: st) pc := by
  obtain ⟨p, l, e, R, s, m, args, below, meth, c, Q, A, D, n', ad', g', nL'⟩ := X
  obtain ⟨hx, hb, hml, hown, hts, hK, hD, rfl, rfl, rfl, rfl, hroom, hA, hlk⟩ := h
  intro H locs ls hP hS hl
  exact lv_if_eq hx hb hd ht (fun c => kt c H locs ls hP hS hl) (fun c => kf c H locs ls hP hS hl)

set_option maxHeartbeats 1000000 in
theorem s_icmp_eq {X : CT} {cc : ByteArray} {own : String} {nL n : Nat} {ad : Nat → Nat} {g : Lay} {cI cZ cB : ClassId} {d : Nat} {M : Mem} {lv : List (Nat × Value)} {st : List Value} {pc : Nat} (h : Ok X cc own nL n ad g cI cZ cB d) {x y : Int32} {off : Int} {tgt : Nat} (hd : decode cc pc = .ok (.if_icmp .eq off, 3)) (ht : (pc : Int) + off = (tgt : Int)) (kt : x = y → V X M lv st tgt) (kf : ¬ x = y → V X M lv st (pc + 3)) : V X M lv (.int y :: .int x :: st) pc := by
  obtain ⟨p, l, e, R, s, m, args, below, meth, c, Q, A, D, n', ad', g', nL'⟩ := X
  obtain ⟨hx, hb, hml, hown, hts, hK, hD, rfl, rfl, rfl, rfl, hroom, hA, hlk⟩ := h
  intro H locs ls hP hS hl
  exact lv_icmp_eq hx hb hd ht (fun c => kt c H locs ls hP hS hl) (fun c => kf c H locs ls hP hS hl)

set_option maxHeartbeats 1000000 in
theorem s_if_ne {X : CT} {cc : ByteArray} {own : String} {nL n : Nat} {ad : Nat → Nat} {g : Lay} {cI cZ cB : ClassId} {d : Nat} {M : Mem} {lv : List (Nat × Value)} {st : List Value} {pc : Nat} (h : Ok X cc own nL n ad g cI cZ cB d) {x : Int32} {off : Int} {tgt : Nat} (hd : decode cc pc = .ok (.ifCond .ne off, 3)) (ht : (pc : Int) + off = (tgt : Int)) (kt : ¬ x = 0 → V X M lv st tgt) (kf : x = 0 → V X M lv st (pc + 3)) : V X M lv (.int x :: st) pc := by
  obtain ⟨p, l, e, R, s, m, args, below, meth, c, Q, A, D, n', ad', g', nL'⟩ := X
  obtain ⟨hx, hb, hml, hown, hts, hK, hD, rfl, rfl, rfl, rfl, hroom, hA, hlk⟩ := h
  intro H locs ls hP hS hl
  exact lv_if_ne hx hb hd ht (fun c => kt c H locs ls hP hS hl) (fun c => kf c H locs ls hP hS hl)

set_option maxHeartbeats 1000000 in
theorem s_icmp_ne {X : CT} {cc : ByteArray} {own : String} {nL n : Nat} {ad : Nat → Nat} {g : Lay} {cI cZ cB : ClassId} {d : Nat} {M : Mem} {lv : List (Nat × Value)} {st : List Value} {pc : Nat} (h : Ok X cc own nL n ad g cI cZ cB d) {x y : Int32} {off : Int} {tgt : Nat} (hd : decode cc pc = .ok (.if_icmp .ne off, 3)) (ht : (pc : Int) + off = (tgt : Int)) (kt : ¬ x = y → V X M lv st tgt) (kf : x = y → V X M lv st (pc + 3)) : V X M lv (.int y :: .int x :: st) pc := by
  obtain ⟨p, l, e, R, s, m, args, below, meth, c, Q, A, D, n', ad', g', nL'⟩ := X
  obtain ⟨hx, hb, hml, hown, hts, hK, hD, rfl, rfl, rfl, rfl, hroom, hA, hlk⟩ := h
  intro H locs ls hP hS hl
  exact lv_icmp_ne hx hb hd ht (fun c => kt c H locs ls hP hS hl) (fun c => kf c H locs ls hP hS hl)

set_option maxHeartbeats 1000000 in
theorem s_if_lt {X : CT} {cc : ByteArray} {own : String} {nL n : Nat} {ad : Nat → Nat} {g : Lay} {cI cZ cB : ClassId} {d : Nat} {M : Mem} {lv : List (Nat × Value)} {st : List Value} {pc : Nat} (h : Ok X cc own nL n ad g cI cZ cB d) {x : Int32} {off : Int} {tgt : Nat} (hd : decode cc pc = .ok (.ifCond .lt off, 3)) (ht : (pc : Int) + off = (tgt : Int)) (kt : x < 0 → V X M lv st tgt) (kf : ¬ x < 0 → V X M lv st (pc + 3)) : V X M lv (.int x :: st) pc := by
  obtain ⟨p, l, e, R, s, m, args, below, meth, c, Q, A, D, n', ad', g', nL'⟩ := X
  obtain ⟨hx, hb, hml, hown, hts, hK, hD, rfl, rfl, rfl, rfl, hroom, hA, hlk⟩ := h
  intro H locs ls hP hS hl
  exact lv_if_lt hx hb hd ht (fun c => kt c H locs ls hP hS hl) (fun c => kf c H locs ls hP hS hl)

set_option maxHeartbeats 1000000 in
theorem s_icmp_lt {X : CT} {cc : ByteArray} {own : String} {nL n : Nat} {ad : Nat → Nat} {g : Lay} {cI cZ cB : ClassId} {d : Nat} {M : Mem} {lv : List (Nat × Value)} {st : List Value} {pc : Nat} (h : Ok X cc own nL n ad g cI cZ cB d) {x y : Int32} {off : Int} {tgt : Nat} (hd : decode cc pc = .ok (.if_icmp .lt off, 3)) (ht : (pc : Int) + off = (tgt : Int)) (kt : x < y → V X M lv st tgt) (kf : ¬ x < y → V X M lv st (pc + 3)) : V X M lv (.int y :: .int x :: st) pc := by
  obtain ⟨p, l, e, R, s, m, args, below, meth, c, Q, A, D, n', ad', g', nL'⟩ := X
  obtain ⟨hx, hb, hml, hown, hts, hK, hD, rfl, rfl, rfl, rfl, hroom, hA, hlk⟩ := h
  intro H locs ls hP hS hl
  exact lv_icmp_lt hx hb hd ht (fun c => kt c H locs ls hP hS hl) (fun c => kf c H locs ls hP hS hl)

set_option maxHeartbeats 1000000 in
theorem s_if_ge {X : CT} {cc : ByteArray} {own : String} {nL n : Nat} {ad : Nat → Nat} {g : Lay} {cI cZ cB : ClassId} {d : Nat} {M : Mem} {lv : List (Nat × Value)} {st : List Value} {pc : Nat} (h : Ok X cc own nL n ad g cI cZ cB d) {x : Int32} {off : Int} {tgt : Nat} (hd : decode cc pc = .ok (.ifCond .ge off, 3)) (ht : (pc : Int) + off = (tgt : Int)) (kt : 0 ≤ x → V X M lv st tgt) (kf : ¬ 0 ≤ x → V X M lv st (pc + 3)) : V X M lv (.int x :: st) pc := by
  obtain ⟨p, l, e, R, s, m, args, below, meth, c, Q, A, D, n', ad', g', nL'⟩ := X
  obtain ⟨hx, hb, hml, hown, hts, hK, hD, rfl, rfl, rfl, rfl, hroom, hA, hlk⟩ := h
  intro H locs ls hP hS hl
  exact lv_if_ge hx hb hd ht (fun c => kt c H locs ls hP hS hl) (fun c => kf c H locs ls hP hS hl)

set_option maxHeartbeats 1000000 in
theorem s_icmp_ge {X : CT} {cc : ByteArray} {own : String} {nL n : Nat} {ad : Nat → Nat} {g : Lay} {cI cZ cB : ClassId} {d : Nat} {M : Mem} {lv : List (Nat × Value)} {st : List Value} {pc : Nat} (h : Ok X cc own nL n ad g cI cZ cB d) {x y : Int32} {off : Int} {tgt : Nat} (hd : decode cc pc = .ok (.if_icmp .ge off, 3)) (ht : (pc : Int) + off = (tgt : Int)) (kt : y ≤ x → V X M lv st tgt) (kf : ¬ y ≤ x → V X M lv st (pc + 3)) : V X M lv (.int y :: .int x :: st) pc := by
  obtain ⟨p, l, e, R, s, m, args, below, meth, c, Q, A, D, n', ad', g', nL'⟩ := X
  obtain ⟨hx, hb, hml, hown, hts, hK, hD, rfl, rfl, rfl, rfl, hroom, hA, hlk⟩ := h
  intro H locs ls hP hS hl
  exact lv_icmp_ge hx hb hd ht (fun c => kt c H locs ls hP hS hl) (fun c => kf c H locs ls hP hS hl)

set_option maxHeartbeats 1000000 in
theorem s_if_gt {X : CT} {cc : ByteArray} {own : String} {nL n : Nat} {ad : Nat → Nat} {g : Lay} {cI cZ cB : ClassId} {d : Nat} {M : Mem} {lv : List (Nat × Value)} {st : List Value} {pc : Nat} (h : Ok X cc own nL n ad g cI cZ cB d) {x : Int32} {off : Int} {tgt : Nat} (hd : decode cc pc = .ok (.ifCond .gt off, 3)) (ht : (pc : Int) + off = (tgt : Int)) (kt : 0 < x → V X M lv st tgt) (kf : ¬ 0 < x → V X M lv st (pc + 3)) : V X M lv (.int x :: st) pc := by
  obtain ⟨p, l, e, R, s, m, args, below, meth, c, Q, A, D, n', ad', g', nL'⟩ := X
  obtain ⟨hx, hb, hml, hown, hts, hK, hD, rfl, rfl, rfl, rfl, hroom, hA, hlk⟩ := h
  intro H locs ls hP hS hl
  exact lv_if_gt hx hb hd ht (fun c => kt c H locs ls hP hS hl) (fun c => kf c H locs ls hP hS hl)

set_option maxHeartbeats 1000000 in
theorem s_icmp_gt {X : CT} {cc : ByteArray} {own : String} {nL n : Nat} {ad : Nat → Nat} {g : Lay} {cI cZ cB : ClassId} {d : Nat} {M : Mem} {lv : List (Nat × Value)} {st : List Value} {pc : Nat} (h : Ok X cc own nL n ad g cI cZ cB d) {x y : Int32} {off : Int} {tgt : Nat} (hd : decode cc pc = .ok (.if_icmp .gt off, 3)) (ht : (pc : Int) + off = (tgt : Int)) (kt : y < x → V X M lv st tgt) (kf : ¬ y < x → V X M lv st (pc + 3)) : V X M lv (.int y :: .int x :: st) pc := by
  obtain ⟨p, l, e, R, s, m, args, below, meth, c, Q, A, D, n', ad', g', nL'⟩ := X
  obtain ⟨hx, hb, hml, hown, hts, hK, hD, rfl, rfl, rfl, rfl, hroom, hA, hlk⟩ := h
  intro H locs ls hP hS hl
  exact lv_icmp_gt hx hb hd ht (fun c => kt c H locs ls hP hS hl) (fun c => kf c H locs ls hP hS hl)

set_option maxHeartbeats 1000000 in
theorem s_if_le {X : CT} {cc : ByteArray} {own : String} {nL n : Nat} {ad : Nat → Nat} {g : Lay} {cI cZ cB : ClassId} {d : Nat} {M : Mem} {lv : List (Nat × Value)} {st : List Value} {pc : Nat} (h : Ok X cc own nL n ad g cI cZ cB d) {x : Int32} {off : Int} {tgt : Nat} (hd : decode cc pc = .ok (.ifCond .le off, 3)) (ht : (pc : Int) + off = (tgt : Int)) (kt : x ≤ 0 → V X M lv st tgt) (kf : ¬ x ≤ 0 → V X M lv st (pc + 3)) : V X M lv (.int x :: st) pc := by
  obtain ⟨p, l, e, R, s, m, args, below, meth, c, Q, A, D, n', ad', g', nL'⟩ := X
  obtain ⟨hx, hb, hml, hown, hts, hK, hD, rfl, rfl, rfl, rfl, hroom, hA, hlk⟩ := h
  intro H locs ls hP hS hl
  exact lv_if_le hx hb hd ht (fun c => kt c H locs ls hP hS hl) (fun c => kf c H locs ls hP hS hl)

set_option maxHeartbeats 1000000 in
theorem s_icmp_le {X : CT} {cc : ByteArray} {own : String} {nL n : Nat} {ad : Nat → Nat} {g : Lay} {cI cZ cB : ClassId} {d : Nat} {M : Mem} {lv : List (Nat × Value)} {st : List Value} {pc : Nat} (h : Ok X cc own nL n ad g cI cZ cB d) {x y : Int32} {off : Int} {tgt : Nat} (hd : decode cc pc = .ok (.if_icmp .le off, 3)) (ht : (pc : Int) + off = (tgt : Int)) (kt : x ≤ y → V X M lv st tgt) (kf : ¬ x ≤ y → V X M lv st (pc + 3)) : V X M lv (.int y :: .int x :: st) pc := by
  obtain ⟨p, l, e, R, s, m, args, below, meth, c, Q, A, D, n', ad', g', nL'⟩ := X
  obtain ⟨hx, hb, hml, hown, hts, hK, hD, rfl, rfl, rfl, rfl, hroom, hA, hlk⟩ := h
  intro H locs ls hP hS hl
  exact lv_icmp_le hx hb hd ht (fun c => kt c H locs ls hP hS hl) (fun c => kf c H locs ls hP hS hl)

set_option maxHeartbeats 1000000 in
theorem s_callVi {X : CT} {cc : ByteArray} {own : String} {nL n : Nat} {ad : Nat → Nat} {cI cZ cB : ClassId} {d : Nat} {M : Mem} {lv : List (Nat × Value)} {st : List Value} {pc : Nat} {gl : (Nat → Nat) → ClassId → ClassId → ClassId → Lay}  {y : MethodName} {ccy : ByteArray} {maxL : Nat} {ret : Option FieldType} {dy idx nA : Nat} {av : (Nat → Nat) → List Value} {q : Int32 → Mem → Prop} {stk : List Value} (h : Ok X cc own nL n ad (gl ad cI cZ cB) cI cZ cB d) (hM : AM y ccy maxL ret dy n gl av M (PI q)) (hmw : MV y ccy maxL ret nA) (hml0 : Cond.methodLink own idx y ∈ UL) (hdy : dy < d) (hmx : maxL ≤ 40) {k ci : Nat} {qc : vw_C} {fs : (Nat → Int32) → List Value} {As : List Value} (ho : OB (gl ad cI cZ cB) n k ci fs) (hc : cls11[ci]? = some qc) (hq : qc.1 = y.cls) (hav : av ad = .ref (ad k) :: As) (hn : As.length = nA) (hs : stk = (av ad).reverse ++ st) (hst : (st.map fun v => v.category).sum ≤ 8) (hd : decode cc pc = .ok (.invokevirtual idx, 3)) (kk : ∀ (r : Int32) (M' : Mem), q r M' → V X M' lv (.int r :: st) (pc + 3)) : V X M lv stk pc := by
  subst hs
  obtain ⟨p, l, e, R, s, m, args, below, meth, c, Q, A, D, n', ad', g', nL'⟩ := X
  obtain ⟨hx, hb, hml, hown, hts, hK, hD, rfl, rfl, rfl, rfl, hroom, hA, hlk⟩ := h
  intro H locs ls hP hS hlv
  have hF : ∀ q, va_A (wl n' ad' (gl ad' cI cZ cB) M) H.size q → A q := by
    intro q h
    rcases h with ⟨k2, e2, h⟩ | h
    · exact (hD M).2 k2 (q, e2) h
    · exact hA q (Nat.le_trans hS.1 h)
  have hrun := va_runV (As := As) (b := ad' k) (rest := st) (C := y.cls) (g := F0 m pc ls ((av ad').reverse ++ st)) (H := H) (locs := locs) (cells := 0) (slots := 0) (e := e) (below := below) (meth := meth) ⟨hx, hb, hml, hown, hts⟩ (hM l D cI cZ cB ad' H.size) (cwV nA hts (wl_gi (mlv_gi hmw hml0)) rfl rfl rfl ⟨rfl, hmw.2⟩ ⟨by show dy + 1 ≤ R.frames; omega, by show 8 + (maxL + 11) + 64 * dy ≤ R.locals; omega⟩) ⟨fun a U g mk q => by obtain ⟨q0, q1, qP, qK, qD⟩ := q; exact ⟨q0, q1, qP, va_K.moved (u := U) (U := U.calling g mk a) (Vm.Alike.refl U.vm) qK, qD⟩, by have hr9 := va_recv hK hP hc ho.at; rw [hq] at hr9; exact hr9, fun U hU hW => ⟨by rw [hav], by rw [hU], by rw [hU]; exact hP, va_K.moved hW.alike hK, (hD M).weaken (fun _ _ _ _ => trivial)⟩⟩ rfl hn hlv.1 (by rw [hav]; simp) (lv_room hst) hd ⟨Nat.zero_le _, Nat.zero_le _⟩
  intro T hT X0
  obtain ⟨v, st₀, t, T', L, h0, X', hL, e1, e2, ⟨⟨v1, M1, hv, hp, hP1, hK1⟩, hz, hk9⟩, stp⟩ := hrun T hT X0
  cases hv
  obtain ⟨r, rfl, hq9⟩ := hp
  rw [h0] at hz hk9
  obtain ⟨t2, a1, b1⟩ := kk r M1 hq9 T'.heap (locs ++ L) ls (by rw [e1]; exact hP1)
    ⟨Nat.le_trans hS.1 (by rw [e1]; exact hz), fun q h1 h2 => by rw [e1, hk9 q (Nat.lt_of_lt_of_le h1 hS.1) (fun z => h2 (hF q z))]; exact hS.2.1 q h1 h2, fun q hq => by
      rcases List.mem_append.mp hq with h | h
      · exact hS.2.2 q h
      · exact hF _ (hL q h)⟩ hlv T' rfl X'
  exact ⟨t2, stp t2 a1, b1⟩

set_option maxHeartbeats 1000000 in
theorem s_callVv {X : CT} {cc : ByteArray} {own : String} {nL n : Nat} {ad : Nat → Nat} {cI cZ cB : ClassId} {d : Nat} {M : Mem} {lv : List (Nat × Value)} {st : List Value} {pc : Nat} {gl : (Nat → Nat) → ClassId → ClassId → ClassId → Lay}  {y : MethodName} {ccy : ByteArray} {maxL : Nat} {ret : Option FieldType} {dy idx nA : Nat} {av : (Nat → Nat) → List Value} {q : Mem → Prop} {stk : List Value} (h : Ok X cc own nL n ad (gl ad cI cZ cB) cI cZ cB d) (hM : AM y ccy maxL ret dy n gl av M (PV q)) (hmw : MV y ccy maxL ret nA) (hml0 : Cond.methodLink own idx y ∈ UL) (hdy : dy < d) (hmx : maxL ≤ 40) {k ci : Nat} {qc : vw_C} {fs : (Nat → Int32) → List Value} {As : List Value} (ho : OB (gl ad cI cZ cB) n k ci fs) (hc : cls11[ci]? = some qc) (hq : qc.1 = y.cls) (hav : av ad = .ref (ad k) :: As) (hn : As.length = nA) (hs : stk = (av ad).reverse ++ st) (hst : (st.map fun v => v.category).sum ≤ 8) (hd : decode cc pc = .ok (.invokevirtual idx, 3)) (kk : ∀ (M' : Mem), q M' → V X M' lv st (pc + 3)) : V X M lv stk pc := by
  subst hs
  obtain ⟨p, l, e, R, s, m, args, below, meth, c, Q, A, D, n', ad', g', nL'⟩ := X
  obtain ⟨hx, hb, hml, hown, hts, hK, hD, rfl, rfl, rfl, rfl, hroom, hA, hlk⟩ := h
  intro H locs ls hP hS hlv
  have hF : ∀ q, va_A (wl n' ad' (gl ad' cI cZ cB) M) H.size q → A q := by
    intro q h
    rcases h with ⟨k2, e2, h⟩ | h
    · exact (hD M).2 k2 (q, e2) h
    · exact hA q (Nat.le_trans hS.1 h)
  have hrun := va_runV (As := As) (b := ad' k) (rest := st) (C := y.cls) (g := F0 m pc ls ((av ad').reverse ++ st)) (H := H) (locs := locs) (cells := 0) (slots := 0) (e := e) (below := below) (meth := meth) ⟨hx, hb, hml, hown, hts⟩ (hM l D cI cZ cB ad' H.size) (cwV nA hts (wl_gi (mlv_gi hmw hml0)) rfl rfl rfl ⟨rfl, hmw.2⟩ ⟨by show dy + 1 ≤ R.frames; omega, by show 8 + (maxL + 11) + 64 * dy ≤ R.locals; omega⟩) ⟨fun a U g mk q => by obtain ⟨q0, q1, qP, qK, qD⟩ := q; exact ⟨q0, q1, qP, va_K.moved (u := U) (U := U.calling g mk a) (Vm.Alike.refl U.vm) qK, qD⟩, by have hr9 := va_recv hK hP hc ho.at; rw [hq] at hr9; exact hr9, fun U hU hW => ⟨by rw [hav], by rw [hU], by rw [hU]; exact hP, va_K.moved hW.alike hK, (hD M).weaken (fun _ _ _ _ => trivial)⟩⟩ rfl hn hlv.1 (by rw [hav]; simp) (lv_room hst) hd ⟨Nat.zero_le _, Nat.zero_le _⟩
  intro T hT X0
  obtain ⟨v, st₀, t, T', L, h0, X', hL, e1, e2, ⟨⟨v1, M1, hv, hp, hP1, hK1⟩, hz, hk9⟩, stp⟩ := hrun T hT X0
  cases hv
  obtain ⟨rfl, hq9⟩ := hp
  rw [h0] at hz hk9
  obtain ⟨t2, a1, b1⟩ := kk M1 hq9 T'.heap (locs ++ L) ls (by rw [e1]; exact hP1)
    ⟨Nat.le_trans hS.1 (by rw [e1]; exact hz), fun q h1 h2 => by rw [e1, hk9 q (Nat.lt_of_lt_of_le h1 hS.1) (fun z => h2 (hF q z))]; exact hS.2.1 q h1 h2, fun q hq => by
      rcases List.mem_append.mp hq with h | h
      · exact hS.2.2 q h
      · exact hF _ (hL q h)⟩ hlv T' rfl X'
  exact ⟨t2, stp t2 a1, b1⟩

set_option maxHeartbeats 1000000 in
theorem s_callSi {X : CT} {cc : ByteArray} {own : String} {nL n : Nat} {ad : Nat → Nat} {cI cZ cB : ClassId} {d : Nat} {M : Mem} {lv : List (Nat × Value)} {st : List Value} {pc : Nat} {gl : (Nat → Nat) → ClassId → ClassId → ClassId → Lay}  {y : MethodName} {ccy : ByteArray} {maxL : Nat} {ret : Option FieldType} {dy idx nA : Nat} {av : (Nat → Nat) → List Value} {q : Int32 → Mem → Prop} {stk : List Value} (h : Ok X cc own nL n ad (gl ad cI cZ cB) cI cZ cB d) (hM : AM y ccy maxL ret dy n gl av M (PI q)) (hmw : MS y ccy maxL ret nA) (hml0 : Cond.methodLink own idx y ∈ UL) (hdy : dy < d) (hmx : maxL ≤ 40) (hn : (av ad).length = nA) (hs : stk = (av ad).reverse ++ st) (hst : (st.map fun v => v.category).sum ≤ 8) (hd : decode cc pc = .ok (.invokestatic idx, 3)) (kk : ∀ (r : Int32) (M' : Mem), q r M' → V X M' lv (.int r :: st) (pc + 3)) : V X M lv stk pc := by
  subst hs
  obtain ⟨p, l, e, R, s, m, args, below, meth, c, Q, A, D, n', ad', g', nL'⟩ := X
  obtain ⟨hx, hb, hml, hown, hts, hK, hD, rfl, rfl, rfl, rfl, hroom, hA, hlk⟩ := h
  intro H locs ls hP hS hlv
  have hF : ∀ q, va_A (wl n' ad' (gl ad' cI cZ cB) M) H.size q → A q := by
    intro q h
    rcases h with ⟨k2, e2, h⟩ | h
    · exact (hD M).2 k2 (q, e2) h
    · exact hA q (Nat.le_trans hS.1 h)
  have hrun := va_runS (As := av ad') (rest := st) (g := F0 m pc ls ((av ad').reverse ++ st)) (H := H) (locs := locs) (cells := 0) (slots := 0) (e := e) (below := below) (meth := meth) ⟨hx, hb, hml, hown, hts⟩ (hM l D cI cZ cB ad' H.size) (va_cwS nA hts (wl_gi (mls_gi hmw hml0)) rfl rfl rfl hmw.2 ⟨by show dy + 1 ≤ R.frames; omega, by show 8 + (maxL + 11) + 64 * dy ≤ R.locals; omega⟩) ⟨fun a U g mk q => by obtain ⟨q0, q1, qP, qK, qD⟩ := q; exact ⟨q0, q1, qP, va_K.moved (u := U) (U := U.calling g mk a) (Vm.Alike.refl U.vm) qK, qD⟩, fun U hU hW => ⟨rfl, by rw [hU], by rw [hU]; exact hP, va_K.moved hW.alike hK, (hD M).weaken (fun _ _ _ _ => trivial)⟩⟩ rfl hn hlv.1 rfl (lv_room hst) hd ⟨Nat.zero_le _, Nat.zero_le _⟩
  intro T hT X0
  obtain ⟨v, st₀, t, T', L, h0, X', hL, e1, e2, ⟨⟨v1, M1, hv, hp, hP1, hK1⟩, hz, hk9⟩, stp⟩ := hrun T hT X0
  cases hv
  obtain ⟨r, rfl, hq9⟩ := hp
  rw [h0] at hz hk9
  obtain ⟨t2, a1, b1⟩ := kk r M1 hq9 T'.heap (locs ++ L) ls (by rw [e1]; exact hP1)
    ⟨Nat.le_trans hS.1 (by rw [e1]; exact hz), fun q h1 h2 => by rw [e1, hk9 q (Nat.lt_of_lt_of_le h1 hS.1) (fun z => h2 (hF q z))]; exact hS.2.1 q h1 h2, fun q hq => by
      rcases List.mem_append.mp hq with h | h
      · exact hS.2.2 q h
      · exact hF _ (hL q h)⟩ hlv T' rfl X'
  exact ⟨t2, stp t2 a1, b1⟩

set_option maxHeartbeats 1000000 in
theorem s_callSv {X : CT} {cc : ByteArray} {own : String} {nL n : Nat} {ad : Nat → Nat} {cI cZ cB : ClassId} {d : Nat} {M : Mem} {lv : List (Nat × Value)} {st : List Value} {pc : Nat} {gl : (Nat → Nat) → ClassId → ClassId → ClassId → Lay}  {y : MethodName} {ccy : ByteArray} {maxL : Nat} {ret : Option FieldType} {dy idx nA : Nat} {av : (Nat → Nat) → List Value} {q : Mem → Prop} {stk : List Value} (h : Ok X cc own nL n ad (gl ad cI cZ cB) cI cZ cB d) (hM : AM y ccy maxL ret dy n gl av M (PV q)) (hmw : MS y ccy maxL ret nA) (hml0 : Cond.methodLink own idx y ∈ UL) (hdy : dy < d) (hmx : maxL ≤ 40) (hn : (av ad).length = nA) (hs : stk = (av ad).reverse ++ st) (hst : (st.map fun v => v.category).sum ≤ 8) (hd : decode cc pc = .ok (.invokestatic idx, 3)) (kk : ∀ (M' : Mem), q M' → V X M' lv st (pc + 3)) : V X M lv stk pc := by
  subst hs
  obtain ⟨p, l, e, R, s, m, args, below, meth, c, Q, A, D, n', ad', g', nL'⟩ := X
  obtain ⟨hx, hb, hml, hown, hts, hK, hD, rfl, rfl, rfl, rfl, hroom, hA, hlk⟩ := h
  intro H locs ls hP hS hlv
  have hF : ∀ q, va_A (wl n' ad' (gl ad' cI cZ cB) M) H.size q → A q := by
    intro q h
    rcases h with ⟨k2, e2, h⟩ | h
    · exact (hD M).2 k2 (q, e2) h
    · exact hA q (Nat.le_trans hS.1 h)
  have hrun := va_runS (As := av ad') (rest := st) (g := F0 m pc ls ((av ad').reverse ++ st)) (H := H) (locs := locs) (cells := 0) (slots := 0) (e := e) (below := below) (meth := meth) ⟨hx, hb, hml, hown, hts⟩ (hM l D cI cZ cB ad' H.size) (va_cwS nA hts (wl_gi (mls_gi hmw hml0)) rfl rfl rfl hmw.2 ⟨by show dy + 1 ≤ R.frames; omega, by show 8 + (maxL + 11) + 64 * dy ≤ R.locals; omega⟩) ⟨fun a U g mk q => by obtain ⟨q0, q1, qP, qK, qD⟩ := q; exact ⟨q0, q1, qP, va_K.moved (u := U) (U := U.calling g mk a) (Vm.Alike.refl U.vm) qK, qD⟩, fun U hU hW => ⟨rfl, by rw [hU], by rw [hU]; exact hP, va_K.moved hW.alike hK, (hD M).weaken (fun _ _ _ _ => trivial)⟩⟩ rfl hn hlv.1 rfl (lv_room hst) hd ⟨Nat.zero_le _, Nat.zero_le _⟩
  intro T hT X0
  obtain ⟨v, st₀, t, T', L, h0, X', hL, e1, e2, ⟨⟨v1, M1, hv, hp, hP1, hK1⟩, hz, hk9⟩, stp⟩ := hrun T hT X0
  cases hv
  obtain ⟨rfl, hq9⟩ := hp
  rw [h0] at hz hk9
  obtain ⟨t2, a1, b1⟩ := kk M1 hq9 T'.heap (locs ++ L) ls (by rw [e1]; exact hP1)
    ⟨Nat.le_trans hS.1 (by rw [e1]; exact hz), fun q h1 h2 => by rw [e1, hk9 q (Nat.lt_of_lt_of_le h1 hS.1) (fun z => h2 (hF q z))]; exact hS.2.1 q h1 h2, fun q hq => by
      rcases List.mem_append.mp hq with h | h
      · exact hS.2.2 q h
      · exact hF _ (hL q h)⟩ hlv T' rfl X'
  exact ⟨t2, stp t2 a1, b1⟩

set_option maxHeartbeats 1000000 in
theorem s_mmax {X : CT} {cc : ByteArray} {own : String} {nL n : Nat} {ad : Nat → Nat} {g : Lay} {cI cZ cB : ClassId} {d : Nat} {M : Mem} {lv : List (Nat × Value)} {st : List Value} {pc : Nat} (h : Ok X cc own nL n ad g cI cZ cB d) {idx : Nat} {x y : Int32} (hw : Cond.methodLink own idx Lib.Math.max.name ∈ UL) (hw2 : Cond.static Lib.Math.max.name ∈ UL ∧ Cond.initialized "java/lang/Math" ∈ UL ∧ Cond.code Lib.Math.max.name Lib.Math.max.code 2 (some .int) ∈ UL) (hd1 : 1 ≤ d) (hst : (st.map fun v => v.category).sum ≤ 8) (hd : decode cc pc = .ok (.invokestatic idx, 3)) (kk : V X M lv (.int (if x < y then y else x) :: st) (pc + 3)) : V X M lv (.int y :: .int x :: st) pc := by
  obtain ⟨p, l, e, R, s, m, args, below, meth, c, Q, A, D, n', ad', g', nL'⟩ := X
  obtain ⟨hx, hb, hml, hown, hts, hK, hD, rfl, rfl, rfl, rfl, hroom, hA, hlk⟩ := h
  intro H locs ls hP hS hl
  exact va_mmax hx hb (hml.trans hl.1.symm) hown (hts _ hw) (hts _ hw2.1) (hts _ hw2.2.1) (hts _ hw2.2.2) (by omega) (by omega) (Nat.zero_le _) (Nat.zero_le _) hd (kk H locs ls hP hS hl)

set_option maxHeartbeats 1000000 in
theorem s_mmin {X : CT} {cc : ByteArray} {own : String} {nL n : Nat} {ad : Nat → Nat} {g : Lay} {cI cZ cB : ClassId} {d : Nat} {M : Mem} {lv : List (Nat × Value)} {st : List Value} {pc : Nat} (h : Ok X cc own nL n ad g cI cZ cB d) {idx : Nat} {x y : Int32} (hw : Cond.methodLink own idx Lib.Math.min.name ∈ UL) (hw2 : Cond.static Lib.Math.min.name ∈ UL ∧ Cond.initialized "java/lang/Math" ∈ UL ∧ Cond.code Lib.Math.min.name Lib.Math.min.code 2 (some .int) ∈ UL) (hd1 : 1 ≤ d) (hst : (st.map fun v => v.category).sum ≤ 8) (hd : decode cc pc = .ok (.invokestatic idx, 3)) (kk : V X M lv (.int (if y < x then y else x) :: st) (pc + 3)) : V X M lv (.int y :: .int x :: st) pc := by
  obtain ⟨p, l, e, R, s, m, args, below, meth, c, Q, A, D, n', ad', g', nL'⟩ := X
  obtain ⟨hx, hb, hml, hown, hts, hK, hD, rfl, rfl, rfl, rfl, hroom, hA, hlk⟩ := h
  intro H locs ls hP hS hl
  exact va_mmin hx hb (hml.trans hl.1.symm) hown (hts _ hw) (hts _ hw2.1) (hts _ hw2.2.1) (hts _ hw2.2.2) (by omega) (by omega) (Nat.zero_le _) (Nat.zero_le _) hd (kk H locs ls hP hS hl)

set_option maxHeartbeats 1000000 in
theorem s_mabs {X : CT} {cc : ByteArray} {own : String} {nL n : Nat} {ad : Nat → Nat} {g : Lay} {cI cZ cB : ClassId} {d : Nat} {M : Mem} {lv : List (Nat × Value)} {st : List Value} {pc : Nat} (h : Ok X cc own nL n ad g cI cZ cB d) {idx : Nat} {x : Int32} (hw : Cond.methodLink own idx Lib.Math.abs.name ∈ UL) (hw2 : Cond.static Lib.Math.abs.name ∈ UL ∧ Cond.initialized "java/lang/Math" ∈ UL ∧ Cond.code Lib.Math.abs.name Lib.Math.abs.code 1 (some .int) ∈ UL) (hd1 : 1 ≤ d) (hst : (st.map fun v => v.category).sum ≤ 8) (hd : decode cc pc = .ok (.invokestatic idx, 3)) (kk : V X M lv (.int (if 0 ≤ x then x else 0 - x) :: st) (pc + 3)) : V X M lv (.int x :: st) pc := by
  obtain ⟨p, l, e, R, s, m, args, below, meth, c, Q, A, D, n', ad', g', nL'⟩ := X
  obtain ⟨hx, hb, hml, hown, hts, hK, hD, rfl, rfl, rfl, rfl, hroom, hA, hlk⟩ := h
  intro H locs ls hP hS hl
  exact va_mabs hx hb (hml.trans hl.1.symm) hown (hts _ hw) (hts _ hw2.1) (hts _ hw2.2.1) (hts _ hw2.2.2) (by omega) (by omega) (Nat.zero_le _) (Nat.zero_le _) hd (kk H locs ls hP hS hl)
end
section
def fsC1 (ad : Nat → Nat) (f : Nat → Int32) : List Value := [.ref (ad 2), .ref (ad 3), .ref (ad 4), .ref (ad 5), .ref (ad 6), .int (f 5), .int (f 6)]
def fsC7 (ad : Nat → Nat) (f : Nat → Int32) : List Value := [.ref (ad 8), .ref (ad 9), .ref (ad 10), .ref (ad 11), .ref (ad 12), .int (f 5), .int (f 6)]
def fsC13 (ad : Nat → Nat) (f : Nat → Int32) : List Value := [.ref (ad 14), .ref (ad 15), .ref (ad 16), .ref (ad 17), .ref (ad 18), .int (f 5), .int (f 6)]
def fsC19 (ad : Nat → Nat) (f : Nat → Int32) : List Value := [.ref (ad 20), .int (f 1), .int (f 2), .int (f 3), .int (f 4)]
def fsC21 (ad : Nat → Nat) (f : Nat → Int32) : List Value := [.ref (ad 22), .int (f 1), .int (f 2)]
def fsC23 (ad : Nat → Nat) (f : Nat → Int32) : List Value := [.ref (ad 24), .ref (ad 25), .ref (ad 26), .ref (ad 27), .ref (ad 28), .ref (ad 29)]
def fsC30 (ad : Nat → Nat) (f : Nat → Int32) : List Value := [.ref (ad 31), .ref (ad 32), .ref (ad 33), .int (f 3)]
def fsC34 (ad : Nat → Nat) (f : Nat → Int32) : List Value := [.ref (ad 35), .ref (ad 36), .int (f 2), .int (f 3), .int (f 4), .int (f 5)]
def fsC37 (ad : Nat → Nat) (f : Nat → Int32) : List Value := [.ref (ad 38), .ref (ad 39), .ref (ad 40), .ref (ad 41), .ref (ad 42)]
def fsC44 (ad : Nat → Nat) (f : Nat → Int32) : List Value := [.ref (ad 45), .ref (ad 46), .ref (ad 47), .ref (ad 48), .ref (ad 49), .ref (ad 50), .ref (ad 51), .int (f 7), .int (f 8), .int (f 9)]
def fsC52 (ad : Nat → Nat) (f : Nat → Int32) : List Value := [.ref (ad 53), .ref (ad 54), .ref (ad 55), .ref (ad 56), .ref (ad 57), .ref (ad 58), .ref (ad 59), .int (f 7), .int (f 8), .int (f 9)]
def fsC0 (ad : Nat → Nat) (f : Nat → Int32) : List Value := [.ref (ad 1), .ref (ad 7), .ref (ad 13), .ref (ad 19), .ref (ad 21), .ref (ad 23), .ref (ad 30), .ref (ad 34), .ref (ad 37), .ref (ad 43), .ref (ad (f 10).toNatClampNeg), .ref (ad (f 11).toNatClampNeg), .int (f 12)]
def glC (ad : Nat → Nat) (cI cZ cB : ClassId) : Lay := fun k f => (if k < 30 then (if k < 15 then (if k < 7 then (if k < 3 then (if k < 1 then .inr (9, fsC0 ad f) else (if k < 2 then .inr (2, fsC1 ad f) else .inl (cI, 40, .inl f))) else (if k < 5 then (if k < 4 then .inl (cI, 40, .inl f) else .inl (cI, 40, .inl f)) else (if k < 6 then .inl (cZ, 40, .inl f) else .inl (cZ, 40, .inl f)))) else (if k < 11 then (if k < 9 then (if k < 8 then .inr (2, fsC7 ad f) else .inl (cI, 40, .inl f)) else (if k < 10 then .inl (cI, 40, .inl f) else .inl (cI, 40, .inl f))) else (if k < 13 then (if k < 12 then .inl (cZ, 40, .inl f) else .inl (cZ, 40, .inl f)) else (if k < 14 then .inr (2, fsC13 ad f) else .inl (cI, 40, .inl f))))) else (if k < 22 then (if k < 18 then (if k < 16 then .inl (cI, 40, .inl f) else (if k < 17 then .inl (cI, 40, .inl f) else .inl (cZ, 40, .inl f))) else (if k < 20 then (if k < 19 then .inl (cZ, 40, .inl f) else .inr (7, fsC19 ad f)) else (if k < 21 then .inl (cI, 260, .inl f) else .inr (5, fsC21 ad f)))) else (if k < 26 then (if k < 24 then (if k < 23 then .inl (cI, 8, .inl f) else .inr (8, fsC23 ad f)) else (if k < 25 then .inl (cI, 42, .inl f) else .inl (cI, 42, .inl f))) else (if k < 28 then (if k < 27 then .inl (cI, 42, .inl f) else .inl (cI, 42, .inl f)) else (if k < 29 then .inl (cI, 42, .inl f) else .inl (cZ, 42, .inl f)))))) else (if k < 45 then (if k < 37 then (if k < 33 then (if k < 31 then .inr (1, fsC30 ad f) else (if k < 32 then .inl (cI, 40, .inl f) else .inl (cI, 80, .inl f))) else (if k < 35 then (if k < 34 then .inl (cI, 80, .inl f) else .inr (4, fsC34 ad f)) else (if k < 36 then .inl (cI, 60, .inl f) else .inl (cI, 60, .inl f)))) else (if k < 41 then (if k < 39 then (if k < 38 then .inr (0, fsC37 ad f) else .inl (cI, 7, .inl f)) else (if k < 40 then .inl (cI, 7, .inl f) else .inl (cI, 7, .inl f))) else (if k < 43 then (if k < 42 then .inl (cI, 49, .inl f) else .inl (cI, 128, .inl f)) else (if k < 44 then .inl (cI, 8, .inl f) else .inr (3, fsC44 ad f))))) else (if k < 52 then (if k < 48 then (if k < 46 then .inl (cI, 240, .inl f) else (if k < 47 then .inl (cI, 240, .inl f) else .inl (cI, 32, .inl f))) else (if k < 50 then (if k < 49 then .inl (cI, 16, .inl f) else .inl (cI, 16, .inl f)) else (if k < 51 then .inl (cI, 16, .inl f) else .inl (cI, 16, .inl f)))) else (if k < 56 then (if k < 54 then (if k < 53 then .inr (3, fsC52 ad f) else .inl (cI, 240, .inl f)) else (if k < 55 then .inl (cI, 240, .inl f) else .inl (cI, 32, .inl f))) else (if k < 58 then (if k < 57 then .inl (cI, 16, .inl f) else .inl (cI, 16, .inl f)) else (if k < 59 then .inl (cI, 16, .inl f) else .inl (cI, 16, .inl f)))))))
theorem oC0 {ad : Nat → Nat} {cI cZ cB : ClassId} : OB (glC ad cI cZ cB) 60 0 9 (fsC0 ad) := ⟨by decide, fun _ => rfl⟩
theorem oC1 {ad : Nat → Nat} {cI cZ cB : ClassId} : OB (glC ad cI cZ cB) 60 1 2 (fsC1 ad) := ⟨by decide, fun _ => rfl⟩
theorem oC7 {ad : Nat → Nat} {cI cZ cB : ClassId} : OB (glC ad cI cZ cB) 60 7 2 (fsC7 ad) := ⟨by decide, fun _ => rfl⟩
theorem oC13 {ad : Nat → Nat} {cI cZ cB : ClassId} : OB (glC ad cI cZ cB) 60 13 2 (fsC13 ad) := ⟨by decide, fun _ => rfl⟩
theorem oC19 {ad : Nat → Nat} {cI cZ cB : ClassId} : OB (glC ad cI cZ cB) 60 19 7 (fsC19 ad) := ⟨by decide, fun _ => rfl⟩
theorem oC21 {ad : Nat → Nat} {cI cZ cB : ClassId} : OB (glC ad cI cZ cB) 60 21 5 (fsC21 ad) := ⟨by decide, fun _ => rfl⟩
theorem oC23 {ad : Nat → Nat} {cI cZ cB : ClassId} : OB (glC ad cI cZ cB) 60 23 8 (fsC23 ad) := ⟨by decide, fun _ => rfl⟩
theorem oC30 {ad : Nat → Nat} {cI cZ cB : ClassId} : OB (glC ad cI cZ cB) 60 30 1 (fsC30 ad) := ⟨by decide, fun _ => rfl⟩
theorem oC34 {ad : Nat → Nat} {cI cZ cB : ClassId} : OB (glC ad cI cZ cB) 60 34 4 (fsC34 ad) := ⟨by decide, fun _ => rfl⟩
theorem oC37 {ad : Nat → Nat} {cI cZ cB : ClassId} : OB (glC ad cI cZ cB) 60 37 0 (fsC37 ad) := ⟨by decide, fun _ => rfl⟩
theorem oC44 {ad : Nat → Nat} {cI cZ cB : ClassId} : OB (glC ad cI cZ cB) 60 44 3 (fsC44 ad) := ⟨by decide, fun _ => rfl⟩
theorem oC52 {ad : Nat → Nat} {cI cZ cB : ClassId} : OB (glC ad cI cZ cB) 60 52 3 (fsC52 ad) := ⟨by decide, fun _ => rfl⟩
theorem aC2 {ad : Nat → Nat} {cI cZ cB : ClassId} : IA (glC ad cI cZ cB) 60 2 cI 40 := ⟨by decide, fun _ => rfl⟩
theorem aC3 {ad : Nat → Nat} {cI cZ cB : ClassId} : IA (glC ad cI cZ cB) 60 3 cI 40 := ⟨by decide, fun _ => rfl⟩
theorem aC4 {ad : Nat → Nat} {cI cZ cB : ClassId} : IA (glC ad cI cZ cB) 60 4 cI 40 := ⟨by decide, fun _ => rfl⟩
theorem aC5 {ad : Nat → Nat} {cI cZ cB : ClassId} : IA (glC ad cI cZ cB) 60 5 cZ 40 := ⟨by decide, fun _ => rfl⟩
theorem aC6 {ad : Nat → Nat} {cI cZ cB : ClassId} : IA (glC ad cI cZ cB) 60 6 cZ 40 := ⟨by decide, fun _ => rfl⟩
theorem aC8 {ad : Nat → Nat} {cI cZ cB : ClassId} : IA (glC ad cI cZ cB) 60 8 cI 40 := ⟨by decide, fun _ => rfl⟩
theorem aC9 {ad : Nat → Nat} {cI cZ cB : ClassId} : IA (glC ad cI cZ cB) 60 9 cI 40 := ⟨by decide, fun _ => rfl⟩
theorem aC10 {ad : Nat → Nat} {cI cZ cB : ClassId} : IA (glC ad cI cZ cB) 60 10 cI 40 := ⟨by decide, fun _ => rfl⟩
theorem aC11 {ad : Nat → Nat} {cI cZ cB : ClassId} : IA (glC ad cI cZ cB) 60 11 cZ 40 := ⟨by decide, fun _ => rfl⟩
theorem aC12 {ad : Nat → Nat} {cI cZ cB : ClassId} : IA (glC ad cI cZ cB) 60 12 cZ 40 := ⟨by decide, fun _ => rfl⟩
theorem aC14 {ad : Nat → Nat} {cI cZ cB : ClassId} : IA (glC ad cI cZ cB) 60 14 cI 40 := ⟨by decide, fun _ => rfl⟩
theorem aC15 {ad : Nat → Nat} {cI cZ cB : ClassId} : IA (glC ad cI cZ cB) 60 15 cI 40 := ⟨by decide, fun _ => rfl⟩
theorem aC16 {ad : Nat → Nat} {cI cZ cB : ClassId} : IA (glC ad cI cZ cB) 60 16 cI 40 := ⟨by decide, fun _ => rfl⟩
theorem aC17 {ad : Nat → Nat} {cI cZ cB : ClassId} : IA (glC ad cI cZ cB) 60 17 cZ 40 := ⟨by decide, fun _ => rfl⟩
theorem aC18 {ad : Nat → Nat} {cI cZ cB : ClassId} : IA (glC ad cI cZ cB) 60 18 cZ 40 := ⟨by decide, fun _ => rfl⟩
theorem aC20 {ad : Nat → Nat} {cI cZ cB : ClassId} : IA (glC ad cI cZ cB) 60 20 cI 260 := ⟨by decide, fun _ => rfl⟩
theorem aC22 {ad : Nat → Nat} {cI cZ cB : ClassId} : IA (glC ad cI cZ cB) 60 22 cI 8 := ⟨by decide, fun _ => rfl⟩
theorem aC24 {ad : Nat → Nat} {cI cZ cB : ClassId} : IA (glC ad cI cZ cB) 60 24 cI 42 := ⟨by decide, fun _ => rfl⟩
theorem aC25 {ad : Nat → Nat} {cI cZ cB : ClassId} : IA (glC ad cI cZ cB) 60 25 cI 42 := ⟨by decide, fun _ => rfl⟩
theorem aC26 {ad : Nat → Nat} {cI cZ cB : ClassId} : IA (glC ad cI cZ cB) 60 26 cI 42 := ⟨by decide, fun _ => rfl⟩
theorem aC27 {ad : Nat → Nat} {cI cZ cB : ClassId} : IA (glC ad cI cZ cB) 60 27 cI 42 := ⟨by decide, fun _ => rfl⟩
theorem aC28 {ad : Nat → Nat} {cI cZ cB : ClassId} : IA (glC ad cI cZ cB) 60 28 cI 42 := ⟨by decide, fun _ => rfl⟩
theorem aC29 {ad : Nat → Nat} {cI cZ cB : ClassId} : IA (glC ad cI cZ cB) 60 29 cZ 42 := ⟨by decide, fun _ => rfl⟩
theorem aC31 {ad : Nat → Nat} {cI cZ cB : ClassId} : IA (glC ad cI cZ cB) 60 31 cI 40 := ⟨by decide, fun _ => rfl⟩
theorem aC32 {ad : Nat → Nat} {cI cZ cB : ClassId} : IA (glC ad cI cZ cB) 60 32 cI 80 := ⟨by decide, fun _ => rfl⟩
theorem aC33 {ad : Nat → Nat} {cI cZ cB : ClassId} : IA (glC ad cI cZ cB) 60 33 cI 80 := ⟨by decide, fun _ => rfl⟩
theorem aC35 {ad : Nat → Nat} {cI cZ cB : ClassId} : IA (glC ad cI cZ cB) 60 35 cI 60 := ⟨by decide, fun _ => rfl⟩
theorem aC36 {ad : Nat → Nat} {cI cZ cB : ClassId} : IA (glC ad cI cZ cB) 60 36 cI 60 := ⟨by decide, fun _ => rfl⟩
theorem aC38 {ad : Nat → Nat} {cI cZ cB : ClassId} : IA (glC ad cI cZ cB) 60 38 cI 7 := ⟨by decide, fun _ => rfl⟩
theorem aC39 {ad : Nat → Nat} {cI cZ cB : ClassId} : IA (glC ad cI cZ cB) 60 39 cI 7 := ⟨by decide, fun _ => rfl⟩
theorem aC40 {ad : Nat → Nat} {cI cZ cB : ClassId} : IA (glC ad cI cZ cB) 60 40 cI 7 := ⟨by decide, fun _ => rfl⟩
theorem aC41 {ad : Nat → Nat} {cI cZ cB : ClassId} : IA (glC ad cI cZ cB) 60 41 cI 49 := ⟨by decide, fun _ => rfl⟩
theorem aC42 {ad : Nat → Nat} {cI cZ cB : ClassId} : IA (glC ad cI cZ cB) 60 42 cI 128 := ⟨by decide, fun _ => rfl⟩
theorem aC43 {ad : Nat → Nat} {cI cZ cB : ClassId} : IA (glC ad cI cZ cB) 60 43 cI 8 := ⟨by decide, fun _ => rfl⟩
theorem aC45 {ad : Nat → Nat} {cI cZ cB : ClassId} : IA (glC ad cI cZ cB) 60 45 cI 240 := ⟨by decide, fun _ => rfl⟩
theorem aC46 {ad : Nat → Nat} {cI cZ cB : ClassId} : IA (glC ad cI cZ cB) 60 46 cI 240 := ⟨by decide, fun _ => rfl⟩
theorem aC47 {ad : Nat → Nat} {cI cZ cB : ClassId} : IA (glC ad cI cZ cB) 60 47 cI 32 := ⟨by decide, fun _ => rfl⟩
theorem aC48 {ad : Nat → Nat} {cI cZ cB : ClassId} : IA (glC ad cI cZ cB) 60 48 cI 16 := ⟨by decide, fun _ => rfl⟩
theorem aC49 {ad : Nat → Nat} {cI cZ cB : ClassId} : IA (glC ad cI cZ cB) 60 49 cI 16 := ⟨by decide, fun _ => rfl⟩
theorem aC50 {ad : Nat → Nat} {cI cZ cB : ClassId} : IA (glC ad cI cZ cB) 60 50 cI 16 := ⟨by decide, fun _ => rfl⟩
theorem aC51 {ad : Nat → Nat} {cI cZ cB : ClassId} : IA (glC ad cI cZ cB) 60 51 cI 16 := ⟨by decide, fun _ => rfl⟩
theorem aC53 {ad : Nat → Nat} {cI cZ cB : ClassId} : IA (glC ad cI cZ cB) 60 53 cI 240 := ⟨by decide, fun _ => rfl⟩
theorem aC54 {ad : Nat → Nat} {cI cZ cB : ClassId} : IA (glC ad cI cZ cB) 60 54 cI 240 := ⟨by decide, fun _ => rfl⟩
theorem aC55 {ad : Nat → Nat} {cI cZ cB : ClassId} : IA (glC ad cI cZ cB) 60 55 cI 32 := ⟨by decide, fun _ => rfl⟩
theorem aC56 {ad : Nat → Nat} {cI cZ cB : ClassId} : IA (glC ad cI cZ cB) 60 56 cI 16 := ⟨by decide, fun _ => rfl⟩
theorem aC57 {ad : Nat → Nat} {cI cZ cB : ClassId} : IA (glC ad cI cZ cB) 60 57 cI 16 := ⟨by decide, fun _ => rfl⟩
theorem aC58 {ad : Nat → Nat} {cI cZ cB : ClassId} : IA (glC ad cI cZ cB) 60 58 cI 16 := ⟨by decide, fun _ => rfl⟩
theorem aC59 {ad : Nat → Nat} {cI cZ cB : ClassId} : IA (glC ad cI cZ cB) 60 59 cI 16 := ⟨by decide, fun _ => rfl⟩
def fsM0 (ad : Nat → Nat) (f : Nat → Int32) : List Value := [.ref (ad 1), .ref (ad 2), .ref (ad 3), .ref (ad 4), .int (f 4), .ref (ad 5), .int (f 6), .int (f 7), .int (f 8), .int (f 9), .int (f 10), .int (f 11), .int (f 12), .int (f 13), .int (f 14), .int (f 15), .ref (ad 6), .ref (ad 7), .ref (ad 8), .ref (ad 9), .ref (ad 10), .ref (ad 11), .ref (ad 12), .ref (ad 13), .ref (ad 14), .ref (ad 15), .ref (ad 16), .ref (ad 17), .ref (ad 18), .ref (ad 19), .ref (ad 20), .ref (ad 21), .ref (ad 22), .int (f 33), .int (f 34), .int (f 35), .ref (ad 23), .ref (ad 24), .ref (ad 25), .ref (ad 26), .ref (ad 27), .ref (ad 28), .ref (ad 29), .ref (ad 30), .ref (ad 31), .ref (ad 32), .ref (ad 33), .ref (ad 34), .ref (ad 35), .int (f 49), .int (f 50), .ref (ad 36), .ref (ad 37), .ref (ad 38), .int (f 54)]
def glM (ad : Nat → Nat) (cI cZ cB : ClassId) : Lay := fun k f => (if k < 19 then (if k < 9 then (if k < 4 then (if k < 2 then (if k < 1 then .inr (10, fsM0 ad f) else .inl (cI, 202, .inl f)) else (if k < 3 then .inl (cI, 202, .inl f) else .inl (cI, 202, .inl f))) else (if k < 6 then (if k < 5 then .inl (cI, 8, .inl f) else .inl (cB, 260, .inl f)) else (if k < 7 then .inl (cI, 260, .inl f) else (if k < 8 then .inl (cI, 260, .inl f) else .inl (cI, 16, .inl f))))) else (if k < 14 then (if k < 11 then (if k < 10 then .inl (cI, 16, .inl f) else .inl (cI, 16, .inl f)) else (if k < 12 then .inl (cI, 16, .inl f) else (if k < 13 then .inl (cI, 260, .inl f) else .inl (cI, 16, .inl f)))) else (if k < 16 then (if k < 15 then .inl (cI, 16, .inl f) else .inl (cI, 16, .inl f)) else (if k < 17 then .inl (cI, 16, .inl f) else (if k < 18 then .inl (cI, 260, .inl f) else .inl (cI, 8, .inl f)))))) else (if k < 29 then (if k < 24 then (if k < 21 then (if k < 20 then .inl (cI, 40, .inl f) else .inl (cI, 40, .inl f)) else (if k < 22 then .inl (cI, 40, .inl f) else (if k < 23 then .inl (cI, 40, .inl f) else .inl (cI, 40, .inl f)))) else (if k < 26 then (if k < 25 then .inl (cI, 40, .inl f) else .inl (cI, 40, .inl f)) else (if k < 27 then .inl (cI, 40, .inl f) else (if k < 28 then .inl (cI, 40, .inl f) else .inl (cB, 6724, .inl f))))) else (if k < 34 then (if k < 31 then (if k < 30 then .inl (cI, 82, .inl f) else .inl (cI, 82, .inl f)) else (if k < 32 then .inl (cI, 40, .inl f) else (if k < 33 then .inl (cI, 60, .inl f) else .inl (cI, 60, .inl f)))) else (if k < 36 then (if k < 35 then .inl (cI, 2, .inl f) else .inl (cI, 2, .inl f)) else (if k < 37 then .inl (cI, 7, .inl f) else (if k < 38 then .inl (cI, 7, .inl f) else .inl (cI, 7, .inl f)))))))
theorem oM0 {ad : Nat → Nat} {cI cZ cB : ClassId} : OB (glM ad cI cZ cB) 39 0 10 (fsM0 ad) := ⟨by decide, fun _ => rfl⟩
theorem aM1 {ad : Nat → Nat} {cI cZ cB : ClassId} : IA (glM ad cI cZ cB) 39 1 cI 202 := ⟨by decide, fun _ => rfl⟩
theorem aM2 {ad : Nat → Nat} {cI cZ cB : ClassId} : IA (glM ad cI cZ cB) 39 2 cI 202 := ⟨by decide, fun _ => rfl⟩
theorem aM3 {ad : Nat → Nat} {cI cZ cB : ClassId} : IA (glM ad cI cZ cB) 39 3 cI 202 := ⟨by decide, fun _ => rfl⟩
theorem aM4 {ad : Nat → Nat} {cI cZ cB : ClassId} : IA (glM ad cI cZ cB) 39 4 cI 8 := ⟨by decide, fun _ => rfl⟩
theorem aM5 {ad : Nat → Nat} {cI cZ cB : ClassId} : IA (glM ad cI cZ cB) 39 5 cB 260 := ⟨by decide, fun _ => rfl⟩
theorem aM6 {ad : Nat → Nat} {cI cZ cB : ClassId} : IA (glM ad cI cZ cB) 39 6 cI 260 := ⟨by decide, fun _ => rfl⟩
theorem aM7 {ad : Nat → Nat} {cI cZ cB : ClassId} : IA (glM ad cI cZ cB) 39 7 cI 260 := ⟨by decide, fun _ => rfl⟩
theorem aM8 {ad : Nat → Nat} {cI cZ cB : ClassId} : IA (glM ad cI cZ cB) 39 8 cI 16 := ⟨by decide, fun _ => rfl⟩
theorem aM9 {ad : Nat → Nat} {cI cZ cB : ClassId} : IA (glM ad cI cZ cB) 39 9 cI 16 := ⟨by decide, fun _ => rfl⟩
theorem aM10 {ad : Nat → Nat} {cI cZ cB : ClassId} : IA (glM ad cI cZ cB) 39 10 cI 16 := ⟨by decide, fun _ => rfl⟩
theorem aM11 {ad : Nat → Nat} {cI cZ cB : ClassId} : IA (glM ad cI cZ cB) 39 11 cI 16 := ⟨by decide, fun _ => rfl⟩
theorem aM12 {ad : Nat → Nat} {cI cZ cB : ClassId} : IA (glM ad cI cZ cB) 39 12 cI 260 := ⟨by decide, fun _ => rfl⟩
theorem aM13 {ad : Nat → Nat} {cI cZ cB : ClassId} : IA (glM ad cI cZ cB) 39 13 cI 16 := ⟨by decide, fun _ => rfl⟩
theorem aM14 {ad : Nat → Nat} {cI cZ cB : ClassId} : IA (glM ad cI cZ cB) 39 14 cI 16 := ⟨by decide, fun _ => rfl⟩
theorem aM15 {ad : Nat → Nat} {cI cZ cB : ClassId} : IA (glM ad cI cZ cB) 39 15 cI 16 := ⟨by decide, fun _ => rfl⟩
theorem aM16 {ad : Nat → Nat} {cI cZ cB : ClassId} : IA (glM ad cI cZ cB) 39 16 cI 16 := ⟨by decide, fun _ => rfl⟩
theorem aM17 {ad : Nat → Nat} {cI cZ cB : ClassId} : IA (glM ad cI cZ cB) 39 17 cI 260 := ⟨by decide, fun _ => rfl⟩
theorem aM18 {ad : Nat → Nat} {cI cZ cB : ClassId} : IA (glM ad cI cZ cB) 39 18 cI 8 := ⟨by decide, fun _ => rfl⟩
theorem aM19 {ad : Nat → Nat} {cI cZ cB : ClassId} : IA (glM ad cI cZ cB) 39 19 cI 40 := ⟨by decide, fun _ => rfl⟩
theorem aM20 {ad : Nat → Nat} {cI cZ cB : ClassId} : IA (glM ad cI cZ cB) 39 20 cI 40 := ⟨by decide, fun _ => rfl⟩
theorem aM21 {ad : Nat → Nat} {cI cZ cB : ClassId} : IA (glM ad cI cZ cB) 39 21 cI 40 := ⟨by decide, fun _ => rfl⟩
theorem aM22 {ad : Nat → Nat} {cI cZ cB : ClassId} : IA (glM ad cI cZ cB) 39 22 cI 40 := ⟨by decide, fun _ => rfl⟩
theorem aM23 {ad : Nat → Nat} {cI cZ cB : ClassId} : IA (glM ad cI cZ cB) 39 23 cI 40 := ⟨by decide, fun _ => rfl⟩
theorem aM24 {ad : Nat → Nat} {cI cZ cB : ClassId} : IA (glM ad cI cZ cB) 39 24 cI 40 := ⟨by decide, fun _ => rfl⟩
theorem aM25 {ad : Nat → Nat} {cI cZ cB : ClassId} : IA (glM ad cI cZ cB) 39 25 cI 40 := ⟨by decide, fun _ => rfl⟩
theorem aM26 {ad : Nat → Nat} {cI cZ cB : ClassId} : IA (glM ad cI cZ cB) 39 26 cI 40 := ⟨by decide, fun _ => rfl⟩
theorem aM27 {ad : Nat → Nat} {cI cZ cB : ClassId} : IA (glM ad cI cZ cB) 39 27 cI 40 := ⟨by decide, fun _ => rfl⟩
theorem aM28 {ad : Nat → Nat} {cI cZ cB : ClassId} : IA (glM ad cI cZ cB) 39 28 cB 6724 := ⟨by decide, fun _ => rfl⟩
theorem aM29 {ad : Nat → Nat} {cI cZ cB : ClassId} : IA (glM ad cI cZ cB) 39 29 cI 82 := ⟨by decide, fun _ => rfl⟩
theorem aM30 {ad : Nat → Nat} {cI cZ cB : ClassId} : IA (glM ad cI cZ cB) 39 30 cI 82 := ⟨by decide, fun _ => rfl⟩
theorem aM31 {ad : Nat → Nat} {cI cZ cB : ClassId} : IA (glM ad cI cZ cB) 39 31 cI 40 := ⟨by decide, fun _ => rfl⟩
theorem aM32 {ad : Nat → Nat} {cI cZ cB : ClassId} : IA (glM ad cI cZ cB) 39 32 cI 60 := ⟨by decide, fun _ => rfl⟩
theorem aM33 {ad : Nat → Nat} {cI cZ cB : ClassId} : IA (glM ad cI cZ cB) 39 33 cI 60 := ⟨by decide, fun _ => rfl⟩
theorem aM34 {ad : Nat → Nat} {cI cZ cB : ClassId} : IA (glM ad cI cZ cB) 39 34 cI 2 := ⟨by decide, fun _ => rfl⟩
theorem aM35 {ad : Nat → Nat} {cI cZ cB : ClassId} : IA (glM ad cI cZ cB) 39 35 cI 2 := ⟨by decide, fun _ => rfl⟩
theorem aM36 {ad : Nat → Nat} {cI cZ cB : ClassId} : IA (glM ad cI cZ cB) 39 36 cI 7 := ⟨by decide, fun _ => rfl⟩
theorem aM37 {ad : Nat → Nat} {cI cZ cB : ClassId} : IA (glM ad cI cZ cB) 39 37 cI 7 := ⟨by decide, fun _ => rfl⟩
theorem aM38 {ad : Nat → Nat} {cI cZ cB : ClassId} : IA (glM ad cI cZ cB) 39 38 cI 7 := ⟨by decide, fun _ => rfl⟩
theorem ty_1_3 : ∀ q : vw_C, cls11[1]? = some q → (q.2.1 3).2.2.2 = false ∧ parseFieldDescriptor (q.2.1 3).2.2.1 = some .int := fun q h => by
  have h : some (RX1, TX1, 4) = some q := h
  cases h
  exact ⟨by decide +kernel, by decide +kernel⟩
theorem ty_2_5 : ∀ q : vw_C, cls11[2]? = some q → (q.2.1 5).2.2.2 = false ∧ parseFieldDescriptor (q.2.1 5).2.2.1 = some .int := fun q h => by
  have h : some (RX2, TX2, 7) = some q := h
  cases h
  exact ⟨by decide +kernel, by decide +kernel⟩
theorem ty_2_6 : ∀ q : vw_C, cls11[2]? = some q → (q.2.1 6).2.2.2 = false ∧ parseFieldDescriptor (q.2.1 6).2.2.1 = some .int := fun q h => by
  have h : some (RX2, TX2, 7) = some q := h
  cases h
  exact ⟨by decide +kernel, by decide +kernel⟩
theorem ty_3_7 : ∀ q : vw_C, cls11[3]? = some q → (q.2.1 7).2.2.2 = false ∧ parseFieldDescriptor (q.2.1 7).2.2.1 = some .int := fun q h => by
  have h : some (RX3, TX3, 10) = some q := h
  cases h
  exact ⟨by decide +kernel, by decide +kernel⟩
theorem ty_3_8 : ∀ q : vw_C, cls11[3]? = some q → (q.2.1 8).2.2.2 = false ∧ parseFieldDescriptor (q.2.1 8).2.2.1 = some .int := fun q h => by
  have h : some (RX3, TX3, 10) = some q := h
  cases h
  exact ⟨by decide +kernel, by decide +kernel⟩
theorem ty_3_9 : ∀ q : vw_C, cls11[3]? = some q → (q.2.1 9).2.2.2 = false ∧ parseFieldDescriptor (q.2.1 9).2.2.1 = some .boolean := fun q h => by
  have h : some (RX3, TX3, 10) = some q := h
  cases h
  exact ⟨by decide +kernel, by decide +kernel⟩
theorem ty_4_2 : ∀ q : vw_C, cls11[4]? = some q → (q.2.1 2).2.2.2 = false ∧ parseFieldDescriptor (q.2.1 2).2.2.1 = some .int := fun q h => by
  have h : some (RX4, TX4, 6) = some q := h
  cases h
  exact ⟨by decide +kernel, by decide +kernel⟩
theorem ty_4_3 : ∀ q : vw_C, cls11[4]? = some q → (q.2.1 3).2.2.2 = false ∧ parseFieldDescriptor (q.2.1 3).2.2.1 = some .int := fun q h => by
  have h : some (RX4, TX4, 6) = some q := h
  cases h
  exact ⟨by decide +kernel, by decide +kernel⟩
theorem ty_4_4 : ∀ q : vw_C, cls11[4]? = some q → (q.2.1 4).2.2.2 = false ∧ parseFieldDescriptor (q.2.1 4).2.2.1 = some .int := fun q h => by
  have h : some (RX4, TX4, 6) = some q := h
  cases h
  exact ⟨by decide +kernel, by decide +kernel⟩
theorem ty_4_5 : ∀ q : vw_C, cls11[4]? = some q → (q.2.1 5).2.2.2 = false ∧ parseFieldDescriptor (q.2.1 5).2.2.1 = some .int := fun q h => by
  have h : some (RX4, TX4, 6) = some q := h
  cases h
  exact ⟨by decide +kernel, by decide +kernel⟩
theorem ty_5_1 : ∀ q : vw_C, cls11[5]? = some q → (q.2.1 1).2.2.2 = false ∧ parseFieldDescriptor (q.2.1 1).2.2.1 = some .int := fun q h => by
  have h : some (RX5, TX5, 3) = some q := h
  cases h
  exact ⟨by decide +kernel, by decide +kernel⟩
theorem ty_5_2 : ∀ q : vw_C, cls11[5]? = some q → (q.2.1 2).2.2.2 = false ∧ parseFieldDescriptor (q.2.1 2).2.2.1 = some .int := fun q h => by
  have h : some (RX5, TX5, 3) = some q := h
  cases h
  exact ⟨by decide +kernel, by decide +kernel⟩
theorem ty_7_1 : ∀ q : vw_C, cls11[7]? = some q → (q.2.1 1).2.2.2 = false ∧ parseFieldDescriptor (q.2.1 1).2.2.1 = some .int := fun q h => by
  have h : some (RX7, TX7, 5) = some q := h
  cases h
  exact ⟨by decide +kernel, by decide +kernel⟩
theorem ty_7_2 : ∀ q : vw_C, cls11[7]? = some q → (q.2.1 2).2.2.2 = false ∧ parseFieldDescriptor (q.2.1 2).2.2.1 = some .int := fun q h => by
  have h : some (RX7, TX7, 5) = some q := h
  cases h
  exact ⟨by decide +kernel, by decide +kernel⟩
theorem ty_7_3 : ∀ q : vw_C, cls11[7]? = some q → (q.2.1 3).2.2.2 = false ∧ parseFieldDescriptor (q.2.1 3).2.2.1 = some .int := fun q h => by
  have h : some (RX7, TX7, 5) = some q := h
  cases h
  exact ⟨by decide +kernel, by decide +kernel⟩
theorem ty_7_4 : ∀ q : vw_C, cls11[7]? = some q → (q.2.1 4).2.2.2 = false ∧ parseFieldDescriptor (q.2.1 4).2.2.1 = some .int := fun q h => by
  have h : some (RX7, TX7, 5) = some q := h
  cases h
  exact ⟨by decide +kernel, by decide +kernel⟩
theorem ty_9_12 : ∀ q : vw_C, cls11[9]? = some q → (q.2.1 12).2.2.2 = false ∧ parseFieldDescriptor (q.2.1 12).2.2.1 = some .boolean := fun q h => by
  have h : some (RX9, TX9, 13) = some q := h
  cases h
  exact ⟨by decide +kernel, by decide +kernel⟩
theorem ty_10_4 : ∀ q : vw_C, cls11[10]? = some q → (q.2.1 4).2.2.2 = false ∧ parseFieldDescriptor (q.2.1 4).2.2.1 = some .int := fun q h => by
  have h : some (RX10, TX10, 55) = some q := h
  cases h
  exact ⟨by decide +kernel, by decide +kernel⟩
theorem ty_10_6 : ∀ q : vw_C, cls11[10]? = some q → (q.2.1 6).2.2.2 = false ∧ parseFieldDescriptor (q.2.1 6).2.2.1 = some .int := fun q h => by
  have h : some (RX10, TX10, 55) = some q := h
  cases h
  exact ⟨by decide +kernel, by decide +kernel⟩
theorem ty_10_7 : ∀ q : vw_C, cls11[10]? = some q → (q.2.1 7).2.2.2 = false ∧ parseFieldDescriptor (q.2.1 7).2.2.1 = some .int := fun q h => by
  have h : some (RX10, TX10, 55) = some q := h
  cases h
  exact ⟨by decide +kernel, by decide +kernel⟩
theorem ty_10_8 : ∀ q : vw_C, cls11[10]? = some q → (q.2.1 8).2.2.2 = false ∧ parseFieldDescriptor (q.2.1 8).2.2.1 = some .int := fun q h => by
  have h : some (RX10, TX10, 55) = some q := h
  cases h
  exact ⟨by decide +kernel, by decide +kernel⟩
theorem ty_10_9 : ∀ q : vw_C, cls11[10]? = some q → (q.2.1 9).2.2.2 = false ∧ parseFieldDescriptor (q.2.1 9).2.2.1 = some .int := fun q h => by
  have h : some (RX10, TX10, 55) = some q := h
  cases h
  exact ⟨by decide +kernel, by decide +kernel⟩
theorem ty_10_10 : ∀ q : vw_C, cls11[10]? = some q → (q.2.1 10).2.2.2 = false ∧ parseFieldDescriptor (q.2.1 10).2.2.1 = some .int := fun q h => by
  have h : some (RX10, TX10, 55) = some q := h
  cases h
  exact ⟨by decide +kernel, by decide +kernel⟩
theorem ty_10_11 : ∀ q : vw_C, cls11[10]? = some q → (q.2.1 11).2.2.2 = false ∧ parseFieldDescriptor (q.2.1 11).2.2.1 = some .int := fun q h => by
  have h : some (RX10, TX10, 55) = some q := h
  cases h
  exact ⟨by decide +kernel, by decide +kernel⟩
theorem ty_10_12 : ∀ q : vw_C, cls11[10]? = some q → (q.2.1 12).2.2.2 = false ∧ parseFieldDescriptor (q.2.1 12).2.2.1 = some .int := fun q h => by
  have h : some (RX10, TX10, 55) = some q := h
  cases h
  exact ⟨by decide +kernel, by decide +kernel⟩
theorem ty_10_13 : ∀ q : vw_C, cls11[10]? = some q → (q.2.1 13).2.2.2 = false ∧ parseFieldDescriptor (q.2.1 13).2.2.1 = some .int := fun q h => by
  have h : some (RX10, TX10, 55) = some q := h
  cases h
  exact ⟨by decide +kernel, by decide +kernel⟩
theorem ty_10_14 : ∀ q : vw_C, cls11[10]? = some q → (q.2.1 14).2.2.2 = false ∧ parseFieldDescriptor (q.2.1 14).2.2.1 = some .int := fun q h => by
  have h : some (RX10, TX10, 55) = some q := h
  cases h
  exact ⟨by decide +kernel, by decide +kernel⟩
theorem ty_10_15 : ∀ q : vw_C, cls11[10]? = some q → (q.2.1 15).2.2.2 = false ∧ parseFieldDescriptor (q.2.1 15).2.2.1 = some .int := fun q h => by
  have h : some (RX10, TX10, 55) = some q := h
  cases h
  exact ⟨by decide +kernel, by decide +kernel⟩
theorem ty_10_33 : ∀ q : vw_C, cls11[10]? = some q → (q.2.1 33).2.2.2 = false ∧ parseFieldDescriptor (q.2.1 33).2.2.1 = some .int := fun q h => by
  have h : some (RX10, TX10, 55) = some q := h
  cases h
  exact ⟨by decide +kernel, by decide +kernel⟩
theorem ty_10_34 : ∀ q : vw_C, cls11[10]? = some q → (q.2.1 34).2.2.2 = false ∧ parseFieldDescriptor (q.2.1 34).2.2.1 = some .int := fun q h => by
  have h : some (RX10, TX10, 55) = some q := h
  cases h
  exact ⟨by decide +kernel, by decide +kernel⟩
theorem ty_10_35 : ∀ q : vw_C, cls11[10]? = some q → (q.2.1 35).2.2.2 = false ∧ parseFieldDescriptor (q.2.1 35).2.2.1 = some .int := fun q h => by
  have h : some (RX10, TX10, 55) = some q := h
  cases h
  exact ⟨by decide +kernel, by decide +kernel⟩
theorem ty_10_49 : ∀ q : vw_C, cls11[10]? = some q → (q.2.1 49).2.2.2 = false ∧ parseFieldDescriptor (q.2.1 49).2.2.1 = some .int := fun q h => by
  have h : some (RX10, TX10, 55) = some q := h
  cases h
  exact ⟨by decide +kernel, by decide +kernel⟩
theorem ty_10_50 : ∀ q : vw_C, cls11[10]? = some q → (q.2.1 50).2.2.2 = false ∧ parseFieldDescriptor (q.2.1 50).2.2.1 = some .int := fun q h => by
  have h : some (RX10, TX10, 55) = some q := h
  cases h
  exact ⟨by decide +kernel, by decide +kernel⟩
theorem ty_10_54 : ∀ q : vw_C, cls11[10]? = some q → (q.2.1 54).2.2.2 = false ∧ parseFieldDescriptor (q.2.1 54).2.2.1 = some .boolean := fun q h => by
  have h : some (RX10, TX10, 55) = some q := h
  cases h
  exact ⟨by decide +kernel, by decide +kernel⟩
def isF (b : Nat) : Prop := b = 1 ∨ b = 7 ∨ b = 13
def fsF (b : Nat) (ad : Nat → Nat) (f : Nat → Int32) : List Value := [.ref (ad (b + 1)), .ref (ad (b + 2)), .ref (ad (b + 3)), .ref (ad (b + 4)), .ref (ad (b + 5)), .int (f 5), .int (f 6)]
theorem oF {b : Nat} (h : isF b) {ad : Nat → Nat} {cI cZ cB : ClassId} : OB (glC ad cI cZ cB) 60 b 2 (fsF b ad) := by
  rcases h with rfl | rfl | rfl <;> exact ⟨by decide, fun _ => rfl⟩
def isL (b : Nat) : Prop := b = 44 ∨ b = 52
def fsL (b : Nat) (ad : Nat → Nat) (f : Nat → Int32) : List Value := [.ref (ad (b + 1)), .ref (ad (b + 2)), .ref (ad (b + 3)), .ref (ad (b + 4)), .ref (ad (b + 5)), .ref (ad (b + 6)), .ref (ad (b + 7)), .int (f 7), .int (f 8), .int (f 9)]
theorem oL {b : Nat} (h : isL b) {ad : Nat → Nat} {cI cZ cB : ClassId} : OB (glC ad cI cZ cB) 60 b 3 (fsL b ad) := by
  rcases h with rfl | rfl <;> exact ⟨by decide, fun _ => rfl⟩
theorem aF1 {b : Nat} (h : isF b) {ad : Nat → Nat} {cI cZ cB : ClassId} : IA (glC ad cI cZ cB) 60 (b + 1) cI 40 := by
  rcases h with rfl | rfl | rfl <;> exact ⟨by decide, fun _ => rfl⟩
theorem aF2 {b : Nat} (h : isF b) {ad : Nat → Nat} {cI cZ cB : ClassId} : IA (glC ad cI cZ cB) 60 (b + 2) cI 40 := by
  rcases h with rfl | rfl | rfl <;> exact ⟨by decide, fun _ => rfl⟩
theorem aF3 {b : Nat} (h : isF b) {ad : Nat → Nat} {cI cZ cB : ClassId} : IA (glC ad cI cZ cB) 60 (b + 3) cI 40 := by
  rcases h with rfl | rfl | rfl <;> exact ⟨by decide, fun _ => rfl⟩
theorem aF4 {b : Nat} (h : isF b) {ad : Nat → Nat} {cI cZ cB : ClassId} : IA (glC ad cI cZ cB) 60 (b + 4) cZ 40 := by
  rcases h with rfl | rfl | rfl <;> exact ⟨by decide, fun _ => rfl⟩
theorem aF5 {b : Nat} (h : isF b) {ad : Nat → Nat} {cI cZ cB : ClassId} : IA (glC ad cI cZ cB) 60 (b + 5) cZ 40 := by
  rcases h with rfl | rfl | rfl <;> exact ⟨by decide, fun _ => rfl⟩
theorem aL1 {b : Nat} (h : isL b) {ad : Nat → Nat} {cI cZ cB : ClassId} : IA (glC ad cI cZ cB) 60 (b + 1) cI 240 := by
  rcases h with rfl | rfl <;> exact ⟨by decide, fun _ => rfl⟩
theorem aL2 {b : Nat} (h : isL b) {ad : Nat → Nat} {cI cZ cB : ClassId} : IA (glC ad cI cZ cB) 60 (b + 2) cI 240 := by
  rcases h with rfl | rfl <;> exact ⟨by decide, fun _ => rfl⟩
theorem aL3 {b : Nat} (h : isL b) {ad : Nat → Nat} {cI cZ cB : ClassId} : IA (glC ad cI cZ cB) 60 (b + 3) cI 32 := by
  rcases h with rfl | rfl <;> exact ⟨by decide, fun _ => rfl⟩
theorem aL4 {b : Nat} (h : isL b) {ad : Nat → Nat} {cI cZ cB : ClassId} : IA (glC ad cI cZ cB) 60 (b + 4) cI 16 := by
  rcases h with rfl | rfl <;> exact ⟨by decide, fun _ => rfl⟩
theorem aL5 {b : Nat} (h : isL b) {ad : Nat → Nat} {cI cZ cB : ClassId} : IA (glC ad cI cZ cB) 60 (b + 5) cI 16 := by
  rcases h with rfl | rfl <;> exact ⟨by decide, fun _ => rfl⟩
theorem aL6 {b : Nat} (h : isL b) {ad : Nat → Nat} {cI cZ cB : ClassId} : IA (glC ad cI cZ cB) 60 (b + 6) cI 16 := by
  rcases h with rfl | rfl <;> exact ⟨by decide, fun _ => rfl⟩
theorem aL7 {b : Nat} (h : isL b) {ad : Nat → Nat} {cI cZ cB : ClassId} : IA (glC ad cI cZ cB) 60 (b + 7) cI 16 := by
  rcases h with rfl | rfl <;> exact ⟨by decide, fun _ => rfl⟩
/-! small rows -/
theorem vin_of {x : Int32} {n : Nat} (h0 : ¬ x < 0) (h : ¬ nI n ≤ x) (hn : n < 2 ^ 31 := by decide) : vp_in x n := by
  rw [vp_in_iff]
  rw [Int32.lt_iff_toInt_lt, Int32.toInt_zero] at h0
  rw [Int32.le_iff_toInt_le, nI_toInt hn] at h
  omega
theorem ix_of {x : Int32} {n : Nat} (h0 : ¬ x < 0) (h : ¬ nI n ≤ x) (hn : n < 2 ^ 31 := by decide) : ∃ i : Nat, i < n ∧ x = nI i := vp_in_of (vin_of h0 h hn) hn
theorem mset_get {M : Mem} {k i a b : Nat} {x : Int32} : mset M k i x a b = if a = k ∧ b = i then x else M a b := by
  unfold mset upd
  by_cases h1 : a = k
  · by_cases h2 : b = i
    · simp [h1, h2]
    · simp [h1, h2]
  · simp [h1]
def bI (p : Prop) [Decidable p] : Int32 := if p then 1 else 0
theorem bI_t {p : Prop} [Decidable p] (h : p) : nI 1 = bI p := by rw [bI, if_pos h]; rfl
theorem bI_f {p : Prop} [Decidable p] (h : ¬ p) : nI 0 = bI p := by rw [bI, if_neg h]; rfl
theorem bI_ne {p : Prop} [Decidable p] (h : ¬ bI p = 0) : p := by
  by_cases hp : p
  · exact hp
  · exact absurd (by rw [bI, if_neg hp]) h
theorem bI_eq {p : Prop} [Decidable p] (h : bI p = 0) : ¬ p := by
  intro hp
  rw [bI, if_pos hp] at h
  exact absurd h (by decide)
theorem q_lt {x : Int32} {n : Nat} (h : n < 2 ^ 31) : x < nI n ↔ x.toInt < (n : Int) := by rw [Int32.lt_iff_toInt_lt, nI_toInt h]
theorem q_ge {x : Int32} {n : Nat} (h : n < 2 ^ 31) : nI n ≤ x ↔ (n : Int) ≤ x.toInt := by rw [Int32.le_iff_toInt_le, nI_toInt h]
theorem q_gt {x : Int32} {n : Nat} (h : n < 2 ^ 31) : nI n < x ↔ (n : Int) < x.toInt := by rw [Int32.lt_iff_toInt_lt, nI_toInt h]
theorem q_le {x : Int32} {n : Nat} (h : n < 2 ^ 31) : x ≤ nI n ↔ x.toInt ≤ (n : Int) := by rw [Int32.le_iff_toInt_le, nI_toInt h]
theorem q_eq {x : Int32} {n : Nat} (h : n < 2 ^ 31) : x = nI n ↔ x.toInt = (n : Int) := by rw [← Int32.toInt_inj, nI_toInt h]
theorem z_eq {x : Int32} : x = 0 ↔ x.toInt = 0 := by rw [← Int32.toInt_inj, Int32.toInt_zero]
theorem z_lt {x : Int32} : x < 0 ↔ x.toInt < 0 := by rw [Int32.lt_iff_toInt_lt, Int32.toInt_zero]
theorem z_ge {x : Int32} : 0 ≤ x ↔ 0 ≤ x.toInt := by rw [Int32.le_iff_toInt_le, Int32.toInt_zero]
theorem z_gt {x : Int32} : 0 < x ↔ 0 < x.toInt := by rw [Int32.lt_iff_toInt_lt, Int32.toInt_zero]
theorem z_le {x : Int32} : x ≤ 0 ↔ x.toInt ≤ 0 := by rw [Int32.le_iff_toInt_le, Int32.toInt_zero]
theorem ixi {x : Int32} {n : Nat} (h0 : 0 ≤ x.toInt) (h1 : x.toInt < (n : Int)) (hn : n < 2 ^ 31 := by decide) : ∃ j : Nat, j < n ∧ x = nI j := vp_in_of (vp_in_iff.mpr ⟨h0, h1⟩) hn
theorem neg1_ne {n : Nat} (h : n < 2 ^ 31) : ¬ nI n = (-1 : Int32) := by
  rw [← Int32.toInt_inj, nI_toInt h]
  have : ((-1 : Int32)).toInt = -1 := by decide
  omega
theorem bool0 : vp_nar .boolean 0 = 0 := by decide
end
section
/-! rows for the class, leaves -/
theorem ap1 {M : Mem} {z i : Nat} : mset M 19 1 (nI (z + i) + nI 1) 19 1 = nI (z + (i + 1)) := by rw [mset_get, if_pos ⟨rfl, rfl⟩, nI_add]; rfl
theorem ap2 : ∀ i, i < 4 → nI (32 - 8 * i) - 8 + Int32.ofInt (-8) = nI (32 - 8 * (i + 1)) - 8 := by decide
theorem ap3 {x : Int32} {i : Nat} (h : x = nI (32 - 8 * i) - 8) (c : x.toInt < 0) (hi : i ≤ 4) : i = 4 := by
  have h2 : ∀ k, k < 4 → ¬ (nI (32 - 8 * k) - 8).toInt < 0 := by decide
  rcases Nat.lt_or_ge i 4 with q | q
  · exact absurd (h ▸ c) (h2 i q)
  · omega
theorem ap4 {x : Int32} {i : Nat} (h : x = nI (32 - 8 * i) - 8) (c : ¬ x.toInt < 0) (hi : i ≤ 4) : i < 4 := by
  rcases Nat.lt_or_ge i 4 with q | q
  · exact q
  · have : i = 4 := by omega
    subst this
    exact absurd (h ▸ (by decide)) c
theorem ap5 {M : Mem} {j : Nat} {v w : Int32} (h : M 19 1 = w) : mset M 20 j v 19 1 = w := by rw [mset_get, if_neg (by omega)]; exact h
theorem cp1 {M Mi : Mem} {b i : Nat} {v1 v2 v3 v4 v5 : Int32} (hf : ∀ a c, (a < b + 1 ∨ b + 5 < a) → Mi a c = M a c) : ∀ a c, (a < b + 1 ∨ b + 5 < a) → mset (mset (mset (mset (mset Mi (b + 1) i v1) (b + 2) i v2) (b + 3) i v3) (b + 4) i v4) (b + 5) i v5 a c = M a c := by
  intro a c h
  simp only [mset_get]
  rw [if_neg (by omega), if_neg (by omega), if_neg (by omega), if_neg (by omega), if_neg (by omega)]
  exact hf a c h
theorem cp2 {M Mi : Mem} {b b2 i : Nat} {v1 v2 v3 v5 : Int32} (hb : isF b) (hb2 : isF b2) (hne : b ≠ b2) (hf : ∀ a c, (a < b + 1 ∨ b + 5 < a) → Mi a c = M a c) (ht : ∀ j, j < i → Mi (b + 4) j = vp_nar .boolean (M (b2 + 4) j)) :
    ∀ j, j < i + 1 → mset (mset (mset (mset (mset Mi (b + 1) i v1) (b + 2) i v2) (b + 3) i v3) (b + 4) i (vp_nar .boolean (mset (mset (mset Mi (b + 1) i v1) (b + 2) i v2) (b + 3) i v3 (b2 + 4) i))) (b + 5) i v5 (b + 4) j = vp_nar .boolean (M (b2 + 4) j) := by
  intro j hj
  have hb0 : b = 1 ∨ b = 7 ∨ b = 13 := hb
  have hb1 : b2 = 1 ∨ b2 = 7 ∨ b2 = 13 := hb2
  simp only [mset_get]
  rw [if_neg (by omega)]
  by_cases hji : j = i
  · subst hji
    rw [if_pos (by simp), if_neg (by omega), if_neg (by omega), if_neg (by omega), hf (b2 + 4) j (by omega)]
  · rw [if_neg (by omega), if_neg (by omega), if_neg (by omega), if_neg (by omega)]
    exact ht j (by omega)
theorem cp3 {M M1 : Mem} {b : Nat} {v1 v2 : Int32} (hf : ∀ a c, (a < b + 1 ∨ b + 5 < a) → M1 a c = M a c) : ∀ a c, (a < b ∨ b + 5 < a) → mset (mset M1 b 5 v1) b 6 v2 a c = M a c := by
  intro a c h
  simp only [mset_get]
  rw [if_neg (by omega), if_neg (by omega)]
  exact hf a c (by omega)
theorem cp4 {M M1 : Mem} {b b2 : Nat} {v1 v2 : Int32} (ht : ∀ j, j < 40 → M1 (b + 4) j = vp_nar .boolean (M (b2 + 4) j)) : ∀ j, j < 40 → mset (mset M1 b 5 v1) b 6 v2 (b + 4) j = vp_nar .boolean (M (b2 + 4) j) := by
  intro j h
  simp only [mset_get]
  rw [if_neg (by omega), if_neg (by omega)]
  exact ht j h
theorem dX9_isStone_0 : decode cX9_isStone 0 = .ok (.iload_n 0, 1) := by decide +kernel
theorem dX9_isStone_1 : decode cX9_isStone 1 = .ok (.ifCond .lt 13, 3) := by decide +kernel
theorem dX9_isStone_4 : decode cX9_isStone 4 = .ok (.iload_n 0, 1) := by decide +kernel
theorem dX9_isStone_5 : decode cX9_isStone 5 = .ok (.bipush 40, 2) := by decide +kernel
theorem dX9_isStone_7 : decode cX9_isStone 7 = .ok (.if_icmp .ge 7, 3) := by decide +kernel
theorem dX9_isStone_10 : decode cX9_isStone 10 = .ok (.iconst 1, 1) := by decide +kernel
theorem dX9_isStone_11 : decode cX9_isStone 11 = .ok (.goto 4, 3) := by decide +kernel
theorem dX9_isStone_14 : decode cX9_isStone 14 = .ok (.iconst 0, 1) := by decide +kernel
theorem dX9_isStone_15 : decode cX9_isStone 15 = .ok (.ireturn, 1) := by decide +kernel
theorem dX9_isStride_0 : decode cX9_isStride 0 = .ok (.iload_n 0, 1) := by decide +kernel
theorem dX9_isStride_1 : decode cX9_isStride 1 = .ok (.iconst 1, 1) := by decide +kernel
theorem dX9_isStride_2 : decode cX9_isStride 2 = .ok (.if_icmp .lt 13, 3) := by decide +kernel
theorem dX9_isStride_5 : decode cX9_isStride 5 = .ok (.iload_n 0, 1) := by decide +kernel
theorem dX9_isStride_6 : decode cX9_isStride 6 = .ok (.bipush 30, 2) := by decide +kernel
theorem dX9_isStride_8 : decode cX9_isStride 8 = .ok (.if_icmp .gt 7, 3) := by decide +kernel
theorem dX9_isStride_11 : decode cX9_isStride 11 = .ok (.iconst 1, 1) := by decide +kernel
theorem dX9_isStride_12 : decode cX9_isStride 12 = .ok (.goto 4, 3) := by decide +kernel
theorem dX9_isStride_15 : decode cX9_isStride 15 = .ok (.iconst 0, 1) := by decide +kernel
theorem dX9_isStride_16 : decode cX9_isStride 16 = .ok (.ireturn, 1) := by decide +kernel
theorem dX9_isNights_0 : decode cX9_isNights 0 = .ok (.iload_n 0, 1) := by decide +kernel
theorem dX9_isNights_1 : decode cX9_isNights 1 = .ok (.iconst 1, 1) := by decide +kernel
theorem dX9_isNights_2 : decode cX9_isNights 2 = .ok (.if_icmp .lt 13, 3) := by decide +kernel
theorem dX9_isNights_5 : decode cX9_isNights 5 = .ok (.iload_n 0, 1) := by decide +kernel
theorem dX9_isNights_6 : decode cX9_isNights 6 = .ok (.bipush 60, 2) := by decide +kernel
theorem dX9_isNights_8 : decode cX9_isNights 8 = .ok (.if_icmp .gt 7, 3) := by decide +kernel
theorem dX9_isNights_11 : decode cX9_isNights 11 = .ok (.iconst 1, 1) := by decide +kernel
theorem dX9_isNights_12 : decode cX9_isNights 12 = .ok (.goto 4, 3) := by decide +kernel
theorem dX9_isNights_15 : decode cX9_isNights 15 = .ok (.iconst 0, 1) := by decide +kernel
theorem dX9_isNights_16 : decode cX9_isNights 16 = .ok (.ireturn, 1) := by decide +kernel
theorem dX9_isEither_0 : decode cX9_isEither 0 = .ok (.iload_n 0, 1) := by decide +kernel
theorem dX9_isEither_1 : decode cX9_isEither 1 = .ok (.ifCond .eq 8, 3) := by decide +kernel
theorem dX9_isEither_4 : decode cX9_isEither 4 = .ok (.iload_n 0, 1) := by decide +kernel
theorem dX9_isEither_5 : decode cX9_isEither 5 = .ok (.iconst 1, 1) := by decide +kernel
theorem dX9_isEither_6 : decode cX9_isEither 6 = .ok (.if_icmp .ne 7, 3) := by decide +kernel
theorem dX9_isEither_9 : decode cX9_isEither 9 = .ok (.iconst 1, 1) := by decide +kernel
theorem dX9_isEither_10 : decode cX9_isEither 10 = .ok (.goto 4, 3) := by decide +kernel
theorem dX9_isEither_13 : decode cX9_isEither 13 = .ok (.iconst 0, 1) := by decide +kernel
theorem dX9_isEither_14 : decode cX9_isEither 14 = .ok (.ireturn, 1) := by decide +kernel
theorem dX9_isPlace_0 : decode cX9_isPlace 0 = .ok (.iload_n 0, 1) := by decide +kernel
theorem dX9_isPlace_1 : decode cX9_isPlace 1 = .ok (.ifCond .lt 24, 3) := by decide +kernel
theorem dX9_isPlace_4 : decode cX9_isPlace 4 = .ok (.iload_n 0, 1) := by decide +kernel
theorem dX9_isPlace_5 : decode cX9_isPlace 5 = .ok (.bipush 39, 2) := by decide +kernel
theorem dX9_isPlace_7 : decode cX9_isPlace 7 = .ok (.if_icmp .gt 18, 3) := by decide +kernel
theorem dX9_isPlace_10 : decode cX9_isPlace 10 = .ok (.iload_n 1, 1) := by decide +kernel
theorem dX9_isPlace_11 : decode cX9_isPlace 11 = .ok (.iconst 1, 1) := by decide +kernel
theorem dX9_isPlace_12 : decode cX9_isPlace 12 = .ok (.if_icmp .lt 13, 3) := by decide +kernel
theorem dX9_isPlace_15 : decode cX9_isPlace 15 = .ok (.iload_n 1, 1) := by decide +kernel
theorem dX9_isPlace_16 : decode cX9_isPlace 16 = .ok (.bipush 20, 2) := by decide +kernel
theorem dX9_isPlace_18 : decode cX9_isPlace 18 = .ok (.if_icmp .gt 7, 3) := by decide +kernel
theorem dX9_isPlace_21 : decode cX9_isPlace 21 = .ok (.iconst 1, 1) := by decide +kernel
theorem dX9_isPlace_22 : decode cX9_isPlace 22 = .ok (.goto 4, 3) := by decide +kernel
theorem dX9_isPlace_25 : decode cX9_isPlace 25 = .ok (.iconst 0, 1) := by decide +kernel
theorem dX9_isPlace_26 : decode cX9_isPlace 26 = .ok (.ireturn, 1) := by decide +kernel
theorem dX9_strideOf_0 : decode cX9_strideOf 0 = .ok (.iload_n 1, 1) := by decide +kernel
theorem dX9_strideOf_1 : decode cX9_strideOf 1 = .ok (.ifCond .lt 18, 3) := by decide +kernel
theorem dX9_strideOf_4 : decode cX9_strideOf 4 = .ok (.iload_n 1, 1) := by decide +kernel
theorem dX9_strideOf_5 : decode cX9_strideOf 5 = .ok (.bipush 8, 2) := by decide +kernel
theorem dX9_strideOf_7 : decode cX9_strideOf 7 = .ok (.if_icmp .ge 12, 3) := by decide +kernel
theorem dX9_strideOf_10 : decode cX9_strideOf 10 = .ok (.aload_n 0, 1) := by decide +kernel
theorem dX9_strideOf_11 : decode cX9_strideOf 11 = .ok (.getfield 64, 3) := by decide +kernel
theorem dX9_strideOf_14 : decode cX9_strideOf 14 = .ok (.iload_n 1, 1) := by decide +kernel
theorem dX9_strideOf_15 : decode cX9_strideOf 15 = .ok (.iaload, 1) := by decide +kernel
theorem dX9_strideOf_16 : decode cX9_strideOf 16 = .ok (.goto 4, 3) := by decide +kernel
theorem dX9_strideOf_19 : decode cX9_strideOf 19 = .ok (.iconst 0, 1) := by decide +kernel
theorem dX9_strideOf_20 : decode cX9_strideOf 20 = .ok (.ireturn, 1) := by decide +kernel
theorem dX9_toldPeople_0 : decode cX9_toldPeople 0 = .ok (.iconst 0, 1) := by decide +kernel
theorem dX9_toldPeople_1 : decode cX9_toldPeople 1 = .ok (.istore_n 1, 1) := by decide +kernel
theorem dX9_toldPeople_2 : decode cX9_toldPeople 2 = .ok (.iconst 0, 1) := by decide +kernel
theorem dX9_toldPeople_3 : decode cX9_toldPeople 3 = .ok (.istore_n 2, 1) := by decide +kernel
theorem dX9_toldPeople_4 : decode cX9_toldPeople 4 = .ok (.iload_n 2, 1) := by decide +kernel
theorem dX9_toldPeople_5 : decode cX9_toldPeople 5 = .ok (.bipush 8, 2) := by decide +kernel
theorem dX9_toldPeople_7 : decode cX9_toldPeople 7 = .ok (.if_icmp .ge 24, 3) := by decide +kernel
theorem dX9_toldPeople_10 : decode cX9_toldPeople 10 = .ok (.aload_n 0, 1) := by decide +kernel
theorem dX9_toldPeople_11 : decode cX9_toldPeople 11 = .ok (.getfield 64, 3) := by decide +kernel
theorem dX9_toldPeople_14 : decode cX9_toldPeople 14 = .ok (.iload_n 2, 1) := by decide +kernel
theorem dX9_toldPeople_15 : decode cX9_toldPeople 15 = .ok (.iaload, 1) := by decide +kernel
theorem dX9_toldPeople_16 : decode cX9_toldPeople 16 = .ok (.ifCond .eq 9, 3) := by decide +kernel
theorem dX9_toldPeople_19 : decode cX9_toldPeople 19 = .ok (.iload_n 1, 1) := by decide +kernel
theorem dX9_toldPeople_20 : decode cX9_toldPeople 20 = .ok (.iconst 1, 1) := by decide +kernel
theorem dX9_toldPeople_21 : decode cX9_toldPeople 21 = .ok (.iload_n 2, 1) := by decide +kernel
theorem dX9_toldPeople_22 : decode cX9_toldPeople 22 = .ok (.ishl, 1) := by decide +kernel
theorem dX9_toldPeople_23 : decode cX9_toldPeople 23 = .ok (.ior, 1) := by decide +kernel
theorem dX9_toldPeople_24 : decode cX9_toldPeople 24 = .ok (.istore_n 1, 1) := by decide +kernel
theorem dX9_toldPeople_25 : decode cX9_toldPeople 25 = .ok (.iinc 2 1, 3) := by decide +kernel
theorem dX9_toldPeople_28 : decode cX9_toldPeople 28 = .ok (.goto (-24), 3) := by decide +kernel
theorem dX9_toldPeople_31 : decode cX9_toldPeople 31 = .ok (.iload_n 1, 1) := by decide +kernel
theorem dX9_toldPeople_32 : decode cX9_toldPeople 32 = .ok (.ireturn, 1) := by decide +kernel
theorem dX2_isTold_0 : decode cX2_isTold 0 = .ok (.iload_n 1, 1) := by decide +kernel
theorem dX2_isTold_1 : decode cX2_isTold 1 = .ok (.ifCond .lt 22, 3) := by decide +kernel
theorem dX2_isTold_4 : decode cX2_isTold 4 = .ok (.iload_n 1, 1) := by decide +kernel
theorem dX2_isTold_5 : decode cX2_isTold 5 = .ok (.bipush 40, 2) := by decide +kernel
theorem dX2_isTold_7 : decode cX2_isTold 7 = .ok (.if_icmp .ge 16, 3) := by decide +kernel
theorem dX2_isTold_10 : decode cX2_isTold 10 = .ok (.aload_n 0, 1) := by decide +kernel
theorem dX2_isTold_11 : decode cX2_isTold 11 = .ok (.getfield 21, 3) := by decide +kernel
theorem dX2_isTold_14 : decode cX2_isTold 14 = .ok (.iload_n 1, 1) := by decide +kernel
theorem dX2_isTold_15 : decode cX2_isTold 15 = .ok (.baload, 1) := by decide +kernel
theorem dX2_isTold_16 : decode cX2_isTold 16 = .ok (.ifCond .eq 7, 3) := by decide +kernel
theorem dX2_isTold_19 : decode cX2_isTold 19 = .ok (.iconst 1, 1) := by decide +kernel
theorem dX2_isTold_20 : decode cX2_isTold 20 = .ok (.goto 4, 3) := by decide +kernel
theorem dX2_isTold_23 : decode cX2_isTold 23 = .ok (.iconst 0, 1) := by decide +kernel
theorem dX2_isTold_24 : decode cX2_isTold 24 = .ok (.ireturn, 1) := by decide +kernel
theorem dX2_isDry_0 : decode cX2_isDry 0 = .ok (.iload_n 1, 1) := by decide +kernel
theorem dX2_isDry_1 : decode cX2_isDry 1 = .ok (.ifCond .lt 31, 3) := by decide +kernel
theorem dX2_isDry_4 : decode cX2_isDry 4 = .ok (.iload_n 1, 1) := by decide +kernel
theorem dX2_isDry_5 : decode cX2_isDry 5 = .ok (.bipush 40, 2) := by decide +kernel
theorem dX2_isDry_7 : decode cX2_isDry 7 = .ok (.if_icmp .ge 25, 3) := by decide +kernel
theorem dX2_isDry_10 : decode cX2_isDry 10 = .ok (.aload_n 0, 1) := by decide +kernel
theorem dX2_isDry_11 : decode cX2_isDry 11 = .ok (.getfield 21, 3) := by decide +kernel
theorem dX2_isDry_14 : decode cX2_isDry 14 = .ok (.iload_n 1, 1) := by decide +kernel
theorem dX2_isDry_15 : decode cX2_isDry 15 = .ok (.baload, 1) := by decide +kernel
theorem dX2_isDry_16 : decode cX2_isDry 16 = .ok (.ifCond .eq 16, 3) := by decide +kernel
theorem dX2_isDry_19 : decode cX2_isDry 19 = .ok (.aload_n 0, 1) := by decide +kernel
theorem dX2_isDry_20 : decode cX2_isDry 20 = .ok (.getfield 25, 3) := by decide +kernel
theorem dX2_isDry_23 : decode cX2_isDry 23 = .ok (.iload_n 1, 1) := by decide +kernel
theorem dX2_isDry_24 : decode cX2_isDry 24 = .ok (.baload, 1) := by decide +kernel
theorem dX2_isDry_25 : decode cX2_isDry 25 = .ok (.ifCond .ne 7, 3) := by decide +kernel
theorem dX2_isDry_28 : decode cX2_isDry 28 = .ok (.iconst 1, 1) := by decide +kernel
theorem dX2_isDry_29 : decode cX2_isDry 29 = .ok (.goto 4, 3) := by decide +kernel
theorem dX2_isDry_32 : decode cX2_isDry 32 = .ok (.iconst 0, 1) := by decide +kernel
theorem dX2_isDry_33 : decode cX2_isDry 33 = .ok (.ireturn, 1) := by decide +kernel
theorem dX2_stoneAt_0 : decode cX2_stoneAt 0 = .ok (.iconst 0, 1) := by decide +kernel
theorem dX2_stoneAt_1 : decode cX2_stoneAt 1 = .ok (.istore_n 3, 1) := by decide +kernel
theorem dX2_stoneAt_2 : decode cX2_stoneAt 2 = .ok (.iload_n 3, 1) := by decide +kernel
theorem dX2_stoneAt_3 : decode cX2_stoneAt 3 = .ok (.bipush 40, 2) := by decide +kernel
theorem dX2_stoneAt_5 : decode cX2_stoneAt 5 = .ok (.if_icmp .ge 40, 3) := by decide +kernel
theorem dX2_stoneAt_8 : decode cX2_stoneAt 8 = .ok (.aload_n 0, 1) := by decide +kernel
theorem dX2_stoneAt_9 : decode cX2_stoneAt 9 = .ok (.getfield 21, 3) := by decide +kernel
theorem dX2_stoneAt_12 : decode cX2_stoneAt 12 = .ok (.iload_n 3, 1) := by decide +kernel
theorem dX2_stoneAt_13 : decode cX2_stoneAt 13 = .ok (.baload, 1) := by decide +kernel
theorem dX2_stoneAt_14 : decode cX2_stoneAt 14 = .ok (.ifCond .eq 25, 3) := by decide +kernel
theorem dX2_stoneAt_17 : decode cX2_stoneAt 17 = .ok (.aload_n 0, 1) := by decide +kernel
theorem dX2_stoneAt_18 : decode cX2_stoneAt 18 = .ok (.getfield 9, 3) := by decide +kernel
theorem dX2_stoneAt_21 : decode cX2_stoneAt 21 = .ok (.iload_n 3, 1) := by decide +kernel
theorem dX2_stoneAt_22 : decode cX2_stoneAt 22 = .ok (.iaload, 1) := by decide +kernel
theorem dX2_stoneAt_23 : decode cX2_stoneAt 23 = .ok (.iload_n 1, 1) := by decide +kernel
theorem dX2_stoneAt_24 : decode cX2_stoneAt 24 = .ok (.if_icmp .ne 15, 3) := by decide +kernel
theorem dX2_stoneAt_27 : decode cX2_stoneAt 27 = .ok (.aload_n 0, 1) := by decide +kernel
theorem dX2_stoneAt_28 : decode cX2_stoneAt 28 = .ok (.getfield 15, 3) := by decide +kernel
theorem dX2_stoneAt_31 : decode cX2_stoneAt 31 = .ok (.iload_n 3, 1) := by decide +kernel
theorem dX2_stoneAt_32 : decode cX2_stoneAt 32 = .ok (.iaload, 1) := by decide +kernel
theorem dX2_stoneAt_33 : decode cX2_stoneAt 33 = .ok (.iload_n 2, 1) := by decide +kernel
theorem dX2_stoneAt_34 : decode cX2_stoneAt 34 = .ok (.if_icmp .ne 5, 3) := by decide +kernel
theorem dX2_stoneAt_37 : decode cX2_stoneAt 37 = .ok (.iload_n 3, 1) := by decide +kernel
theorem dX2_stoneAt_38 : decode cX2_stoneAt 38 = .ok (.ireturn, 1) := by decide +kernel
theorem dX2_stoneAt_39 : decode cX2_stoneAt 39 = .ok (.iinc 3 1, 3) := by decide +kernel
theorem dX2_stoneAt_42 : decode cX2_stoneAt 42 = .ok (.goto (-40), 3) := by decide +kernel
theorem dX2_stoneAt_45 : decode cX2_stoneAt 45 = .ok (.iconst (-1), 1) := by decide +kernel
theorem dX2_stoneAt_46 : decode cX2_stoneAt 46 = .ok (.ireturn, 1) := by decide +kernel
theorem dX2_countTold_0 : decode cX2_countTold 0 = .ok (.iconst 0, 1) := by decide +kernel
theorem dX2_countTold_1 : decode cX2_countTold 1 = .ok (.istore_n 1, 1) := by decide +kernel
theorem dX2_countTold_2 : decode cX2_countTold 2 = .ok (.iconst 0, 1) := by decide +kernel
theorem dX2_countTold_3 : decode cX2_countTold 3 = .ok (.istore_n 2, 1) := by decide +kernel
theorem dX2_countTold_4 : decode cX2_countTold 4 = .ok (.iload_n 2, 1) := by decide +kernel
theorem dX2_countTold_5 : decode cX2_countTold 5 = .ok (.bipush 40, 2) := by decide +kernel
theorem dX2_countTold_7 : decode cX2_countTold 7 = .ok (.if_icmp .ge 26, 3) := by decide +kernel
theorem dX2_countTold_10 : decode cX2_countTold 10 = .ok (.iload_n 1, 1) := by decide +kernel
theorem dX2_countTold_11 : decode cX2_countTold 11 = .ok (.aload_n 0, 1) := by decide +kernel
theorem dX2_countTold_12 : decode cX2_countTold 12 = .ok (.getfield 21, 3) := by decide +kernel
theorem dX2_countTold_15 : decode cX2_countTold 15 = .ok (.iload_n 2, 1) := by decide +kernel
theorem dX2_countTold_16 : decode cX2_countTold 16 = .ok (.baload, 1) := by decide +kernel
theorem dX2_countTold_17 : decode cX2_countTold 17 = .ok (.ifCond .eq 7, 3) := by decide +kernel
theorem dX2_countTold_20 : decode cX2_countTold 20 = .ok (.iconst 1, 1) := by decide +kernel
theorem dX2_countTold_21 : decode cX2_countTold 21 = .ok (.goto 4, 3) := by decide +kernel
theorem dX2_countTold_24 : decode cX2_countTold 24 = .ok (.iconst 0, 1) := by decide +kernel
theorem dX2_countTold_25 : decode cX2_countTold 25 = .ok (.iadd, 1) := by decide +kernel
theorem dX2_countTold_26 : decode cX2_countTold 26 = .ok (.istore_n 1, 1) := by decide +kernel
theorem dX2_countTold_27 : decode cX2_countTold 27 = .ok (.iinc 2 1, 3) := by decide +kernel
theorem dX2_countTold_30 : decode cX2_countTold 30 = .ok (.goto (-26), 3) := by decide +kernel
theorem dX2_countTold_33 : decode cX2_countTold 33 = .ok (.iload_n 1, 1) := by decide +kernel
theorem dX2_countTold_34 : decode cX2_countTold 34 = .ok (.ireturn, 1) := by decide +kernel
theorem dX2_countSunk_0 : decode cX2_countSunk 0 = .ok (.iconst 0, 1) := by decide +kernel
theorem dX2_countSunk_1 : decode cX2_countSunk 1 = .ok (.istore_n 1, 1) := by decide +kernel
theorem dX2_countSunk_2 : decode cX2_countSunk 2 = .ok (.iconst 0, 1) := by decide +kernel
theorem dX2_countSunk_3 : decode cX2_countSunk 3 = .ok (.istore_n 2, 1) := by decide +kernel
theorem dX2_countSunk_4 : decode cX2_countSunk 4 = .ok (.iload_n 2, 1) := by decide +kernel
theorem dX2_countSunk_5 : decode cX2_countSunk 5 = .ok (.bipush 40, 2) := by decide +kernel
theorem dX2_countSunk_7 : decode cX2_countSunk 7 = .ok (.if_icmp .ge 35, 3) := by decide +kernel
theorem dX2_countSunk_10 : decode cX2_countSunk 10 = .ok (.iload_n 1, 1) := by decide +kernel
theorem dX2_countSunk_11 : decode cX2_countSunk 11 = .ok (.aload_n 0, 1) := by decide +kernel
theorem dX2_countSunk_12 : decode cX2_countSunk 12 = .ok (.getfield 21, 3) := by decide +kernel
theorem dX2_countSunk_15 : decode cX2_countSunk 15 = .ok (.iload_n 2, 1) := by decide +kernel
theorem dX2_countSunk_16 : decode cX2_countSunk 16 = .ok (.baload, 1) := by decide +kernel
theorem dX2_countSunk_17 : decode cX2_countSunk 17 = .ok (.ifCond .eq 16, 3) := by decide +kernel
theorem dX2_countSunk_20 : decode cX2_countSunk 20 = .ok (.aload_n 0, 1) := by decide +kernel
theorem dX2_countSunk_21 : decode cX2_countSunk 21 = .ok (.getfield 25, 3) := by decide +kernel
theorem dX2_countSunk_24 : decode cX2_countSunk 24 = .ok (.iload_n 2, 1) := by decide +kernel
theorem dX2_countSunk_25 : decode cX2_countSunk 25 = .ok (.baload, 1) := by decide +kernel
theorem dX2_countSunk_26 : decode cX2_countSunk 26 = .ok (.ifCond .eq 7, 3) := by decide +kernel
theorem dX2_countSunk_29 : decode cX2_countSunk 29 = .ok (.iconst 1, 1) := by decide +kernel
theorem dX2_countSunk_30 : decode cX2_countSunk 30 = .ok (.goto 4, 3) := by decide +kernel
theorem dX2_countSunk_33 : decode cX2_countSunk 33 = .ok (.iconst 0, 1) := by decide +kernel
theorem dX2_countSunk_34 : decode cX2_countSunk 34 = .ok (.iadd, 1) := by decide +kernel
theorem dX2_countSunk_35 : decode cX2_countSunk 35 = .ok (.istore_n 1, 1) := by decide +kernel
theorem dX2_countSunk_36 : decode cX2_countSunk 36 = .ok (.iinc 2 1, 3) := by decide +kernel
theorem dX2_countSunk_39 : decode cX2_countSunk 39 = .ok (.goto (-35), 3) := by decide +kernel
theorem dX2_countSunk_42 : decode cX2_countSunk 42 = .ok (.iload_n 1, 1) := by decide +kernel
theorem dX2_countSunk_43 : decode cX2_countSunk 43 = .ok (.ireturn, 1) := by decide +kernel
theorem dX2_sumOfX_0 : decode cX2_sumOfX 0 = .ok (.iconst 0, 1) := by decide +kernel
theorem dX2_sumOfX_1 : decode cX2_sumOfX 1 = .ok (.istore_n 1, 1) := by decide +kernel
theorem dX2_sumOfX_2 : decode cX2_sumOfX 2 = .ok (.iconst 0, 1) := by decide +kernel
theorem dX2_sumOfX_3 : decode cX2_sumOfX 3 = .ok (.istore_n 2, 1) := by decide +kernel
theorem dX2_sumOfX_4 : decode cX2_sumOfX 4 = .ok (.iload_n 2, 1) := by decide +kernel
theorem dX2_sumOfX_5 : decode cX2_sumOfX 5 = .ok (.bipush 40, 2) := by decide +kernel
theorem dX2_sumOfX_7 : decode cX2_sumOfX 7 = .ok (.if_icmp .ge 31, 3) := by decide +kernel
theorem dX2_sumOfX_10 : decode cX2_sumOfX 10 = .ok (.iload_n 1, 1) := by decide +kernel
theorem dX2_sumOfX_11 : decode cX2_sumOfX 11 = .ok (.aload_n 0, 1) := by decide +kernel
theorem dX2_sumOfX_12 : decode cX2_sumOfX 12 = .ok (.getfield 21, 3) := by decide +kernel
theorem dX2_sumOfX_15 : decode cX2_sumOfX 15 = .ok (.iload_n 2, 1) := by decide +kernel
theorem dX2_sumOfX_16 : decode cX2_sumOfX 16 = .ok (.baload, 1) := by decide +kernel
theorem dX2_sumOfX_17 : decode cX2_sumOfX 17 = .ok (.ifCond .eq 12, 3) := by decide +kernel
theorem dX2_sumOfX_20 : decode cX2_sumOfX 20 = .ok (.aload_n 0, 1) := by decide +kernel
theorem dX2_sumOfX_21 : decode cX2_sumOfX 21 = .ok (.getfield 9, 3) := by decide +kernel
theorem dX2_sumOfX_24 : decode cX2_sumOfX 24 = .ok (.iload_n 2, 1) := by decide +kernel
theorem dX2_sumOfX_25 : decode cX2_sumOfX 25 = .ok (.iaload, 1) := by decide +kernel
theorem dX2_sumOfX_26 : decode cX2_sumOfX 26 = .ok (.goto 4, 3) := by decide +kernel
theorem dX2_sumOfX_29 : decode cX2_sumOfX 29 = .ok (.iconst 0, 1) := by decide +kernel
theorem dX2_sumOfX_30 : decode cX2_sumOfX 30 = .ok (.iadd, 1) := by decide +kernel
theorem dX2_sumOfX_31 : decode cX2_sumOfX 31 = .ok (.istore_n 1, 1) := by decide +kernel
theorem dX2_sumOfX_32 : decode cX2_sumOfX 32 = .ok (.iinc 2 1, 3) := by decide +kernel
theorem dX2_sumOfX_35 : decode cX2_sumOfX 35 = .ok (.goto (-31), 3) := by decide +kernel
theorem dX2_sumOfX_38 : decode cX2_sumOfX 38 = .ok (.iload_n 1, 1) := by decide +kernel
theorem dX2_sumOfX_39 : decode cX2_sumOfX 39 = .ok (.ireturn, 1) := by decide +kernel
theorem dX2_lay_0 : decode cX2_lay 0 = .ok (.iload_n 1, 1) := by decide +kernel
theorem dX2_lay_1 : decode cX2_lay 1 = .ok (.ifCond .lt 9, 3) := by decide +kernel
theorem dX2_lay_4 : decode cX2_lay 4 = .ok (.iload_n 1, 1) := by decide +kernel
theorem dX2_lay_5 : decode cX2_lay 5 = .ok (.bipush 40, 2) := by decide +kernel
theorem dX2_lay_7 : decode cX2_lay 7 = .ok (.if_icmp .lt 4, 3) := by decide +kernel
theorem dX2_lay_10 : decode cX2_lay 10 = .ok (.return_, 1) := by decide +kernel
theorem dX2_lay_11 : decode cX2_lay 11 = .ok (.aload_n 0, 1) := by decide +kernel
theorem dX2_lay_12 : decode cX2_lay 12 = .ok (.getfield 9, 3) := by decide +kernel
theorem dX2_lay_15 : decode cX2_lay 15 = .ok (.iload_n 1, 1) := by decide +kernel
theorem dX2_lay_16 : decode cX2_lay 16 = .ok (.iload_n 2, 1) := by decide +kernel
theorem dX2_lay_17 : decode cX2_lay 17 = .ok (.iastore, 1) := by decide +kernel
theorem dX2_lay_18 : decode cX2_lay 18 = .ok (.aload_n 0, 1) := by decide +kernel
theorem dX2_lay_19 : decode cX2_lay 19 = .ok (.getfield 15, 3) := by decide +kernel
theorem dX2_lay_22 : decode cX2_lay 22 = .ok (.iload_n 1, 1) := by decide +kernel
theorem dX2_lay_23 : decode cX2_lay 23 = .ok (.iload_n 3, 1) := by decide +kernel
theorem dX2_lay_24 : decode cX2_lay 24 = .ok (.iastore, 1) := by decide +kernel
theorem dX2_lay_25 : decode cX2_lay 25 = .ok (.aload_n 0, 1) := by decide +kernel
theorem dX2_lay_26 : decode cX2_lay 26 = .ok (.getfield 18, 3) := by decide +kernel
theorem dX2_lay_29 : decode cX2_lay 29 = .ok (.iload_n 1, 1) := by decide +kernel
theorem dX2_lay_30 : decode cX2_lay 30 = .ok (.iload 4, 2) := by decide +kernel
theorem dX2_lay_32 : decode cX2_lay 32 = .ok (.iastore, 1) := by decide +kernel
theorem dX2_lay_33 : decode cX2_lay 33 = .ok (.aload_n 0, 1) := by decide +kernel
theorem dX2_lay_34 : decode cX2_lay 34 = .ok (.getfield 25, 3) := by decide +kernel
theorem dX2_lay_37 : decode cX2_lay 37 = .ok (.iload_n 1, 1) := by decide +kernel
theorem dX2_lay_38 : decode cX2_lay 38 = .ok (.iload 5, 2) := by decide +kernel
theorem dX2_lay_40 : decode cX2_lay 40 = .ok (.bastore, 1) := by decide +kernel
theorem dX2_lay_41 : decode cX2_lay 41 = .ok (.aload_n 0, 1) := by decide +kernel
theorem dX2_lay_42 : decode cX2_lay 42 = .ok (.getfield 21, 3) := by decide +kernel
theorem dX2_lay_45 : decode cX2_lay 45 = .ok (.iload_n 1, 1) := by decide +kernel
theorem dX2_lay_46 : decode cX2_lay 46 = .ok (.iconst 1, 1) := by decide +kernel
theorem dX2_lay_47 : decode cX2_lay 47 = .ok (.bastore, 1) := by decide +kernel
theorem dX2_lay_48 : decode cX2_lay 48 = .ok (.return_, 1) := by decide +kernel
theorem dX7_holds_0 : decode cX7_holds 0 = .ok (.iload_n 1, 1) := by decide +kernel
theorem dX7_holds_1 : decode cX7_holds 1 = .ok (.iload_n 2, 1) := by decide +kernel
theorem dX7_holds_2 : decode cX7_holds 2 = .ok (.if_icmp .lt 20, 3) := by decide +kernel
theorem dX7_holds_5 : decode cX7_holds 5 = .ok (.iload_n 1, 1) := by decide +kernel
theorem dX7_holds_6 : decode cX7_holds 6 = .ok (.iload_n 3, 1) := by decide +kernel
theorem dX7_holds_7 : decode cX7_holds 7 = .ok (.if_icmp .gt 15, 3) := by decide +kernel
theorem dX7_holds_10 : decode cX7_holds 10 = .ok (.iload_n 1, 1) := by decide +kernel
theorem dX7_holds_11 : decode cX7_holds 11 = .ok (.aload_n 0, 1) := by decide +kernel
theorem dX7_holds_12 : decode cX7_holds 12 = .ok (.getfield 15, 3) := by decide +kernel
theorem dX7_holds_15 : decode cX7_holds 15 = .ok (.if_icmp .gt 7, 3) := by decide +kernel
theorem dX7_holds_18 : decode cX7_holds 18 = .ok (.iconst 1, 1) := by decide +kernel
theorem dX7_holds_19 : decode cX7_holds 19 = .ok (.goto 4, 3) := by decide +kernel
theorem dX7_holds_22 : decode cX7_holds 22 = .ok (.iconst 0, 1) := by decide +kernel
theorem dX7_holds_23 : decode cX7_holds 23 = .ok (.ireturn, 1) := by decide +kernel
theorem dX7_open_0 : decode cX7_open 0 = .ok (.aload_n 0, 1) := by decide +kernel
theorem dX7_open_1 : decode cX7_open 1 = .ok (.iload_n 1, 1) := by decide +kernel
theorem dX7_open_2 : decode cX7_open 2 = .ok (.putfield 19, 3) := by decide +kernel
theorem dX7_open_5 : decode cX7_open 5 = .ok (.aload_n 0, 1) := by decide +kernel
theorem dX7_open_6 : decode cX7_open 6 = .ok (.iconst 0, 1) := by decide +kernel
theorem dX7_open_7 : decode cX7_open 7 = .ok (.putfield 22, 3) := by decide +kernel
theorem dX7_open_10 : decode cX7_open 10 = .ok (.aload_n 0, 1) := by decide +kernel
theorem dX7_open_11 : decode cX7_open 11 = .ok (.iconst 0, 1) := by decide +kernel
theorem dX7_open_12 : decode cX7_open 12 = .ok (.putfield 25, 3) := by decide +kernel
theorem dX7_open_15 : decode cX7_open 15 = .ok (.aload_n 0, 1) := by decide +kernel
theorem dX7_open_16 : decode cX7_open 16 = .ok (.iconst 0, 1) := by decide +kernel
theorem dX7_open_17 : decode cX7_open 17 = .ok (.putfield 15, 3) := by decide +kernel
theorem dX7_open_20 : decode cX7_open 20 = .ok (.return_, 1) := by decide +kernel
theorem dX7_append_0 : decode cX7_append 0 = .ok (.bipush 24, 2) := by decide +kernel
theorem dX7_append_2 : decode cX7_append 2 = .ok (.istore_n 2, 1) := by decide +kernel
theorem dX7_append_3 : decode cX7_append 3 = .ok (.iload_n 2, 1) := by decide +kernel
theorem dX7_append_4 : decode cX7_append 4 = .ok (.ifCond .lt 52, 3) := by decide +kernel
theorem dX7_append_7 : decode cX7_append 7 = .ok (.aload_n 0, 1) := by decide +kernel
theorem dX7_append_8 : decode cX7_append 8 = .ok (.getfield 15, 3) := by decide +kernel
theorem dX7_append_11 : decode cX7_append 11 = .ok (.ifCond .lt 39, 3) := by decide +kernel
theorem dX7_append_14 : decode cX7_append 14 = .ok (.aload_n 0, 1) := by decide +kernel
theorem dX7_append_15 : decode cX7_append 15 = .ok (.getfield 15, 3) := by decide +kernel
theorem dX7_append_18 : decode cX7_append 18 = .ok (.sipush 260, 3) := by decide +kernel
theorem dX7_append_21 : decode cX7_append 21 = .ok (.if_icmp .ge 29, 3) := by decide +kernel
theorem dX7_append_24 : decode cX7_append 24 = .ok (.aload_n 0, 1) := by decide +kernel
theorem dX7_append_25 : decode cX7_append 25 = .ok (.getfield 9, 3) := by decide +kernel
theorem dX7_append_28 : decode cX7_append 28 = .ok (.aload_n 0, 1) := by decide +kernel
theorem dX7_append_29 : decode cX7_append 29 = .ok (.getfield 15, 3) := by decide +kernel
theorem dX7_append_32 : decode cX7_append 32 = .ok (.iload_n 1, 1) := by decide +kernel
theorem dX7_append_33 : decode cX7_append 33 = .ok (.iload_n 2, 1) := by decide +kernel
theorem dX7_append_34 : decode cX7_append 34 = .ok (.ishr, 1) := by decide +kernel
theorem dX7_append_35 : decode cX7_append 35 = .ok (.sipush 255, 3) := by decide +kernel
theorem dX7_append_38 : decode cX7_append 38 = .ok (.iand, 1) := by decide +kernel
theorem dX7_append_39 : decode cX7_append 39 = .ok (.iastore, 1) := by decide +kernel
theorem dX7_append_40 : decode cX7_append 40 = .ok (.aload_n 0, 1) := by decide +kernel
theorem dX7_append_41 : decode cX7_append 41 = .ok (.dup, 1) := by decide +kernel
theorem dX7_append_42 : decode cX7_append 42 = .ok (.getfield 15, 3) := by decide +kernel
theorem dX7_append_45 : decode cX7_append 45 = .ok (.iconst 1, 1) := by decide +kernel
theorem dX7_append_46 : decode cX7_append 46 = .ok (.iadd, 1) := by decide +kernel
theorem dX7_append_47 : decode cX7_append 47 = .ok (.putfield 15, 3) := by decide +kernel
theorem dX7_append_50 : decode cX7_append 50 = .ok (.iinc 2 (-8), 3) := by decide +kernel
theorem dX7_append_53 : decode cX7_append 53 = .ok (.goto (-50), 3) := by decide +kernel
theorem dX7_append_56 : decode cX7_append 56 = .ok (.return_, 1) := by decide +kernel
theorem dX2_copyStones_0 : decode cX2_copyStones 0 = .ok (.iconst 0, 1) := by decide +kernel
theorem dX2_copyStones_1 : decode cX2_copyStones 1 = .ok (.istore_n 2, 1) := by decide +kernel
theorem dX2_copyStones_2 : decode cX2_copyStones 2 = .ok (.iload_n 2, 1) := by decide +kernel
theorem dX2_copyStones_3 : decode cX2_copyStones 3 = .ok (.bipush 40, 2) := by decide +kernel
theorem dX2_copyStones_5 : decode cX2_copyStones 5 = .ok (.if_icmp .ge 69, 3) := by decide +kernel
theorem dX2_copyStones_8 : decode cX2_copyStones 8 = .ok (.aload_n 0, 1) := by decide +kernel
theorem dX2_copyStones_9 : decode cX2_copyStones 9 = .ok (.getfield 9, 3) := by decide +kernel
theorem dX2_copyStones_12 : decode cX2_copyStones 12 = .ok (.iload_n 2, 1) := by decide +kernel
theorem dX2_copyStones_13 : decode cX2_copyStones 13 = .ok (.aload_n 1, 1) := by decide +kernel
theorem dX2_copyStones_14 : decode cX2_copyStones 14 = .ok (.getfield 9, 3) := by decide +kernel
theorem dX2_copyStones_17 : decode cX2_copyStones 17 = .ok (.iload_n 2, 1) := by decide +kernel
theorem dX2_copyStones_18 : decode cX2_copyStones 18 = .ok (.iaload, 1) := by decide +kernel
theorem dX2_copyStones_19 : decode cX2_copyStones 19 = .ok (.iastore, 1) := by decide +kernel
theorem dX2_copyStones_20 : decode cX2_copyStones 20 = .ok (.aload_n 0, 1) := by decide +kernel
theorem dX2_copyStones_21 : decode cX2_copyStones 21 = .ok (.getfield 15, 3) := by decide +kernel
theorem dX2_copyStones_24 : decode cX2_copyStones 24 = .ok (.iload_n 2, 1) := by decide +kernel
theorem dX2_copyStones_25 : decode cX2_copyStones 25 = .ok (.aload_n 1, 1) := by decide +kernel
theorem dX2_copyStones_26 : decode cX2_copyStones 26 = .ok (.getfield 15, 3) := by decide +kernel
theorem dX2_copyStones_29 : decode cX2_copyStones 29 = .ok (.iload_n 2, 1) := by decide +kernel
theorem dX2_copyStones_30 : decode cX2_copyStones 30 = .ok (.iaload, 1) := by decide +kernel
theorem dX2_copyStones_31 : decode cX2_copyStones 31 = .ok (.iastore, 1) := by decide +kernel
theorem dX2_copyStones_32 : decode cX2_copyStones 32 = .ok (.aload_n 0, 1) := by decide +kernel
theorem dX2_copyStones_33 : decode cX2_copyStones 33 = .ok (.getfield 18, 3) := by decide +kernel
theorem dX2_copyStones_36 : decode cX2_copyStones 36 = .ok (.iload_n 2, 1) := by decide +kernel
theorem dX2_copyStones_37 : decode cX2_copyStones 37 = .ok (.aload_n 1, 1) := by decide +kernel
theorem dX2_copyStones_38 : decode cX2_copyStones 38 = .ok (.getfield 18, 3) := by decide +kernel
theorem dX2_copyStones_41 : decode cX2_copyStones 41 = .ok (.iload_n 2, 1) := by decide +kernel
theorem dX2_copyStones_42 : decode cX2_copyStones 42 = .ok (.iaload, 1) := by decide +kernel
theorem dX2_copyStones_43 : decode cX2_copyStones 43 = .ok (.iastore, 1) := by decide +kernel
theorem dX2_copyStones_44 : decode cX2_copyStones 44 = .ok (.aload_n 0, 1) := by decide +kernel
theorem dX2_copyStones_45 : decode cX2_copyStones 45 = .ok (.getfield 21, 3) := by decide +kernel
theorem dX2_copyStones_48 : decode cX2_copyStones 48 = .ok (.iload_n 2, 1) := by decide +kernel
theorem dX2_copyStones_49 : decode cX2_copyStones 49 = .ok (.aload_n 1, 1) := by decide +kernel
theorem dX2_copyStones_50 : decode cX2_copyStones 50 = .ok (.getfield 21, 3) := by decide +kernel
theorem dX2_copyStones_53 : decode cX2_copyStones 53 = .ok (.iload_n 2, 1) := by decide +kernel
theorem dX2_copyStones_54 : decode cX2_copyStones 54 = .ok (.baload, 1) := by decide +kernel
theorem dX2_copyStones_55 : decode cX2_copyStones 55 = .ok (.bastore, 1) := by decide +kernel
theorem dX2_copyStones_56 : decode cX2_copyStones 56 = .ok (.aload_n 0, 1) := by decide +kernel
theorem dX2_copyStones_57 : decode cX2_copyStones 57 = .ok (.getfield 25, 3) := by decide +kernel
theorem dX2_copyStones_60 : decode cX2_copyStones 60 = .ok (.iload_n 2, 1) := by decide +kernel
theorem dX2_copyStones_61 : decode cX2_copyStones 61 = .ok (.aload_n 1, 1) := by decide +kernel
theorem dX2_copyStones_62 : decode cX2_copyStones 62 = .ok (.getfield 25, 3) := by decide +kernel
theorem dX2_copyStones_65 : decode cX2_copyStones 65 = .ok (.iload_n 2, 1) := by decide +kernel
theorem dX2_copyStones_66 : decode cX2_copyStones 66 = .ok (.baload, 1) := by decide +kernel
theorem dX2_copyStones_67 : decode cX2_copyStones 67 = .ok (.bastore, 1) := by decide +kernel
theorem dX2_copyStones_68 : decode cX2_copyStones 68 = .ok (.iinc 2 1, 3) := by decide +kernel
theorem dX2_copyStones_71 : decode cX2_copyStones 71 = .ok (.goto (-69), 3) := by decide +kernel
theorem dX2_copyStones_74 : decode cX2_copyStones 74 = .ok (.return_, 1) := by decide +kernel
theorem dX2_copyAll_0 : decode cX2_copyAll 0 = .ok (.aload_n 0, 1) := by decide +kernel
theorem dX2_copyAll_1 : decode cX2_copyAll 1 = .ok (.aload_n 1, 1) := by decide +kernel
theorem dX2_copyAll_2 : decode cX2_copyAll 2 = .ok (.invokevirtual 35, 3) := by decide +kernel
theorem dX2_copyAll_5 : decode cX2_copyAll 5 = .ok (.aload_n 0, 1) := by decide +kernel
theorem dX2_copyAll_6 : decode cX2_copyAll 6 = .ok (.aload_n 1, 1) := by decide +kernel
theorem dX2_copyAll_7 : decode cX2_copyAll 7 = .ok (.getfield 28, 3) := by decide +kernel
theorem dX2_copyAll_10 : decode cX2_copyAll 10 = .ok (.putfield 28, 3) := by decide +kernel
theorem dX2_copyAll_13 : decode cX2_copyAll 13 = .ok (.aload_n 0, 1) := by decide +kernel
theorem dX2_copyAll_14 : decode cX2_copyAll 14 = .ok (.aload_n 1, 1) := by decide +kernel
theorem dX2_copyAll_15 : decode cX2_copyAll 15 = .ok (.getfield 32, 3) := by decide +kernel
theorem dX2_copyAll_18 : decode cX2_copyAll 18 = .ok (.putfield 32, 3) := by decide +kernel
theorem dX2_copyAll_21 : decode cX2_copyAll 21 = .ok (.return_, 1) := by decide +kernel
set_option maxHeartbeats 4000000 in
theorem c_X9_isStone (i : Int32) (M : Mem) : AM yX9_isStone cX9_isStone 1 (some .boolean) 0 60 glC (fun ad => [.int i]) M (PI (fun r M' => r = bI (0 ≤ i.toInt ∧ i.toInt < 40) ∧ M = M')) := by
  refine AM.of (by decide) (fun _ => Nat.le_of_ble_eq_true rfl) (fun X ad cI cZ cB hX hR => ?_)
  show V X M [(0, .int i)] [] 0
  refine s_iload_n (k := 0) hX dX9_isStone_0 rfl rfl ?_
  refine s_if_lt (tgt := 14) hX dX9_isStone_1 (by decide) (fun c1 => ?_) (fun c1 => ?_)
  · replace c1 := z_lt.mp c1
    refine s_iconst (v := (nI 0)) hX dX9_isStone_14 (by decide) ?_
    exact s_zret hX hR dX9_isStone_15 (by first | decide | assumption) ⟨bI_f (by omega), rfl⟩
  · replace c1 := mt z_lt.mpr c1
    refine s_iload_n (k := 0) hX dX9_isStone_4 rfl rfl ?_
    refine s_bipush (v := (nI 40)) hX dX9_isStone_5 (by decide) ?_
    refine s_icmp_ge (tgt := 14) hX dX9_isStone_7 (by decide) (fun c7 => ?_) (fun c7 => ?_)
    · replace c7 := (q_ge (by omega)).mp c7
      refine s_iconst (v := (nI 0)) hX dX9_isStone_14 (by decide) ?_
      exact s_zret hX hR dX9_isStone_15 (by first | decide | assumption) ⟨bI_f (by omega), rfl⟩
    · replace c7 := mt (q_ge (by omega)).mpr c7
      refine s_iconst (v := (nI 1)) hX dX9_isStone_10 (by decide) ?_
      refine s_goto (tgt := 15) hX dX9_isStone_11 (by decide) ?_
      exact s_zret hX hR dX9_isStone_15 (by first | decide | assumption) ⟨bI_t (by omega), rfl⟩
set_option maxHeartbeats 4000000 in
theorem c_X9_isStride (i : Int32) (M : Mem) : AM yX9_isStride cX9_isStride 1 (some .boolean) 0 60 glC (fun ad => [.int i]) M (PI (fun r M' => r = bI (1 ≤ i.toInt ∧ i.toInt ≤ 30) ∧ M = M')) := by
  refine AM.of (by decide) (fun _ => Nat.le_of_ble_eq_true rfl) (fun X ad cI cZ cB hX hR => ?_)
  show V X M [(0, .int i)] [] 0
  refine s_iload_n (k := 0) hX dX9_isStride_0 rfl rfl ?_
  refine s_iconst (v := (nI 1)) hX dX9_isStride_1 (by decide) ?_
  refine s_icmp_lt (tgt := 15) hX dX9_isStride_2 (by decide) (fun c2 => ?_) (fun c2 => ?_)
  · replace c2 := (q_lt (by omega)).mp c2
    refine s_iconst (v := (nI 0)) hX dX9_isStride_15 (by decide) ?_
    exact s_zret hX hR dX9_isStride_16 (by first | decide | assumption) ⟨bI_f (by omega), rfl⟩
  · replace c2 := mt (q_lt (by omega)).mpr c2
    refine s_iload_n (k := 0) hX dX9_isStride_5 rfl rfl ?_
    refine s_bipush (v := (nI 30)) hX dX9_isStride_6 (by decide) ?_
    refine s_icmp_gt (tgt := 15) hX dX9_isStride_8 (by decide) (fun c8 => ?_) (fun c8 => ?_)
    · replace c8 := (q_gt (by omega)).mp c8
      refine s_iconst (v := (nI 0)) hX dX9_isStride_15 (by decide) ?_
      exact s_zret hX hR dX9_isStride_16 (by first | decide | assumption) ⟨bI_f (by omega), rfl⟩
    · replace c8 := mt (q_gt (by omega)).mpr c8
      refine s_iconst (v := (nI 1)) hX dX9_isStride_11 (by decide) ?_
      refine s_goto (tgt := 16) hX dX9_isStride_12 (by decide) ?_
      exact s_zret hX hR dX9_isStride_16 (by first | decide | assumption) ⟨bI_t (by omega), rfl⟩
set_option maxHeartbeats 4000000 in
theorem c_X9_isNights (i : Int32) (M : Mem) : AM yX9_isNights cX9_isNights 1 (some .boolean) 0 60 glC (fun ad => [.int i]) M (PI (fun r M' => r = bI (1 ≤ i.toInt ∧ i.toInt ≤ 60) ∧ M = M')) := by
  refine AM.of (by decide) (fun _ => Nat.le_of_ble_eq_true rfl) (fun X ad cI cZ cB hX hR => ?_)
  show V X M [(0, .int i)] [] 0
  refine s_iload_n (k := 0) hX dX9_isNights_0 rfl rfl ?_
  refine s_iconst (v := (nI 1)) hX dX9_isNights_1 (by decide) ?_
  refine s_icmp_lt (tgt := 15) hX dX9_isNights_2 (by decide) (fun c2 => ?_) (fun c2 => ?_)
  · replace c2 := (q_lt (by omega)).mp c2
    refine s_iconst (v := (nI 0)) hX dX9_isNights_15 (by decide) ?_
    exact s_zret hX hR dX9_isNights_16 (by first | decide | assumption) ⟨bI_f (by omega), rfl⟩
  · replace c2 := mt (q_lt (by omega)).mpr c2
    refine s_iload_n (k := 0) hX dX9_isNights_5 rfl rfl ?_
    refine s_bipush (v := (nI 60)) hX dX9_isNights_6 (by decide) ?_
    refine s_icmp_gt (tgt := 15) hX dX9_isNights_8 (by decide) (fun c8 => ?_) (fun c8 => ?_)
    · replace c8 := (q_gt (by omega)).mp c8
      refine s_iconst (v := (nI 0)) hX dX9_isNights_15 (by decide) ?_
      exact s_zret hX hR dX9_isNights_16 (by first | decide | assumption) ⟨bI_f (by omega), rfl⟩
    · replace c8 := mt (q_gt (by omega)).mpr c8
      refine s_iconst (v := (nI 1)) hX dX9_isNights_11 (by decide) ?_
      refine s_goto (tgt := 16) hX dX9_isNights_12 (by decide) ?_
      exact s_zret hX hR dX9_isNights_16 (by first | decide | assumption) ⟨bI_t (by omega), rfl⟩
set_option maxHeartbeats 4000000 in
theorem c_X9_isEither (i : Int32) (M : Mem) : AM yX9_isEither cX9_isEither 1 (some .boolean) 0 60 glC (fun ad => [.int i]) M (PI (fun r M' => r = bI (i.toInt = 0 ∨ i.toInt = 1) ∧ M = M')) := by
  refine AM.of (by decide) (fun _ => Nat.le_of_ble_eq_true rfl) (fun X ad cI cZ cB hX hR => ?_)
  show V X M [(0, .int i)] [] 0
  refine s_iload_n (k := 0) hX dX9_isEither_0 rfl rfl ?_
  refine s_if_eq (tgt := 9) hX dX9_isEither_1 (by decide) (fun c1 => ?_) (fun c1 => ?_)
  · replace c1 := z_eq.mp c1
    refine s_iconst (v := (nI 1)) hX dX9_isEither_9 (by decide) ?_
    refine s_goto (tgt := 14) hX dX9_isEither_10 (by decide) ?_
    exact s_zret hX hR dX9_isEither_14 (by first | decide | assumption) ⟨bI_t (by omega), rfl⟩
  · replace c1 := mt z_eq.mpr c1
    refine s_iload_n (k := 0) hX dX9_isEither_4 rfl rfl ?_
    refine s_iconst (v := (nI 1)) hX dX9_isEither_5 (by decide) ?_
    refine s_icmp_ne (tgt := 13) hX dX9_isEither_6 (by decide) (fun c6 => ?_) (fun c6 => ?_)
    · replace c6 := mt (q_eq (by omega)).mpr c6
      refine s_iconst (v := (nI 0)) hX dX9_isEither_13 (by decide) ?_
      exact s_zret hX hR dX9_isEither_14 (by first | decide | assumption) ⟨bI_f (by omega), rfl⟩
    · replace c6 := (q_eq (by omega)).mp c6
      refine s_iconst (v := (nI 1)) hX dX9_isEither_9 (by decide) ?_
      refine s_goto (tgt := 14) hX dX9_isEither_10 (by decide) ?_
      exact s_zret hX hR dX9_isEither_14 (by first | decide | assumption) ⟨bI_t (by omega), rfl⟩
set_option maxHeartbeats 4000000 in
theorem c_X9_isPlace (x y : Int32) (M : Mem) : AM yX9_isPlace cX9_isPlace 2 (some .boolean) 0 60 glC (fun ad => [.int x, .int y]) M (PI (fun r M' => r = bI (0 ≤ x.toInt ∧ x.toInt ≤ 39 ∧ 1 ≤ y.toInt ∧ y.toInt ≤ 20) ∧ M = M')) := by
  refine AM.of (by decide) (fun _ => Nat.le_of_ble_eq_true rfl) (fun X ad cI cZ cB hX hR => ?_)
  show V X M [(0, .int x), (1, .int y)] [] 0
  refine s_iload_n (k := 0) hX dX9_isPlace_0 rfl rfl ?_
  refine s_if_lt (tgt := 25) hX dX9_isPlace_1 (by decide) (fun c1 => ?_) (fun c1 => ?_)
  · replace c1 := z_lt.mp c1
    refine s_iconst (v := (nI 0)) hX dX9_isPlace_25 (by decide) ?_
    exact s_zret hX hR dX9_isPlace_26 (by first | decide | assumption) ⟨bI_f (by omega), rfl⟩
  · replace c1 := mt z_lt.mpr c1
    refine s_iload_n (k := 0) hX dX9_isPlace_4 rfl rfl ?_
    refine s_bipush (v := (nI 39)) hX dX9_isPlace_5 (by decide) ?_
    refine s_icmp_gt (tgt := 25) hX dX9_isPlace_7 (by decide) (fun c7 => ?_) (fun c7 => ?_)
    · replace c7 := (q_gt (by omega)).mp c7
      refine s_iconst (v := (nI 0)) hX dX9_isPlace_25 (by decide) ?_
      exact s_zret hX hR dX9_isPlace_26 (by first | decide | assumption) ⟨bI_f (by omega), rfl⟩
    · replace c7 := mt (q_gt (by omega)).mpr c7
      refine s_iload_n (k := 1) hX dX9_isPlace_10 rfl rfl ?_
      refine s_iconst (v := (nI 1)) hX dX9_isPlace_11 (by decide) ?_
      refine s_icmp_lt (tgt := 25) hX dX9_isPlace_12 (by decide) (fun c12 => ?_) (fun c12 => ?_)
      · replace c12 := (q_lt (by omega)).mp c12
        refine s_iconst (v := (nI 0)) hX dX9_isPlace_25 (by decide) ?_
        exact s_zret hX hR dX9_isPlace_26 (by first | decide | assumption) ⟨bI_f (by omega), rfl⟩
      · replace c12 := mt (q_lt (by omega)).mpr c12
        refine s_iload_n (k := 1) hX dX9_isPlace_15 rfl rfl ?_
        refine s_bipush (v := (nI 20)) hX dX9_isPlace_16 (by decide) ?_
        refine s_icmp_gt (tgt := 25) hX dX9_isPlace_18 (by decide) (fun c18 => ?_) (fun c18 => ?_)
        · replace c18 := (q_gt (by omega)).mp c18
          refine s_iconst (v := (nI 0)) hX dX9_isPlace_25 (by decide) ?_
          exact s_zret hX hR dX9_isPlace_26 (by first | decide | assumption) ⟨bI_f (by omega), rfl⟩
        · replace c18 := mt (q_gt (by omega)).mpr c18
          refine s_iconst (v := (nI 1)) hX dX9_isPlace_21 (by decide) ?_
          refine s_goto (tgt := 26) hX dX9_isPlace_22 (by decide) ?_
          exact s_zret hX hR dX9_isPlace_26 (by first | decide | assumption) ⟨bI_t (by omega), rfl⟩
set_option maxHeartbeats 4000000 in
theorem c_X9_strideOf (p : Int32) (M : Mem) (hS : ∀ j, j < 8 → M 43 j = 0) : AM yX9_strideOf cX9_strideOf 2 (some .int) 0 60 glC (fun ad => [.ref (ad 0), .int p]) M (PI (fun r M' => r = nI 0 ∧ M = M')) := by
  refine AM.of (by decide) (fun _ => Nat.le_of_ble_eq_true rfl) (fun X ad cI cZ cB hX hR => ?_)
  show V X M [(0, .ref (ad 0)), (1, .int p)] [] 0
  refine s_iload_n (k := 1) hX dX9_strideOf_0 rfl rfl ?_
  refine s_if_lt (tgt := 19) hX dX9_strideOf_1 (by decide) (fun c1 => ?_) (fun c1 => ?_)
  · replace c1 := z_lt.mp c1
    refine s_iconst (v := (nI 0)) hX dX9_strideOf_19 (by decide) ?_
    exact s_iret hX hR dX9_strideOf_20 ⟨rfl, rfl⟩
  · replace c1 := mt z_lt.mpr c1
    refine s_iload_n (k := 1) hX dX9_strideOf_4 rfl rfl ?_
    refine s_bipush (v := (nI 8)) hX dX9_strideOf_5 (by decide) ?_
    refine s_icmp_ge (tgt := 19) hX dX9_strideOf_7 (by decide) (fun c7 => ?_) (fun c7 => ?_)
    · replace c7 := (q_ge (by omega)).mp c7
      refine s_iconst (v := (nI 0)) hX dX9_strideOf_19 (by decide) ?_
      exact s_iret hX hR dX9_strideOf_20 ⟨rfl, rfl⟩
    · replace c7 := mt (q_ge (by omega)).mpr c7
      obtain ⟨j, hj, rfl⟩ := ixi (x := p) (n := 8) (by omega) (by omega)
      refine s_aload_n (k := 0) hX dX9_strideOf_10 rfl rfl ?_
      refine s_get hX fX9_64 oC0 rfl dX9_strideOf_11 ?_
      refine s_iload_n (k := 1) hX dX9_strideOf_14 rfl rfl ?_
      refine s_ialdN hX aC43 (by omega) dX9_strideOf_15 ?_
      refine s_goto (tgt := 20) hX dX9_strideOf_16 (by decide) ?_
      exact s_iret hX hR dX9_strideOf_20 ⟨hS j hj, rfl⟩
set_option maxHeartbeats 4000000 in
theorem c_X9_toldPeople (M : Mem) (hS : ∀ j, j < 8 → M 43 j = 0) : AM yX9_toldPeople cX9_toldPeople 3 (some .int) 0 60 glC (fun ad => [.ref (ad 0)]) M (PI (fun r M' => r = nI 0 ∧ M = M')) := by
  refine AM.of (by decide) (fun _ => Nat.le_of_ble_eq_true rfl) (fun X ad cI cZ cB hX hR => ?_)
  show V X M [(0, .ref (ad 0))] [] 0
  refine s_iconst (v := (nI 0)) hX dX9_toldPeople_0 (by decide) ?_
  refine s_istore_n (lv' := [(0, .ref (ad 0)), (1, .int (nI 0))]) hX dX9_toldPeople_1 rfl (by decide) rfl ?_
  refine s_iconst (v := (nI 0)) hX dX9_toldPeople_2 (by decide) ?_
  refine s_istore_n (lv' := [(0, .ref (ad 0)), (1, .int (nI 0)), (2, .int (nI 0))]) hX dX9_toldPeople_3 rfl (by decide) rfl ?_
  have lp4 : ∀ (N4 : Nat) (i : Nat), (i ≤ 8) → (8 < i + N4) → V X M [(0, .ref (ad 0)), (1, .int (nI 0)), (2, .int (nI i))] [] 4 := by
    intro N4
    induction N4 with
    | zero => intro i hi hN4; exact absurd hN4 (by omega)
    | succ N4 ih4 =>
      intro i hi hN4
      refine s_iload_n (k := 2) hX dX9_toldPeople_4 rfl rfl ?_
      refine s_bipush (v := (nI 8)) hX dX9_toldPeople_5 (by decide) ?_
      refine s_icmp_ge (tgt := 31) hX dX9_toldPeople_7 (by decide) (fun c7 => ?_) (fun c7 => ?_)
      · replace c7 := (nI_leI (by omega) (by omega)).mp c7
        refine s_iload_n (k := 1) hX dX9_toldPeople_31 rfl rfl ?_
        exact s_iret hX hR dX9_toldPeople_32 ⟨rfl, rfl⟩
      · replace c7 := mt (nI_leI (by omega) (by omega)).mpr c7
        refine s_aload_n (k := 0) hX dX9_toldPeople_10 rfl rfl ?_
        refine s_get hX fX9_64 oC0 rfl dX9_toldPeople_11 ?_
        refine s_iload_n (k := 2) hX dX9_toldPeople_14 rfl rfl ?_
        refine s_ialdN hX aC43 (by omega) dX9_toldPeople_15 ?_
        refine s_if_eq (tgt := 25) hX dX9_toldPeople_16 (by decide) (fun c16 => ?_) (fun c16 => ?_)
        · refine s_iinc (k := 2) (v := nI (i + 1)) (lv' := [(0, .ref (ad 0)), (1, .int (nI 0)), (2, .int (nI (i + 1)))]) hX dX9_toldPeople_25 (nI_1 _) (by decide) rfl rfl ?_
          refine s_goto (tgt := 4) hX dX9_toldPeople_28 (by decide) ?_
          exact ih4 (i + 1) (by omega) (by omega)
        · exact absurd (hS i (by omega)) c16
  exact lp4 9 0 (by omega) (by omega)
set_option maxHeartbeats 4000000 in
theorem c_X2_isTold (b : Nat) (hb : isF b) (i : Int32) (M : Mem) (hT : ∀ j, j < 40 → M (b + 4) j = 0) : AM yX2_isTold cX2_isTold 2 (some .boolean) 0 60 glC (fun ad => [.ref (ad b), .int i]) M (PI (fun r M' => r = nI 0 ∧ M = M')) := by
  refine AM.of (by decide) (fun _ => Nat.le_of_ble_eq_true rfl) (fun X ad cI cZ cB hX hR => ?_)
  show V X M [(0, .ref (ad b)), (1, .int i)] [] 0
  refine s_iload_n (k := 1) hX dX2_isTold_0 rfl rfl ?_
  refine s_if_lt (tgt := 23) hX dX2_isTold_1 (by decide) (fun c1 => ?_) (fun c1 => ?_)
  · replace c1 := z_lt.mp c1
    refine s_iconst (v := (nI 0)) hX dX2_isTold_23 (by decide) ?_
    exact s_zret hX hR dX2_isTold_24 (by first | decide | assumption) ⟨rfl, rfl⟩
  · replace c1 := mt z_lt.mpr c1
    refine s_iload_n (k := 1) hX dX2_isTold_4 rfl rfl ?_
    refine s_bipush (v := (nI 40)) hX dX2_isTold_5 (by decide) ?_
    refine s_icmp_ge (tgt := 23) hX dX2_isTold_7 (by decide) (fun c7 => ?_) (fun c7 => ?_)
    · replace c7 := (q_ge (by omega)).mp c7
      refine s_iconst (v := (nI 0)) hX dX2_isTold_23 (by decide) ?_
      exact s_zret hX hR dX2_isTold_24 (by first | decide | assumption) ⟨rfl, rfl⟩
    · replace c7 := mt (q_ge (by omega)).mpr c7
      obtain ⟨j, hj, rfl⟩ := ixi (x := i) (n := 40) (by omega) (by omega)
      refine s_aload_n (k := 0) hX dX2_isTold_10 rfl rfl ?_
      refine s_get hX fX2_21 (oF hb) rfl dX2_isTold_11 ?_
      refine s_iload_n (k := 1) hX dX2_isTold_14 rfl rfl ?_
      refine s_zaldN hX (aF4 hb) (by omega) dX2_isTold_15 ?_
      refine s_if_eq (tgt := 23) hX dX2_isTold_16 (by decide) (fun c16 => ?_) (fun c16 => ?_)
      · refine s_iconst (v := (nI 0)) hX dX2_isTold_23 (by decide) ?_
        exact s_zret hX hR dX2_isTold_24 (by first | decide | assumption) ⟨rfl, rfl⟩
      · exact absurd (hT j hj) c16
set_option maxHeartbeats 4000000 in
theorem c_X2_isDry (b : Nat) (hb : isF b) (i : Int32) (M : Mem) (hT : ∀ j, j < 40 → M (b + 4) j = 0) : AM yX2_isDry cX2_isDry 2 (some .boolean) 0 60 glC (fun ad => [.ref (ad b), .int i]) M (PI (fun r M' => r = nI 0 ∧ M = M')) := by
  refine AM.of (by decide) (fun _ => Nat.le_of_ble_eq_true rfl) (fun X ad cI cZ cB hX hR => ?_)
  show V X M [(0, .ref (ad b)), (1, .int i)] [] 0
  refine s_iload_n (k := 1) hX dX2_isDry_0 rfl rfl ?_
  refine s_if_lt (tgt := 32) hX dX2_isDry_1 (by decide) (fun c1 => ?_) (fun c1 => ?_)
  · replace c1 := z_lt.mp c1
    refine s_iconst (v := (nI 0)) hX dX2_isDry_32 (by decide) ?_
    exact s_zret hX hR dX2_isDry_33 (by first | decide | assumption) ⟨rfl, rfl⟩
  · replace c1 := mt z_lt.mpr c1
    refine s_iload_n (k := 1) hX dX2_isDry_4 rfl rfl ?_
    refine s_bipush (v := (nI 40)) hX dX2_isDry_5 (by decide) ?_
    refine s_icmp_ge (tgt := 32) hX dX2_isDry_7 (by decide) (fun c7 => ?_) (fun c7 => ?_)
    · replace c7 := (q_ge (by omega)).mp c7
      refine s_iconst (v := (nI 0)) hX dX2_isDry_32 (by decide) ?_
      exact s_zret hX hR dX2_isDry_33 (by first | decide | assumption) ⟨rfl, rfl⟩
    · replace c7 := mt (q_ge (by omega)).mpr c7
      obtain ⟨j, hj, rfl⟩ := ixi (x := i) (n := 40) (by omega) (by omega)
      refine s_aload_n (k := 0) hX dX2_isDry_10 rfl rfl ?_
      refine s_get hX fX2_21 (oF hb) rfl dX2_isDry_11 ?_
      refine s_iload_n (k := 1) hX dX2_isDry_14 rfl rfl ?_
      refine s_zaldN hX (aF4 hb) (by omega) dX2_isDry_15 ?_
      refine s_if_eq (tgt := 32) hX dX2_isDry_16 (by decide) (fun c16 => ?_) (fun c16 => ?_)
      · refine s_iconst (v := (nI 0)) hX dX2_isDry_32 (by decide) ?_
        exact s_zret hX hR dX2_isDry_33 (by first | decide | assumption) ⟨rfl, rfl⟩
      · exact absurd (hT j hj) c16
set_option maxHeartbeats 4000000 in
theorem c_X2_stoneAt (b : Nat) (hb : isF b) (x y : Int32) (M : Mem) (hT : ∀ j, j < 40 → M (b + 4) j = 0) : AM yX2_stoneAt cX2_stoneAt 4 (some .int) 0 60 glC (fun ad => [.ref (ad b), .int x, .int y]) M (PI (fun r M' => r = -1 ∧ M = M')) := by
  refine AM.of (by decide) (fun _ => Nat.le_of_ble_eq_true rfl) (fun X ad cI cZ cB hX hR => ?_)
  show V X M [(0, .ref (ad b)), (1, .int x), (2, .int y)] [] 0
  refine s_iconst (v := (nI 0)) hX dX2_stoneAt_0 (by decide) ?_
  refine s_istore_n (lv' := [(0, .ref (ad b)), (1, .int x), (2, .int y), (3, .int (nI 0))]) hX dX2_stoneAt_1 rfl (by decide) rfl ?_
  have lp2 : ∀ (N2 : Nat) (i : Nat), (i ≤ 40) → (40 < i + N2) → V X M [(0, .ref (ad b)), (1, .int x), (2, .int y), (3, .int (nI i))] [] 2 := by
    intro N2
    induction N2 with
    | zero => intro i hi hN2; exact absurd hN2 (by omega)
    | succ N2 ih2 =>
      intro i hi hN2
      refine s_iload_n (k := 3) hX dX2_stoneAt_2 rfl rfl ?_
      refine s_bipush (v := (nI 40)) hX dX2_stoneAt_3 (by decide) ?_
      refine s_icmp_ge (tgt := 45) hX dX2_stoneAt_5 (by decide) (fun c5 => ?_) (fun c5 => ?_)
      · replace c5 := (nI_leI (by omega) (by omega)).mp c5
        refine s_iconst (v := (-1)) hX dX2_stoneAt_45 (by decide) ?_
        exact s_iret hX hR dX2_stoneAt_46 ⟨rfl, rfl⟩
      · replace c5 := mt (nI_leI (by omega) (by omega)).mpr c5
        refine s_aload_n (k := 0) hX dX2_stoneAt_8 rfl rfl ?_
        refine s_get hX fX2_21 (oF hb) rfl dX2_stoneAt_9 ?_
        refine s_iload_n (k := 3) hX dX2_stoneAt_12 rfl rfl ?_
        refine s_zaldN hX (aF4 hb) (by omega) dX2_stoneAt_13 ?_
        refine s_if_eq (tgt := 39) hX dX2_stoneAt_14 (by decide) (fun c14 => ?_) (fun c14 => ?_)
        · refine s_iinc (k := 3) (v := nI (i + 1)) (lv' := [(0, .ref (ad b)), (1, .int x), (2, .int y), (3, .int (nI (i + 1)))]) hX dX2_stoneAt_39 (nI_1 _) (by decide) rfl rfl ?_
          refine s_goto (tgt := 2) hX dX2_stoneAt_42 (by decide) ?_
          exact ih2 (i + 1) (by omega) (by omega)
        · exact absurd (hT i (by omega)) c14
  exact lp2 41 0 (by omega) (by omega)
set_option maxHeartbeats 4000000 in
theorem c_X2_countTold (b : Nat) (hb : isF b) (M : Mem) (hT : ∀ j, j < 40 → M (b + 4) j = 0) : AM yX2_countTold cX2_countTold 3 (some .int) 0 60 glC (fun ad => [.ref (ad b)]) M (PI (fun r M' => r = nI 0 ∧ M = M')) := by
  refine AM.of (by decide) (fun _ => Nat.le_of_ble_eq_true rfl) (fun X ad cI cZ cB hX hR => ?_)
  show V X M [(0, .ref (ad b))] [] 0
  refine s_iconst (v := (nI 0)) hX dX2_countTold_0 (by decide) ?_
  refine s_istore_n (lv' := [(0, .ref (ad b)), (1, .int (nI 0))]) hX dX2_countTold_1 rfl (by decide) rfl ?_
  refine s_iconst (v := (nI 0)) hX dX2_countTold_2 (by decide) ?_
  refine s_istore_n (lv' := [(0, .ref (ad b)), (1, .int (nI 0)), (2, .int (nI 0))]) hX dX2_countTold_3 rfl (by decide) rfl ?_
  have lp4 : ∀ (N4 : Nat) (i : Nat), (i ≤ 40) → (40 < i + N4) → V X M [(0, .ref (ad b)), (1, .int (nI 0)), (2, .int (nI i))] [] 4 := by
    intro N4
    induction N4 with
    | zero => intro i hi hN4; exact absurd hN4 (by omega)
    | succ N4 ih4 =>
      intro i hi hN4
      refine s_iload_n (k := 2) hX dX2_countTold_4 rfl rfl ?_
      refine s_bipush (v := (nI 40)) hX dX2_countTold_5 (by decide) ?_
      refine s_icmp_ge (tgt := 33) hX dX2_countTold_7 (by decide) (fun c7 => ?_) (fun c7 => ?_)
      · replace c7 := (nI_leI (by omega) (by omega)).mp c7
        refine s_iload_n (k := 1) hX dX2_countTold_33 rfl rfl ?_
        exact s_iret hX hR dX2_countTold_34 ⟨rfl, rfl⟩
      · replace c7 := mt (nI_leI (by omega) (by omega)).mpr c7
        refine s_iload_n (k := 1) hX dX2_countTold_10 rfl rfl ?_
        refine s_aload_n (k := 0) hX dX2_countTold_11 rfl rfl ?_
        refine s_get hX fX2_21 (oF hb) rfl dX2_countTold_12 ?_
        refine s_iload_n (k := 2) hX dX2_countTold_15 rfl rfl ?_
        refine s_zaldN hX (aF4 hb) (by omega) dX2_countTold_16 ?_
        refine s_if_eq (tgt := 24) hX dX2_countTold_17 (by decide) (fun c17 => ?_) (fun c17 => ?_)
        · refine s_iconst (v := (nI 0)) hX dX2_countTold_24 (by decide) ?_
          refine s_iadd hX dX2_countTold_25 ?_
          refine s_top (y := nI 0) (by decide) ?_
          refine s_istore_n (lv' := [(0, .ref (ad b)), (2, .int (nI i)), (1, .int (nI 0))]) hX dX2_countTold_26 rfl (by decide) rfl ?_
          refine s_iinc (k := 1) (v := nI (i + 1)) (lv' := [(0, .ref (ad b)), (1, .int (nI 0)), (2, .int (nI (i + 1)))]) hX dX2_countTold_27 (nI_1 _) (by decide) rfl rfl ?_
          refine s_goto (tgt := 4) hX dX2_countTold_30 (by decide) ?_
          exact ih4 (i + 1) (by omega) (by omega)
        · exact absurd (hT i (by omega)) c17
  exact lp4 41 0 (by omega) (by omega)
set_option maxHeartbeats 4000000 in
theorem c_X2_countSunk (b : Nat) (hb : isF b) (M : Mem) (hT : ∀ j, j < 40 → M (b + 4) j = 0) : AM yX2_countSunk cX2_countSunk 3 (some .int) 0 60 glC (fun ad => [.ref (ad b)]) M (PI (fun r M' => r = nI 0 ∧ M = M')) := by
  refine AM.of (by decide) (fun _ => Nat.le_of_ble_eq_true rfl) (fun X ad cI cZ cB hX hR => ?_)
  show V X M [(0, .ref (ad b))] [] 0
  refine s_iconst (v := (nI 0)) hX dX2_countSunk_0 (by decide) ?_
  refine s_istore_n (lv' := [(0, .ref (ad b)), (1, .int (nI 0))]) hX dX2_countSunk_1 rfl (by decide) rfl ?_
  refine s_iconst (v := (nI 0)) hX dX2_countSunk_2 (by decide) ?_
  refine s_istore_n (lv' := [(0, .ref (ad b)), (1, .int (nI 0)), (2, .int (nI 0))]) hX dX2_countSunk_3 rfl (by decide) rfl ?_
  have lp4 : ∀ (N4 : Nat) (i : Nat), (i ≤ 40) → (40 < i + N4) → V X M [(0, .ref (ad b)), (1, .int (nI 0)), (2, .int (nI i))] [] 4 := by
    intro N4
    induction N4 with
    | zero => intro i hi hN4; exact absurd hN4 (by omega)
    | succ N4 ih4 =>
      intro i hi hN4
      refine s_iload_n (k := 2) hX dX2_countSunk_4 rfl rfl ?_
      refine s_bipush (v := (nI 40)) hX dX2_countSunk_5 (by decide) ?_
      refine s_icmp_ge (tgt := 42) hX dX2_countSunk_7 (by decide) (fun c7 => ?_) (fun c7 => ?_)
      · replace c7 := (nI_leI (by omega) (by omega)).mp c7
        refine s_iload_n (k := 1) hX dX2_countSunk_42 rfl rfl ?_
        exact s_iret hX hR dX2_countSunk_43 ⟨rfl, rfl⟩
      · replace c7 := mt (nI_leI (by omega) (by omega)).mpr c7
        refine s_iload_n (k := 1) hX dX2_countSunk_10 rfl rfl ?_
        refine s_aload_n (k := 0) hX dX2_countSunk_11 rfl rfl ?_
        refine s_get hX fX2_21 (oF hb) rfl dX2_countSunk_12 ?_
        refine s_iload_n (k := 2) hX dX2_countSunk_15 rfl rfl ?_
        refine s_zaldN hX (aF4 hb) (by omega) dX2_countSunk_16 ?_
        refine s_if_eq (tgt := 33) hX dX2_countSunk_17 (by decide) (fun c17 => ?_) (fun c17 => ?_)
        · refine s_iconst (v := (nI 0)) hX dX2_countSunk_33 (by decide) ?_
          refine s_iadd hX dX2_countSunk_34 ?_
          refine s_top (y := nI 0) (by decide) ?_
          refine s_istore_n (lv' := [(0, .ref (ad b)), (2, .int (nI i)), (1, .int (nI 0))]) hX dX2_countSunk_35 rfl (by decide) rfl ?_
          refine s_iinc (k := 1) (v := nI (i + 1)) (lv' := [(0, .ref (ad b)), (1, .int (nI 0)), (2, .int (nI (i + 1)))]) hX dX2_countSunk_36 (nI_1 _) (by decide) rfl rfl ?_
          refine s_goto (tgt := 4) hX dX2_countSunk_39 (by decide) ?_
          exact ih4 (i + 1) (by omega) (by omega)
        · exact absurd (hT i (by omega)) c17
  exact lp4 41 0 (by omega) (by omega)
set_option maxHeartbeats 4000000 in
theorem c_X2_sumOfX (b : Nat) (hb : isF b) (M : Mem) (hT : ∀ j, j < 40 → M (b + 4) j = 0) : AM yX2_sumOfX cX2_sumOfX 3 (some .int) 0 60 glC (fun ad => [.ref (ad b)]) M (PI (fun r M' => r = nI 0 ∧ M = M')) := by
  refine AM.of (by decide) (fun _ => Nat.le_of_ble_eq_true rfl) (fun X ad cI cZ cB hX hR => ?_)
  show V X M [(0, .ref (ad b))] [] 0
  refine s_iconst (v := (nI 0)) hX dX2_sumOfX_0 (by decide) ?_
  refine s_istore_n (lv' := [(0, .ref (ad b)), (1, .int (nI 0))]) hX dX2_sumOfX_1 rfl (by decide) rfl ?_
  refine s_iconst (v := (nI 0)) hX dX2_sumOfX_2 (by decide) ?_
  refine s_istore_n (lv' := [(0, .ref (ad b)), (1, .int (nI 0)), (2, .int (nI 0))]) hX dX2_sumOfX_3 rfl (by decide) rfl ?_
  have lp4 : ∀ (N4 : Nat) (i : Nat), (i ≤ 40) → (40 < i + N4) → V X M [(0, .ref (ad b)), (1, .int (nI 0)), (2, .int (nI i))] [] 4 := by
    intro N4
    induction N4 with
    | zero => intro i hi hN4; exact absurd hN4 (by omega)
    | succ N4 ih4 =>
      intro i hi hN4
      refine s_iload_n (k := 2) hX dX2_sumOfX_4 rfl rfl ?_
      refine s_bipush (v := (nI 40)) hX dX2_sumOfX_5 (by decide) ?_
      refine s_icmp_ge (tgt := 38) hX dX2_sumOfX_7 (by decide) (fun c7 => ?_) (fun c7 => ?_)
      · replace c7 := (nI_leI (by omega) (by omega)).mp c7
        refine s_iload_n (k := 1) hX dX2_sumOfX_38 rfl rfl ?_
        exact s_iret hX hR dX2_sumOfX_39 ⟨rfl, rfl⟩
      · replace c7 := mt (nI_leI (by omega) (by omega)).mpr c7
        refine s_iload_n (k := 1) hX dX2_sumOfX_10 rfl rfl ?_
        refine s_aload_n (k := 0) hX dX2_sumOfX_11 rfl rfl ?_
        refine s_get hX fX2_21 (oF hb) rfl dX2_sumOfX_12 ?_
        refine s_iload_n (k := 2) hX dX2_sumOfX_15 rfl rfl ?_
        refine s_zaldN hX (aF4 hb) (by omega) dX2_sumOfX_16 ?_
        refine s_if_eq (tgt := 29) hX dX2_sumOfX_17 (by decide) (fun c17 => ?_) (fun c17 => ?_)
        · refine s_iconst (v := (nI 0)) hX dX2_sumOfX_29 (by decide) ?_
          refine s_iadd hX dX2_sumOfX_30 ?_
          refine s_top (y := nI 0) (by decide) ?_
          refine s_istore_n (lv' := [(0, .ref (ad b)), (2, .int (nI i)), (1, .int (nI 0))]) hX dX2_sumOfX_31 rfl (by decide) rfl ?_
          refine s_iinc (k := 1) (v := nI (i + 1)) (lv' := [(0, .ref (ad b)), (1, .int (nI 0)), (2, .int (nI (i + 1)))]) hX dX2_sumOfX_32 (nI_1 _) (by decide) rfl rfl ?_
          refine s_goto (tgt := 4) hX dX2_sumOfX_35 (by decide) ?_
          exact ih4 (i + 1) (by omega) (by omega)
        · exact absurd (hT i (by omega)) c17
  exact lp4 41 0 (by omega) (by omega)
set_option maxHeartbeats 4000000 in
theorem c_X2_lay (b : Nat) (hb : isF b) (i x y s u : Int32) (M : Mem) : AM yX2_lay cX2_lay 6 none 0 60 glC (fun ad => [.ref (ad b), .int i, .int x, .int y, .int s, .int u]) M (PV (fun _ => True)) := by
  refine AM.of (by decide) (fun _ => Nat.le_of_ble_eq_true rfl) (fun X ad cI cZ cB hX hR => ?_)
  show V X M [(0, .ref (ad b)), (1, .int i), (2, .int x), (3, .int y), (4, .int s), (5, .int u)] [] 0
  refine s_iload_n (k := 1) hX dX2_lay_0 rfl rfl ?_
  refine s_if_lt (tgt := 10) hX dX2_lay_1 (by decide) (fun c1 => ?_) (fun c1 => ?_)
  · replace c1 := z_lt.mp c1
    exact s_vret hX hR dX2_lay_10 trivial
  · replace c1 := mt z_lt.mpr c1
    refine s_iload_n (k := 1) hX dX2_lay_4 rfl rfl ?_
    refine s_bipush (v := (nI 40)) hX dX2_lay_5 (by decide) ?_
    refine s_icmp_lt (tgt := 11) hX dX2_lay_7 (by decide) (fun c7 => ?_) (fun c7 => ?_)
    · replace c7 := (q_lt (by omega)).mp c7
      obtain ⟨j, hj, rfl⟩ := ixi (x := i) (n := 40) (by omega) (by omega)
      refine s_aload_n (k := 0) hX dX2_lay_11 rfl rfl ?_
      refine s_get hX fX2_9 (oF hb) rfl dX2_lay_12 ?_
      refine s_iload_n (k := 1) hX dX2_lay_15 rfl rfl ?_
      refine s_iload_n (k := 2) hX dX2_lay_16 rfl rfl ?_
      refine s_iastN hX (aF1 hb) (by omega) dX2_lay_17 ?_
      refine s_mem (fun M_1 eM_1 => ?_)
      refine s_aload_n (k := 0) hX dX2_lay_18 rfl rfl ?_
      refine s_get hX fX2_15 (oF hb) rfl dX2_lay_19 ?_
      refine s_iload_n (k := 1) hX dX2_lay_22 rfl rfl ?_
      refine s_iload_n (k := 3) hX dX2_lay_23 rfl rfl ?_
      refine s_iastN hX (aF2 hb) (by omega) dX2_lay_24 ?_
      refine s_mem (fun M_2 eM_2 => ?_)
      refine s_aload_n (k := 0) hX dX2_lay_25 rfl rfl ?_
      refine s_get hX fX2_18 (oF hb) rfl dX2_lay_26 ?_
      refine s_iload_n (k := 1) hX dX2_lay_29 rfl rfl ?_
      refine s_iload (k := 4) hX dX2_lay_30 rfl ?_
      refine s_iastN hX (aF3 hb) (by omega) dX2_lay_32 ?_
      refine s_mem (fun M_3 eM_3 => ?_)
      refine s_aload_n (k := 0) hX dX2_lay_33 rfl rfl ?_
      refine s_get hX fX2_25 (oF hb) rfl dX2_lay_34 ?_
      refine s_iload_n (k := 1) hX dX2_lay_37 rfl rfl ?_
      refine s_iload (k := 5) hX dX2_lay_38 rfl ?_
      refine s_zastN hX (aF5 hb) (by omega) dX2_lay_40 ?_
      refine s_mem (fun M_4 eM_4 => ?_)
      refine s_aload_n (k := 0) hX dX2_lay_41 rfl rfl ?_
      refine s_get hX fX2_21 (oF hb) rfl dX2_lay_42 ?_
      refine s_iload_n (k := 1) hX dX2_lay_45 rfl rfl ?_
      refine s_iconst (v := (nI 1)) hX dX2_lay_46 (by decide) ?_
      refine s_zastN hX (aF4 hb) (by omega) dX2_lay_47 ?_
      refine s_mem (fun M_5 eM_5 => ?_)
      exact s_vret hX hR dX2_lay_48 trivial
    · replace c7 := mt (q_lt (by omega)).mpr c7
      exact s_vret hX hR dX2_lay_10 trivial
set_option maxHeartbeats 4000000 in
theorem c_X7_holds (n lo hi : Int32) (M : Mem) : AM yX7_holds cX7_holds 4 (some .boolean) 0 60 glC (fun ad => [.ref (ad 19), .int n, .int lo, .int hi]) M (PI (fun r M' => r = bI (lo.toInt ≤ n.toInt ∧ n.toInt ≤ hi.toInt ∧ n.toInt ≤ (M 19 1).toInt) ∧ M = M')) := by
  refine AM.of (by decide) (fun _ => Nat.le_of_ble_eq_true rfl) (fun X ad cI cZ cB hX hR => ?_)
  show V X M [(0, .ref (ad 19)), (1, .int n), (2, .int lo), (3, .int hi)] [] 0
  refine s_iload_n (k := 1) hX dX7_holds_0 rfl rfl ?_
  refine s_iload_n (k := 2) hX dX7_holds_1 rfl rfl ?_
  refine s_icmp_lt (tgt := 22) hX dX7_holds_2 (by decide) (fun c2 => ?_) (fun c2 => ?_)
  · replace c2 := Int32.lt_iff_toInt_lt.mp c2
    refine s_iconst (v := (nI 0)) hX dX7_holds_22 (by decide) ?_
    exact s_zret hX hR dX7_holds_23 (by first | decide | assumption) ⟨bI_f (by omega), rfl⟩
  · replace c2 := mt Int32.lt_iff_toInt_lt.mpr c2
    refine s_iload_n (k := 1) hX dX7_holds_5 rfl rfl ?_
    refine s_iload_n (k := 3) hX dX7_holds_6 rfl rfl ?_
    refine s_icmp_gt (tgt := 22) hX dX7_holds_7 (by decide) (fun c7 => ?_) (fun c7 => ?_)
    · replace c7 := Int32.lt_iff_toInt_lt.mp c7
      refine s_iconst (v := (nI 0)) hX dX7_holds_22 (by decide) ?_
      exact s_zret hX hR dX7_holds_23 (by first | decide | assumption) ⟨bI_f (by omega), rfl⟩
    · replace c7 := mt Int32.lt_iff_toInt_lt.mpr c7
      refine s_iload_n (k := 1) hX dX7_holds_10 rfl rfl ?_
      refine s_aload_n (k := 0) hX dX7_holds_11 rfl rfl ?_
      refine s_get hX fX7_15 oC19 rfl dX7_holds_12 ?_
      refine s_icmp_gt (tgt := 22) hX dX7_holds_15 (by decide) (fun c15 => ?_) (fun c15 => ?_)
      · replace c15 := Int32.lt_iff_toInt_lt.mp c15
        refine s_iconst (v := (nI 0)) hX dX7_holds_22 (by decide) ?_
        exact s_zret hX hR dX7_holds_23 (by first | decide | assumption) ⟨bI_f (by omega), rfl⟩
      · replace c15 := mt Int32.lt_iff_toInt_lt.mpr c15
        refine s_iconst (v := (nI 1)) hX dX7_holds_18 (by decide) ?_
        refine s_goto (tgt := 23) hX dX7_holds_19 (by decide) ?_
        exact s_zret hX hR dX7_holds_23 (by first | decide | assumption) ⟨bI_t (by omega), rfl⟩
set_option maxHeartbeats 4000000 in
theorem c_X7_open (n : Int32) (M : Mem) : AM yX7_open cX7_open 2 none 0 60 glC (fun ad => [.ref (ad 19), .int n]) M (PV (fun _ => True)) := by
  refine AM.of (by decide) (fun _ => Nat.le_of_ble_eq_true rfl) (fun X ad cI cZ cB hX hR => ?_)
  show V X M [(0, .ref (ad 19)), (1, .int n)] [] 0
  refine s_aload_n (k := 0) hX dX7_open_0 rfl rfl ?_
  refine s_iload_n (k := 1) hX dX7_open_1 rfl rfl ?_
  refine s_put (ty := .int) hX fX7_19 oC19 rfl (Nat.le_of_ble_eq_true rfl) ty_7_2 rfl rfl dX7_open_2 ?_
  refine s_mem (fun M_1 eM_1 => ?_)
  refine s_aload_n (k := 0) hX dX7_open_5 rfl rfl ?_
  refine s_iconst (v := (nI 0)) hX dX7_open_6 (by decide) ?_
  refine s_put (ty := .int) hX fX7_22 oC19 rfl (Nat.le_of_ble_eq_true rfl) ty_7_3 rfl rfl dX7_open_7 ?_
  refine s_mem (fun M_2 eM_2 => ?_)
  refine s_aload_n (k := 0) hX dX7_open_10 rfl rfl ?_
  refine s_iconst (v := (nI 0)) hX dX7_open_11 (by decide) ?_
  refine s_put (ty := .int) hX fX7_25 oC19 rfl (Nat.le_of_ble_eq_true rfl) ty_7_4 rfl rfl dX7_open_12 ?_
  refine s_mem (fun M_3 eM_3 => ?_)
  refine s_aload_n (k := 0) hX dX7_open_15 rfl rfl ?_
  refine s_iconst (v := (nI 0)) hX dX7_open_16 (by decide) ?_
  refine s_put (ty := .int) hX fX7_15 oC19 rfl (Nat.le_of_ble_eq_true rfl) ty_7_1 rfl rfl dX7_open_17 ?_
  refine s_mem (fun M_4 eM_4 => ?_)
  exact s_vret hX hR dX7_open_20 trivial
set_option maxHeartbeats 4000000 in
theorem c_X7_append (w : Int32) (M : Mem) (z : Nat) (hz : M 19 1 = nI z) (hz2 : z + 4 ≤ 260) : AM yX7_append cX7_append 3 none 0 60 glC (fun ad => [.ref (ad 19), .int w]) M (PV (fun M' => M' 19 1 = nI (z + 4))) := by
  refine AM.of (by decide) (fun _ => Nat.le_of_ble_eq_true rfl) (fun X ad cI cZ cB hX hR => ?_)
  show V X M [(0, .ref (ad 19)), (1, .int w)] [] 0
  refine s_bipush (v := (nI 24)) hX dX7_append_0 (by decide) ?_
  refine s_istore_n (lv' := [(0, .ref (ad 19)), (1, .int w), (2, .int (nI 24))]) hX dX7_append_2 rfl (by decide) rfl ?_
  have lp3 : ∀ (N3 : Nat) (i : Nat) (Mi : Mem) (x2 : Int32), (i ≤ 4) → (4 < i + N3) → (Mi 19 1 = nI (z + i)) → (x2 = nI (32 - 8 * i) - 8) → V X Mi [(0, .ref (ad 19)), (1, .int w), (2, .int x2)] [] 3 := by
    intro N3
    induction N3 with
    | zero => intro i Mi x2 hi hN3 hm hx; exact absurd hN3 (by omega)
    | succ N3 ih3 =>
      intro i Mi x2 hi hN3 hm hx
      refine s_iload_n (k := 2) hX dX7_append_3 rfl rfl ?_
      refine s_if_lt (tgt := 56) hX dX7_append_4 (by decide) (fun c4 => ?_) (fun c4 => ?_)
      · replace c4 := z_lt.mp c4
        exact s_vret hX hR dX7_append_56 (by rw [hm, show i = 4 from ap3 hx c4 hi])
      · replace c4 := mt z_lt.mpr c4
        have hi4 : i < 4 := ap4 hx c4 hi
        refine s_aload_n (k := 0) hX dX7_append_7 rfl rfl ?_
        refine s_get hX fX7_15 oC19 rfl dX7_append_8 ?_
        refine s_top (y := nI (z + i)) (hm) ?_
        refine s_if_lt (tgt := 50) hX dX7_append_11 (by decide) (fun c11 => ?_) (fun c11 => ?_)
        · exact absurd c11 (nI_pos (by omega))
        · refine s_aload_n (k := 0) hX dX7_append_14 rfl rfl ?_
          refine s_get hX fX7_15 oC19 rfl dX7_append_15 ?_
          refine s_top (y := nI (z + i)) (hm) ?_
          refine s_sipush (v := (nI 260)) hX dX7_append_18 (by decide) ?_
          refine s_icmp_ge (tgt := 50) hX dX7_append_21 (by decide) (fun c21 => ?_) (fun c21 => ?_)
          · replace c21 := (nI_leI (by omega) (by omega)).mp c21
            omega
          · replace c21 := mt (nI_leI (by omega) (by omega)).mpr c21
            refine s_aload_n (k := 0) hX dX7_append_24 rfl rfl ?_
            refine s_get hX fX7_9 oC19 rfl dX7_append_25 ?_
            refine s_aload_n (k := 0) hX dX7_append_28 rfl rfl ?_
            refine s_get hX fX7_15 oC19 rfl dX7_append_29 ?_
            refine s_top (y := nI (z + i)) (hm) ?_
            refine s_iload_n (k := 1) hX dX7_append_32 rfl rfl ?_
            refine s_iload_n (k := 2) hX dX7_append_33 rfl rfl ?_
            refine s_ishr hX dX7_append_34 ?_
            refine s_sipush (v := (nI 255)) hX dX7_append_35 (by decide) ?_
            refine s_iand hX dX7_append_38 ?_
            refine s_iastN hX aC20 (by omega) dX7_append_39 ?_
            refine s_mem (fun M_2 eM_2 => ?_)
            refine s_aload_n (k := 0) hX dX7_append_40 rfl rfl ?_
            refine s_dup hX dX7_append_41 rfl ?_
            refine s_get hX fX7_15 oC19 rfl dX7_append_42 ?_
            refine s_top (y := nI (z + i)) (by rw [eM_2]; exact ap5 hm) ?_
            refine s_iconst (v := (nI 1)) hX dX7_append_45 (by decide) ?_
            refine s_iadd hX dX7_append_46 ?_
            refine s_put (ty := .int) hX fX7_15 oC19 rfl (Nat.le_of_ble_eq_true rfl) ty_7_1 rfl rfl dX7_append_47 ?_
            refine s_mem (fun M_3 eM_3 => ?_)
            obtain ⟨x3, ex3⟩ : ∃ q : Int32, q = x2 + Int32.ofInt (-8) := ⟨_, rfl⟩
            refine s_iinc (k := 2) (v := x3) (lv' := [(0, .ref (ad 19)), (1, .int w), (2, .int x3)]) hX dX7_append_50 ex3.symm (by decide) rfl rfl ?_
            refine s_goto (tgt := 3) hX dX7_append_53 (by decide) ?_
            exact ih3 (i + 1) _ _ (by omega) (by omega) (by rw [eM_3]; exact ap1) (by rw [ex3, hx]; exact ap2 i (by omega))
  exact lp3 5 0 M _ (by omega) (by omega) hz (by decide)
set_option maxHeartbeats 4000000 in
theorem c_X2_copyStones (b : Nat) (hb : isF b) (b2 : Nat) (hb2 : isF b2) (M : Mem) (hne : b ≠ b2) : AM yX2_copyStones cX2_copyStones 3 none 0 60 glC (fun ad => [.ref (ad b), .ref (ad b2)]) M (PV (fun M' => (∀ a c, (a < b + 1 ∨ b + 5 < a) → M' a c = M a c) ∧ ∀ j, j < 40 → M' (b + 4) j = vp_nar .boolean (M (b2 + 4) j))) := by
  refine AM.of (by decide) (fun _ => Nat.le_of_ble_eq_true rfl) (fun X ad cI cZ cB hX hR => ?_)
  show V X M [(0, .ref (ad b)), (1, .ref (ad b2))] [] 0
  refine s_iconst (v := (nI 0)) hX dX2_copyStones_0 (by decide) ?_
  refine s_istore_n (lv' := [(0, .ref (ad b)), (1, .ref (ad b2)), (2, .int (nI 0))]) hX dX2_copyStones_1 rfl (by decide) rfl ?_
  have lp2 : ∀ (N2 : Nat) (i : Nat) (Mi : Mem), (i ≤ 40) → (40 < i + N2) → (∀ a c, (a < b + 1 ∨ b + 5 < a) → Mi a c = M a c) → (∀ j, j < i → Mi (b + 4) j = vp_nar .boolean (M (b2 + 4) j)) → V X Mi [(0, .ref (ad b)), (1, .ref (ad b2)), (2, .int (nI i))] [] 2 := by
    intro N2
    induction N2 with
    | zero => intro i Mi hi hN2 hf ht; exact absurd hN2 (by omega)
    | succ N2 ih2 =>
      intro i Mi hi hN2 hf ht
      refine s_iload_n (k := 2) hX dX2_copyStones_2 rfl rfl ?_
      refine s_bipush (v := (nI 40)) hX dX2_copyStones_3 (by decide) ?_
      refine s_icmp_ge (tgt := 74) hX dX2_copyStones_5 (by decide) (fun c5 => ?_) (fun c5 => ?_)
      · replace c5 := (nI_leI (by omega) (by omega)).mp c5
        exact s_vret hX hR dX2_copyStones_74 ⟨hf, fun j hj => ht j (by omega)⟩
      · replace c5 := mt (nI_leI (by omega) (by omega)).mpr c5
        refine s_aload_n (k := 0) hX dX2_copyStones_8 rfl rfl ?_
        refine s_get hX fX2_9 (oF hb) rfl dX2_copyStones_9 ?_
        refine s_iload_n (k := 2) hX dX2_copyStones_12 rfl rfl ?_
        refine s_aload_n (k := 1) hX dX2_copyStones_13 rfl rfl ?_
        refine s_get hX fX2_9 (oF hb2) rfl dX2_copyStones_14 ?_
        refine s_iload_n (k := 2) hX dX2_copyStones_17 rfl rfl ?_
        refine s_ialdN hX (aF1 hb2) (by omega) dX2_copyStones_18 ?_
        refine s_iastN hX (aF1 hb) (by omega) dX2_copyStones_19 ?_
        refine s_mem (fun M_2 eM_2 => ?_)
        refine s_aload_n (k := 0) hX dX2_copyStones_20 rfl rfl ?_
        refine s_get hX fX2_15 (oF hb) rfl dX2_copyStones_21 ?_
        refine s_iload_n (k := 2) hX dX2_copyStones_24 rfl rfl ?_
        refine s_aload_n (k := 1) hX dX2_copyStones_25 rfl rfl ?_
        refine s_get hX fX2_15 (oF hb2) rfl dX2_copyStones_26 ?_
        refine s_iload_n (k := 2) hX dX2_copyStones_29 rfl rfl ?_
        refine s_ialdN hX (aF2 hb2) (by omega) dX2_copyStones_30 ?_
        refine s_iastN hX (aF2 hb) (by omega) dX2_copyStones_31 ?_
        refine s_mem (fun M_3 eM_3 => ?_)
        refine s_aload_n (k := 0) hX dX2_copyStones_32 rfl rfl ?_
        refine s_get hX fX2_18 (oF hb) rfl dX2_copyStones_33 ?_
        refine s_iload_n (k := 2) hX dX2_copyStones_36 rfl rfl ?_
        refine s_aload_n (k := 1) hX dX2_copyStones_37 rfl rfl ?_
        refine s_get hX fX2_18 (oF hb2) rfl dX2_copyStones_38 ?_
        refine s_iload_n (k := 2) hX dX2_copyStones_41 rfl rfl ?_
        refine s_ialdN hX (aF3 hb2) (by omega) dX2_copyStones_42 ?_
        refine s_iastN hX (aF3 hb) (by omega) dX2_copyStones_43 ?_
        refine s_mem (fun M_4 eM_4 => ?_)
        refine s_aload_n (k := 0) hX dX2_copyStones_44 rfl rfl ?_
        refine s_get hX fX2_21 (oF hb) rfl dX2_copyStones_45 ?_
        refine s_iload_n (k := 2) hX dX2_copyStones_48 rfl rfl ?_
        refine s_aload_n (k := 1) hX dX2_copyStones_49 rfl rfl ?_
        refine s_get hX fX2_21 (oF hb2) rfl dX2_copyStones_50 ?_
        refine s_iload_n (k := 2) hX dX2_copyStones_53 rfl rfl ?_
        refine s_zaldN hX (aF4 hb2) (by omega) dX2_copyStones_54 ?_
        refine s_zastN hX (aF4 hb) (by omega) dX2_copyStones_55 ?_
        refine s_mem (fun M_5 eM_5 => ?_)
        refine s_aload_n (k := 0) hX dX2_copyStones_56 rfl rfl ?_
        refine s_get hX fX2_25 (oF hb) rfl dX2_copyStones_57 ?_
        refine s_iload_n (k := 2) hX dX2_copyStones_60 rfl rfl ?_
        refine s_aload_n (k := 1) hX dX2_copyStones_61 rfl rfl ?_
        refine s_get hX fX2_25 (oF hb2) rfl dX2_copyStones_62 ?_
        refine s_iload_n (k := 2) hX dX2_copyStones_65 rfl rfl ?_
        refine s_zaldN hX (aF5 hb2) (by omega) dX2_copyStones_66 ?_
        refine s_zastN hX (aF5 hb) (by omega) dX2_copyStones_67 ?_
        refine s_mem (fun M_6 eM_6 => ?_)
        refine s_iinc (k := 2) (v := nI (i + 1)) (lv' := [(0, .ref (ad b)), (1, .ref (ad b2)), (2, .int (nI (i + 1)))]) hX dX2_copyStones_68 (nI_1 _) (by decide) rfl rfl ?_
        refine s_goto (tgt := 2) hX dX2_copyStones_71 (by decide) ?_
        exact ih2 (i + 1) _ (by omega) (by omega) (by subst_vars; exact cp1 hf) (by subst_vars; exact cp2 hb hb2 hne hf ht)
  exact lp2 41 0 M (by omega) (by omega) (fun _ _ _ => rfl) (fun j hj => absurd hj (by omega))
set_option maxHeartbeats 4000000 in
theorem c_X2_copyAll (b : Nat) (hb : isF b) (b2 : Nat) (hb2 : isF b2) (M : Mem) (hne : b ≠ b2) : AM yX2_copyAll cX2_copyAll 2 none 1 60 glC (fun ad => [.ref (ad b), .ref (ad b2)]) M (PV (fun M' => (∀ a c, (a < b ∨ b + 5 < a) → M' a c = M a c) ∧ ∀ j, j < 40 → M' (b + 4) j = vp_nar .boolean (M (b2 + 4) j))) := by
  refine AM.of (by decide) (fun _ => Nat.le_of_ble_eq_true rfl) (fun X ad cI cZ cB hX hR => ?_)
  show V X M [(0, .ref (ad b)), (1, .ref (ad b2))] [] 0
  refine s_aload_n (k := 0) hX dX2_copyAll_0 rfl rfl ?_
  refine s_aload_n (k := 1) hX dX2_copyAll_1 rfl rfl ?_
  refine s_callVv hX (c_X2_copyStones b hb b2 hb2 M hne) mX2_copyStones lX2_35 (by decide) (by decide) (oF hb) rfl rfl rfl rfl rfl (by decide) dX2_copyAll_2 (fun M_1 hp2 => ?_)
  obtain ⟨hf, ht⟩ := hp2
  refine s_aload_n (k := 0) hX dX2_copyAll_5 rfl rfl ?_
  refine s_aload_n (k := 1) hX dX2_copyAll_6 rfl rfl ?_
  refine s_get hX fX2_28 (oF hb2) rfl dX2_copyAll_7 ?_
  refine s_put (ty := .int) hX fX2_28 (oF hb) rfl (Nat.le_of_ble_eq_true rfl) ty_2_5 rfl rfl dX2_copyAll_10 ?_
  refine s_mem (fun M_2 eM_2 => ?_)
  refine s_aload_n (k := 0) hX dX2_copyAll_13 rfl rfl ?_
  refine s_aload_n (k := 1) hX dX2_copyAll_14 rfl rfl ?_
  refine s_get hX fX2_32 (oF hb2) rfl dX2_copyAll_15 ?_
  refine s_put (ty := .int) hX fX2_32 (oF hb) rfl (Nat.le_of_ble_eq_true rfl) ty_2_6 rfl rfl dX2_copyAll_18 ?_
  refine s_mem (fun M_3 eM_3 => ?_)
  exact s_vret hX hR dX2_copyAll_21 (by subst_vars; exact ⟨cp3 hf, cp4 ht⟩)
end
section
/-! rows for the class, rivers and ways -/
theorem fl1 {M Mi : Mem} {k i : Nat} {v : Int32} (hf : ∀ a c, a ≠ k → Mi a c = M a c) : ∀ a c, a ≠ k → mset Mi k i v a c = M a c := by
  intro a c h
  rw [mset_get, if_neg (by omega)]
  exact hf a c h
theorem fl2 {Mi : Mem} {k i : Nat} {v : Int32} (hv : ∀ j, j < i → Mi k j = v) : ∀ j, j < i + 1 → mset Mi k i v k j = v := by
  intro j h
  rw [mset_get]
  by_cases hj : j = i
  · rw [if_pos ⟨rfl, hj⟩]
  · rw [if_neg (by omega)]
    exact hv j (by omega)
theorem ps1 {M : Mem} {b : Nat} {u v : Int32} : ∀ a c, a ≠ 21 → a ≠ b → mset (mset M 21 1 u) 21 2 v a c = M a c := by
  intro a c h h2
  simp only [mset_get]
  rw [if_neg (by omega), if_neg (by omega)]
theorem ps2 {M : Mem} {v : Int32} : mset (mset M 21 1 (nI 0)) 21 2 v 21 1 = nI 0 := by simp [mset_get]
theorem ps3 {M : Mem} : mset M 21 2 (nI 0) 21 2 = nI 0 := by simp [mset_get]
theorem ps4 {M Mi : Mem} {b : Nat} {v : Int32} (hf : ∀ a c, a ≠ 21 → a ≠ b → Mi a c = M a c) : ∀ a c, a ≠ 21 → a ≠ b → mset Mi b 5 v a c = M a c := by
  intro a c h h2
  rw [mset_get, if_neg (by omega)]
  exact hf a c h h2
theorem ps5 {Mi : Mem} {b j : Nat} {v w : Int32} (hb : isF b) (h : Mi 21 j = w) : mset Mi b 5 v 21 j = w := by
  have hb0 : b = 1 ∨ b = 7 ∨ b = 13 := hb
  rw [mset_get, if_neg (by omega)]
  exact h
theorem m1_le {n : Nat} (h : n < 2 ^ 31) : (-1 : Int32) ≤ nI n := by
  rw [Int32.le_iff_toInt_le, nI_toInt h]
  have : ((-1 : Int32)).toInt = -1 := by decide
  omega
def spJ (M : Mem) (s : Int32) (h i t : Nat) (Mi : Mem) : Prop := (∀ a c, a ≠ 24 → a ≠ 26 → Mi a c = M a c) ∧ Mi 26 0 = nI 40 ∧ (t = 2 → Mi 26 1 = nI 41) ∧ Mi 24 40 = nI 0 ∧ (Mi 24 41 = -1 ↔ t = 1) ∧ (t = 2 → 21 ≤ s.toInt) ∧ ((1 ≤ h ∨ 41 < i) → 21 ≤ s.toInt → t = 2)
theorem sp0 {M : Mem} {s : Int32} (hv : ∀ j, j < 42 → M 24 j = -1) : spJ M s 0 0 1 (mset (mset M 24 40 (nI 0)) 26 0 (nI 40)) := by
  refine ⟨fun a c h1 h2 => ?_, by simp [mset_get], fun h => absurd h (by decide), by simp [mset_get], ?_, fun h => absurd h (by decide), fun h => absurd h (by omega)⟩
  · simp only [mset_get]
    rw [if_neg (by omega), if_neg (by omega)]
  · simp [mset_get, hv 41 (by decide)]
theorem sp2 {M : Mem} {s : Int32} {h t : Nat} {Mi : Mem} (hI : spJ M s h 0 t Mi) (hh : h < 2) (hht : h < t) (ht : t ≤ 2 := by omega) : Mi 26 h = nI (40 + h) := by
  obtain ⟨-, h1, h2, -⟩ := hI
  rcases (show h = 0 ∨ h = 1 by omega) with rfl | rfl
  · exact h1
  · exact h2 (by omega)
theorem sp3a {M : Mem} {s : Int32} {h i t : Nat} {Mi : Mem} (hJ : spJ M s h i t Mi) (hc : ¬ Mi 24 i = -1) (hi : i < 42) (ht1 : h + 1 ≤ t) (ht2 : t ≤ 2) : spJ M s h (i + 1) t Mi := by
  obtain ⟨a1, a2, a3, a4, a5, a6, a7⟩ := hJ
  refine ⟨a1, a2, a3, a4, a5, a6, fun h1 h2 => ?_⟩
  rcases (show i = 41 ∨ (1 ≤ h ∨ 41 < i) by omega) with rfl | q
  · have : ¬ t = 1 := fun z => hc (a5.mpr z)
    omega
  · exact a7 q h2
theorem sp3c {M : Mem} {s : Int32} {h i t : Nat} {Mi : Mem} (hJ : spJ M s h i t Mi) (hc : ¬ (40 + h ≠ i ∧ 40 ≤ i ∧ 21 ≤ s.toInt)) : spJ M s h (i + 1) t Mi := by
  obtain ⟨a1, a2, a3, a4, a5, a6, a7⟩ := hJ
  refine ⟨a1, a2, a3, a4, a5, a6, fun h1 h2 => ?_⟩
  rcases (show (1 ≤ h ∨ 41 < i) ∨ (h = 0 ∧ i = 41) by omega) with q | q
  · exact a7 q h2
  · exact absurd ⟨by omega, by omega, h2⟩ hc
theorem sp3d {M : Mem} {s x : Int32} {h i t : Nat} {Mi : Mem} (hJ : spJ M s h i t Mi) (hc : Mi 24 i = -1) (hd : 40 + h ≠ i ∧ 40 ≤ i ∧ 21 ≤ s.toInt) (hi : i < 42) (hh : h < 2) (hx : h = 0 → ¬ x = -1) (ht1 : h + 1 ≤ t) : spJ M s h (i + 1) (t + 1) (mset (mset Mi 24 i x) 26 t (nI i)) := by
  obtain ⟨a1, a2, a3, a4, a5, a6, a7⟩ := hJ
  have hi1 : i = 41 := by
    rcases (show i = 40 ∨ i = 41 by omega) with rfl | q
    · rw [a4] at hc
      exact absurd hc (by decide)
    · exact q
  subst hi1
  have ht : t = 1 := a5.mp hc
  subst ht
  have h0 : h = 0 := by omega
  refine ⟨fun a c h1 h2 => ?_, ?_, fun _ => by simp [mset_get], ?_, ?_, fun _ => hd.2.2, fun _ _ => rfl⟩
  · simp only [mset_get]
    rw [if_neg (by omega), if_neg (by omega)]
    exact a1 a c h1 h2
  · simp only [mset_get]
    rw [if_neg (by omega), if_neg (by omega)]
    exact a2
  · simp only [mset_get]
    rw [if_neg (by omega), if_neg (by omega)]
    exact a4
  · simp only [mset_get]
    rw [if_neg (by omega), if_pos (by simp)]
    exact ⟨fun z => absurd z (hx h0), fun z => absurd z (by decide)⟩
theorem sp7 {M : Mem} {s : Int32} {h i t : Nat} {Mi : Mem} (hJ : spJ M s h i t Mi) (hc : Mi 24 i = -1) (hd : 40 + h ≠ i ∧ 40 ≤ i ∧ 21 ≤ s.toInt) (hi : i < 42) : t = 1 := by
  obtain ⟨a1, a2, a3, a4, a5, a6, a7⟩ := hJ
  rcases (show i = 40 ∨ i = 41 by omega) with rfl | rfl
  · rw [a4] at hc
    exact absurd hc (by decide)
  · exact a5.mp hc
theorem sp4 {M : Mem} {s : Int32} {h i t : Nat} {Mi : Mem} (hJ : spJ M s h i t Mi) (hi : 41 < i) : spJ M s (h + 1) 0 t Mi := by
  obtain ⟨a1, a2, a3, a4, a5, a6, a7⟩ := hJ
  exact ⟨a1, a2, a3, a4, a5, a6, fun _ h2 => a7 (Or.inr hi) h2⟩
theorem sp5 {M : Mem} {s x : Int32} {h t : Nat} {Mi : Mem} (hI : spJ M s h 0 t Mi) (h0 : h = 0) (ex : x = Mi 24 (40 + h) + nI 1) : ¬ x = -1 := by
  subst h0
  obtain ⟨-, -, -, a4, -⟩ := hI
  rw [ex, a4]
  decide
theorem sp6 {M : Mem} {s : Int32} {h t : Nat} {Mi : Mem} (hI : spJ M s h 0 t Mi) (hh : 1 ≤ h) (h1 : 1 ≤ t) (h2 : t ≤ 2) : Mi 24 41 = -1 ↔ s.toInt < 21 := by
  obtain ⟨-, -, -, -, a5, a6, a7⟩ := hI
  rw [a5]
  constructor
  · intro z
    rcases Int.lt_or_le s.toInt 21 with q | q
    · exact q
    · have := a7 (Or.inl hh) q
      omega
  · intro z
    rcases (show t = 1 ∨ t = 2 by omega) with q | q
    · exact q
    · have := a6 q
      omega
theorem dJ7_fill_53178_0 : decode cJ7_fill_53178 0 = .ok (.iconst 0, 1) := by decide +kernel
theorem dJ7_fill_53178_1 : decode cJ7_fill_53178 1 = .ok (.istore_n 2, 1) := by decide +kernel
theorem dJ7_fill_53178_2 : decode cJ7_fill_53178 2 = .ok (.aload_n 0, 1) := by decide +kernel
theorem dJ7_fill_53178_3 : decode cJ7_fill_53178 3 = .ok (.arraylength, 1) := by decide +kernel
theorem dJ7_fill_53178_4 : decode cJ7_fill_53178 4 = .ok (.istore_n 3, 1) := by decide +kernel
theorem dJ7_fill_53178_5 : decode cJ7_fill_53178 5 = .ok (.iload_n 2, 1) := by decide +kernel
theorem dJ7_fill_53178_6 : decode cJ7_fill_53178 6 = .ok (.iload_n 3, 1) := by decide +kernel
theorem dJ7_fill_53178_7 : decode cJ7_fill_53178 7 = .ok (.if_icmp .ge 13, 3) := by decide +kernel
theorem dJ7_fill_53178_10 : decode cJ7_fill_53178 10 = .ok (.aload_n 0, 1) := by decide +kernel
theorem dJ7_fill_53178_11 : decode cJ7_fill_53178 11 = .ok (.iload_n 2, 1) := by decide +kernel
theorem dJ7_fill_53178_12 : decode cJ7_fill_53178 12 = .ok (.iload_n 1, 1) := by decide +kernel
theorem dJ7_fill_53178_13 : decode cJ7_fill_53178 13 = .ok (.iastore, 1) := by decide +kernel
theorem dJ7_fill_53178_14 : decode cJ7_fill_53178 14 = .ok (.iinc 2 1, 3) := by decide +kernel
theorem dJ7_fill_53178_17 : decode cJ7_fill_53178 17 = .ok (.goto (-12), 3) := by decide +kernel
theorem dJ7_fill_53178_20 : decode cJ7_fill_53178 20 = .ok (.return_, 1) := by decide +kernel
theorem dX5_pass_0 : decode cX5_pass 0 = .ok (.aload_n 0, 1) := by decide +kernel
theorem dX5_pass_1 : decode cX5_pass 1 = .ok (.iconst 0, 1) := by decide +kernel
theorem dX5_pass_2 : decode cX5_pass 2 = .ok (.putfield 15, 3) := by decide +kernel
theorem dX5_pass_5 : decode cX5_pass 5 = .ok (.aload_n 0, 1) := by decide +kernel
theorem dX5_pass_6 : decode cX5_pass 6 = .ok (.iconst 0, 1) := by decide +kernel
theorem dX5_pass_7 : decode cX5_pass 7 = .ok (.putfield 19, 3) := by decide +kernel
theorem dX5_pass_10 : decode cX5_pass 10 = .ok (.iconst 0, 1) := by decide +kernel
theorem dX5_pass_11 : decode cX5_pass 11 = .ok (.istore 4, 2) := by decide +kernel
theorem dX5_pass_13 : decode cX5_pass 13 = .ok (.iload 4, 2) := by decide +kernel
theorem dX5_pass_15 : decode cX5_pass 15 = .ok (.iload_n 3, 1) := by decide +kernel
theorem dX5_pass_16 : decode cX5_pass 16 = .ok (.if_icmp .ge 63, 3) := by decide +kernel
theorem dX5_pass_19 : decode cX5_pass 19 = .ok (.aload_n 1, 1) := by decide +kernel
theorem dX5_pass_20 : decode cX5_pass 20 = .ok (.getfield 22, 3) := by decide +kernel
theorem dX5_pass_23 : decode cX5_pass 23 = .ok (.sipush 9999, 3) := by decide +kernel
theorem dX5_pass_26 : decode cX5_pass 26 = .ok (.if_icmp .ge 53, 3) := by decide +kernel
theorem dX5_pass_29 : decode cX5_pass 29 = .ok (.iconst 0, 1) := by decide +kernel
theorem dX5_pass_30 : decode cX5_pass 30 = .ok (.istore 5, 2) := by decide +kernel
theorem dX5_pass_32 : decode cX5_pass 32 = .ok (.iload 5, 2) := by decide +kernel
theorem dX5_pass_34 : decode cX5_pass 34 = .ok (.bipush 40, 2) := by decide +kernel
theorem dX5_pass_36 : decode cX5_pass 36 = .ok (.if_icmp .ge 27, 3) := by decide +kernel
theorem dX5_pass_39 : decode cX5_pass 39 = .ok (.aload_n 1, 1) := by decide +kernel
theorem dX5_pass_40 : decode cX5_pass 40 = .ok (.getfield 27, 3) := by decide +kernel
theorem dX5_pass_43 : decode cX5_pass 43 = .ok (.iload 5, 2) := by decide +kernel
theorem dX5_pass_45 : decode cX5_pass 45 = .ok (.baload, 1) := by decide +kernel
theorem dX5_pass_46 : decode cX5_pass 46 = .ok (.ifCond .eq 11, 3) := by decide +kernel
theorem dX5_pass_49 : decode cX5_pass 49 = .ok (.aload_n 0, 1) := by decide +kernel
theorem dX5_pass_50 : decode cX5_pass 50 = .ok (.aload_n 1, 1) := by decide +kernel
theorem dX5_pass_51 : decode cX5_pass 51 = .ok (.aload_n 2, 1) := by decide +kernel
theorem dX5_pass_52 : decode cX5_pass 52 = .ok (.iload 5, 2) := by decide +kernel
theorem dX5_pass_54 : decode cX5_pass 54 = .ok (.invokevirtual 31, 3) := by decide +kernel
theorem dX5_pass_57 : decode cX5_pass 57 = .ok (.iinc 5 1, 3) := by decide +kernel
theorem dX5_pass_60 : decode cX5_pass 60 = .ok (.goto (-28), 3) := by decide +kernel
theorem dX5_pass_63 : decode cX5_pass 63 = .ok (.aload_n 1, 1) := by decide +kernel
theorem dX5_pass_64 : decode cX5_pass 64 = .ok (.dup, 1) := by decide +kernel
theorem dX5_pass_65 : decode cX5_pass 65 = .ok (.getfield 22, 3) := by decide +kernel
theorem dX5_pass_68 : decode cX5_pass 68 = .ok (.iconst 1, 1) := by decide +kernel
theorem dX5_pass_69 : decode cX5_pass 69 = .ok (.iadd, 1) := by decide +kernel
theorem dX5_pass_70 : decode cX5_pass 70 = .ok (.putfield 22, 3) := by decide +kernel
theorem dX5_pass_73 : decode cX5_pass 73 = .ok (.iinc 4 1, 3) := by decide +kernel
theorem dX5_pass_76 : decode cX5_pass 76 = .ok (.goto (-63), 3) := by decide +kernel
theorem dX5_pass_79 : decode cX5_pass 79 = .ok (.return_, 1) := by decide +kernel
theorem dX2_canStand_0 : decode cX2_canStand 0 = .ok (.iload_n 1, 1) := by decide +kernel
theorem dX2_canStand_1 : decode cX2_canStand 1 = .ok (.bipush 40, 2) := by decide +kernel
theorem dX2_canStand_3 : decode cX2_canStand 3 = .ok (.if_icmp .eq 17, 3) := by decide +kernel
theorem dX2_canStand_6 : decode cX2_canStand 6 = .ok (.iload_n 1, 1) := by decide +kernel
theorem dX2_canStand_7 : decode cX2_canStand 7 = .ok (.bipush 41, 2) := by decide +kernel
theorem dX2_canStand_9 : decode cX2_canStand 9 = .ok (.if_icmp .eq 11, 3) := by decide +kernel
theorem dX2_canStand_12 : decode cX2_canStand 12 = .ok (.aload_n 0, 1) := by decide +kernel
theorem dX2_canStand_13 : decode cX2_canStand 13 = .ok (.iload_n 1, 1) := by decide +kernel
theorem dX2_canStand_14 : decode cX2_canStand 14 = .ok (.invokevirtual 45, 3) := by decide +kernel
theorem dX2_canStand_17 : decode cX2_canStand 17 = .ok (.ifCond .eq 7, 3) := by decide +kernel
theorem dX2_canStand_20 : decode cX2_canStand 20 = .ok (.iconst 1, 1) := by decide +kernel
theorem dX2_canStand_21 : decode cX2_canStand 21 = .ok (.goto 4, 3) := by decide +kernel
theorem dX2_canStand_24 : decode cX2_canStand 24 = .ok (.iconst 0, 1) := by decide +kernel
theorem dX2_canStand_25 : decode cX2_canStand 25 = .ok (.ireturn, 1) := by decide +kernel
theorem dX2_heightOf_0 : decode cX2_heightOf 0 = .ok (.iload_n 1, 1) := by decide +kernel
theorem dX2_heightOf_1 : decode cX2_heightOf 1 = .ok (.bipush 41, 2) := by decide +kernel
theorem dX2_heightOf_3 : decode cX2_heightOf 3 = .ok (.if_icmp .ne 6, 3) := by decide +kernel
theorem dX2_heightOf_6 : decode cX2_heightOf 6 = .ok (.bipush 21, 2) := by decide +kernel
theorem dX2_heightOf_8 : decode cX2_heightOf 8 = .ok (.ireturn, 1) := by decide +kernel
theorem dX2_heightOf_9 : decode cX2_heightOf 9 = .ok (.iload_n 1, 1) := by decide +kernel
theorem dX2_heightOf_10 : decode cX2_heightOf 10 = .ok (.ifCond .lt 18, 3) := by decide +kernel
theorem dX2_heightOf_13 : decode cX2_heightOf 13 = .ok (.iload_n 1, 1) := by decide +kernel
theorem dX2_heightOf_14 : decode cX2_heightOf 14 = .ok (.bipush 40, 2) := by decide +kernel
theorem dX2_heightOf_16 : decode cX2_heightOf 16 = .ok (.if_icmp .ge 12, 3) := by decide +kernel
theorem dX2_heightOf_19 : decode cX2_heightOf 19 = .ok (.aload_n 0, 1) := by decide +kernel
theorem dX2_heightOf_20 : decode cX2_heightOf 20 = .ok (.getfield 15, 3) := by decide +kernel
theorem dX2_heightOf_23 : decode cX2_heightOf 23 = .ok (.iload_n 1, 1) := by decide +kernel
theorem dX2_heightOf_24 : decode cX2_heightOf 24 = .ok (.iaload, 1) := by decide +kernel
theorem dX2_heightOf_25 : decode cX2_heightOf 25 = .ok (.goto 4, 3) := by decide +kernel
theorem dX2_heightOf_28 : decode cX2_heightOf 28 = .ok (.iconst 0, 1) := by decide +kernel
theorem dX2_heightOf_29 : decode cX2_heightOf 29 = .ok (.ireturn, 1) := by decide +kernel
theorem dX2_isStep_0 : decode cX2_isStep 0 = .ok (.iload_n 1, 1) := by decide +kernel
theorem dX2_isStep_1 : decode cX2_isStep 1 = .ok (.iload_n 2, 1) := by decide +kernel
theorem dX2_isStep_2 : decode cX2_isStep 2 = .ok (.if_icmp .eq 11, 3) := by decide +kernel
theorem dX2_isStep_5 : decode cX2_isStep 5 = .ok (.aload_n 0, 1) := by decide +kernel
theorem dX2_isStep_6 : decode cX2_isStep 6 = .ok (.iload_n 1, 1) := by decide +kernel
theorem dX2_isStep_7 : decode cX2_isStep 7 = .ok (.invokevirtual 56, 3) := by decide +kernel
theorem dX2_isStep_10 : decode cX2_isStep 10 = .ok (.ifCond .ne 5, 3) := by decide +kernel
theorem dX2_isStep_13 : decode cX2_isStep 13 = .ok (.iconst 0, 1) := by decide +kernel
theorem dX2_isStep_14 : decode cX2_isStep 14 = .ok (.ireturn, 1) := by decide +kernel
theorem dX2_isStep_15 : decode cX2_isStep 15 = .ok (.iload_n 2, 1) := by decide +kernel
theorem dX2_isStep_16 : decode cX2_isStep 16 = .ok (.ifCond .lt 44, 3) := by decide +kernel
theorem dX2_isStep_19 : decode cX2_isStep 19 = .ok (.iload_n 2, 1) := by decide +kernel
theorem dX2_isStep_20 : decode cX2_isStep 20 = .ok (.bipush 40, 2) := by decide +kernel
theorem dX2_isStep_22 : decode cX2_isStep 22 = .ok (.if_icmp .ge 38, 3) := by decide +kernel
theorem dX2_isStep_25 : decode cX2_isStep 25 = .ok (.aload_n 0, 1) := by decide +kernel
theorem dX2_isStep_26 : decode cX2_isStep 26 = .ok (.iload_n 2, 1) := by decide +kernel
theorem dX2_isStep_27 : decode cX2_isStep 27 = .ok (.invokevirtual 45, 3) := by decide +kernel
theorem dX2_isStep_30 : decode cX2_isStep 30 = .ok (.ifCond .eq 28, 3) := by decide +kernel
theorem dX2_isStep_33 : decode cX2_isStep 33 = .ok (.aload_n 0, 1) := by decide +kernel
theorem dX2_isStep_34 : decode cX2_isStep 34 = .ok (.iload_n 1, 1) := by decide +kernel
theorem dX2_isStep_35 : decode cX2_isStep 35 = .ok (.aload_n 0, 1) := by decide +kernel
theorem dX2_isStep_36 : decode cX2_isStep 36 = .ok (.getfield 9, 3) := by decide +kernel
theorem dX2_isStep_39 : decode cX2_isStep 39 = .ok (.iload_n 2, 1) := by decide +kernel
theorem dX2_isStep_40 : decode cX2_isStep 40 = .ok (.iaload, 1) := by decide +kernel
theorem dX2_isStep_41 : decode cX2_isStep 41 = .ok (.aload_n 0, 1) := by decide +kernel
theorem dX2_isStep_42 : decode cX2_isStep 42 = .ok (.getfield 15, 3) := by decide +kernel
theorem dX2_isStep_45 : decode cX2_isStep 45 = .ok (.iload_n 2, 1) := by decide +kernel
theorem dX2_isStep_46 : decode cX2_isStep 46 = .ok (.iaload, 1) := by decide +kernel
theorem dX2_isStep_47 : decode cX2_isStep 47 = .ok (.iload_n 3, 1) := by decide +kernel
theorem dX2_isStep_48 : decode cX2_isStep 48 = .ok (.invokevirtual 59, 3) := by decide +kernel
theorem dX2_isStep_51 : decode cX2_isStep 51 = .ok (.ifCond .eq 7, 3) := by decide +kernel
theorem dX2_isStep_54 : decode cX2_isStep 54 = .ok (.iconst 1, 1) := by decide +kernel
theorem dX2_isStep_55 : decode cX2_isStep 55 = .ok (.goto 4, 3) := by decide +kernel
theorem dX2_isStep_58 : decode cX2_isStep 58 = .ok (.iconst 0, 1) := by decide +kernel
theorem dX2_isStep_59 : decode cX2_isStep 59 = .ok (.ireturn, 1) := by decide +kernel
theorem dX2_isStep_60 : decode cX2_isStep 60 = .ok (.iload_n 2, 1) := by decide +kernel
theorem dX2_isStep_61 : decode cX2_isStep 61 = .ok (.bipush 40, 2) := by decide +kernel
theorem dX2_isStep_63 : decode cX2_isStep 63 = .ok (.if_icmp .eq 9, 3) := by decide +kernel
theorem dX2_isStep_66 : decode cX2_isStep 66 = .ok (.iload_n 2, 1) := by decide +kernel
theorem dX2_isStep_67 : decode cX2_isStep 67 = .ok (.bipush 41, 2) := by decide +kernel
theorem dX2_isStep_69 : decode cX2_isStep 69 = .ok (.if_icmp .ne 25, 3) := by decide +kernel
theorem dX2_isStep_72 : decode cX2_isStep 72 = .ok (.aload_n 0, 1) := by decide +kernel
theorem dX2_isStep_73 : decode cX2_isStep 73 = .ok (.iload_n 1, 1) := by decide +kernel
theorem dX2_isStep_74 : decode cX2_isStep 74 = .ok (.invokevirtual 63, 3) := by decide +kernel
theorem dX2_isStep_77 : decode cX2_isStep 77 = .ok (.aload_n 0, 1) := by decide +kernel
theorem dX2_isStep_78 : decode cX2_isStep 78 = .ok (.iload_n 2, 1) := by decide +kernel
theorem dX2_isStep_79 : decode cX2_isStep 79 = .ok (.invokevirtual 63, 3) := by decide +kernel
theorem dX2_isStep_82 : decode cX2_isStep 82 = .ok (.isub, 1) := by decide +kernel
theorem dX2_isStep_83 : decode cX2_isStep 83 = .ok (.invokestatic 67, 3) := by decide +kernel
theorem dX2_isStep_86 : decode cX2_isStep 86 = .ok (.iload_n 3, 1) := by decide +kernel
theorem dX2_isStep_87 : decode cX2_isStep 87 = .ok (.if_icmp .gt 7, 3) := by decide +kernel
theorem dX2_isStep_90 : decode cX2_isStep 90 = .ok (.iconst 1, 1) := by decide +kernel
theorem dX2_isStep_91 : decode cX2_isStep 91 = .ok (.goto 4, 3) := by decide +kernel
theorem dX2_isStep_94 : decode cX2_isStep 94 = .ok (.iconst 0, 1) := by decide +kernel
theorem dX2_isStep_95 : decode cX2_isStep 95 = .ok (.ireturn, 1) := by decide +kernel
theorem dX8_spreadOn_0 : decode cX8_spreadOn 0 = .ok (.iload_n 3, 1) := by decide +kernel
theorem dX8_spreadOn_1 : decode cX8_spreadOn 1 = .ok (.ifCond .lt 17, 3) := by decide +kernel
theorem dX8_spreadOn_4 : decode cX8_spreadOn 4 = .ok (.iload_n 3, 1) := by decide +kernel
theorem dX8_spreadOn_5 : decode cX8_spreadOn 5 = .ok (.bipush 42, 2) := by decide +kernel
theorem dX8_spreadOn_7 : decode cX8_spreadOn 7 = .ok (.if_icmp .ge 11, 3) := by decide +kernel
theorem dX8_spreadOn_10 : decode cX8_spreadOn 10 = .ok (.aload 4, 2) := by decide +kernel
theorem dX8_spreadOn_12 : decode cX8_spreadOn 12 = .ok (.arraylength, 1) := by decide +kernel
theorem dX8_spreadOn_13 : decode cX8_spreadOn 13 = .ok (.bipush 42, 2) := by decide +kernel
theorem dX8_spreadOn_15 : decode cX8_spreadOn 15 = .ok (.if_icmp .ge 5, 3) := by decide +kernel
theorem dX8_spreadOn_18 : decode cX8_spreadOn 18 = .ok (.iconst 0, 1) := by decide +kernel
theorem dX8_spreadOn_19 : decode cX8_spreadOn 19 = .ok (.ireturn, 1) := by decide +kernel
theorem dX8_spreadOn_20 : decode cX8_spreadOn 20 = .ok (.aload 4, 2) := by decide +kernel
theorem dX8_spreadOn_22 : decode cX8_spreadOn 22 = .ok (.iload_n 3, 1) := by decide +kernel
theorem dX8_spreadOn_23 : decode cX8_spreadOn 23 = .ok (.iconst 0, 1) := by decide +kernel
theorem dX8_spreadOn_24 : decode cX8_spreadOn 24 = .ok (.iastore, 1) := by decide +kernel
theorem dX8_spreadOn_25 : decode cX8_spreadOn 25 = .ok (.aload_n 0, 1) := by decide +kernel
theorem dX8_spreadOn_26 : decode cX8_spreadOn 26 = .ok (.getfield 18, 3) := by decide +kernel
theorem dX8_spreadOn_29 : decode cX8_spreadOn 29 = .ok (.iconst 0, 1) := by decide +kernel
theorem dX8_spreadOn_30 : decode cX8_spreadOn 30 = .ok (.iload_n 3, 1) := by decide +kernel
theorem dX8_spreadOn_31 : decode cX8_spreadOn 31 = .ok (.iastore, 1) := by decide +kernel
theorem dX8_spreadOn_32 : decode cX8_spreadOn 32 = .ok (.iconst 1, 1) := by decide +kernel
theorem dX8_spreadOn_33 : decode cX8_spreadOn 33 = .ok (.istore 6, 2) := by decide +kernel
theorem dX8_spreadOn_35 : decode cX8_spreadOn 35 = .ok (.iconst 0, 1) := by decide +kernel
theorem dX8_spreadOn_36 : decode cX8_spreadOn 36 = .ok (.istore 7, 2) := by decide +kernel
theorem dX8_spreadOn_38 : decode cX8_spreadOn 38 = .ok (.iload 7, 2) := by decide +kernel
theorem dX8_spreadOn_40 : decode cX8_spreadOn 40 = .ok (.iload 6, 2) := by decide +kernel
theorem dX8_spreadOn_42 : decode cX8_spreadOn 42 = .ok (.if_icmp .ge 120, 3) := by decide +kernel
theorem dX8_spreadOn_45 : decode cX8_spreadOn 45 = .ok (.iload 7, 2) := by decide +kernel
theorem dX8_spreadOn_47 : decode cX8_spreadOn 47 = .ok (.bipush 42, 2) := by decide +kernel
theorem dX8_spreadOn_49 : decode cX8_spreadOn 49 = .ok (.if_icmp .ge 113, 3) := by decide +kernel
theorem dX8_spreadOn_52 : decode cX8_spreadOn 52 = .ok (.aload_n 0, 1) := by decide +kernel
theorem dX8_spreadOn_53 : decode cX8_spreadOn 53 = .ok (.getfield 18, 3) := by decide +kernel
theorem dX8_spreadOn_56 : decode cX8_spreadOn 56 = .ok (.iload 7, 2) := by decide +kernel
theorem dX8_spreadOn_58 : decode cX8_spreadOn 58 = .ok (.iaload, 1) := by decide +kernel
theorem dX8_spreadOn_59 : decode cX8_spreadOn 59 = .ok (.istore 8, 2) := by decide +kernel
theorem dX8_spreadOn_61 : decode cX8_spreadOn 61 = .ok (.iload 8, 2) := by decide +kernel
theorem dX8_spreadOn_63 : decode cX8_spreadOn 63 = .ok (.ifCond .lt 20, 3) := by decide +kernel
theorem dX8_spreadOn_66 : decode cX8_spreadOn 66 = .ok (.iload 8, 2) := by decide +kernel
theorem dX8_spreadOn_68 : decode cX8_spreadOn 68 = .ok (.bipush 42, 2) := by decide +kernel
theorem dX8_spreadOn_70 : decode cX8_spreadOn 70 = .ok (.if_icmp .ge 13, 3) := by decide +kernel
theorem dX8_spreadOn_73 : decode cX8_spreadOn 73 = .ok (.aload 4, 2) := by decide +kernel
theorem dX8_spreadOn_75 : decode cX8_spreadOn 75 = .ok (.iload 8, 2) := by decide +kernel
theorem dX8_spreadOn_77 : decode cX8_spreadOn 77 = .ok (.iaload, 1) := by decide +kernel
theorem dX8_spreadOn_78 : decode cX8_spreadOn 78 = .ok (.iconst 1, 1) := by decide +kernel
theorem dX8_spreadOn_79 : decode cX8_spreadOn 79 = .ok (.iadd, 1) := by decide +kernel
theorem dX8_spreadOn_80 : decode cX8_spreadOn 80 = .ok (.goto 4, 3) := by decide +kernel
theorem dX8_spreadOn_83 : decode cX8_spreadOn 83 = .ok (.iconst 0, 1) := by decide +kernel
theorem dX8_spreadOn_84 : decode cX8_spreadOn 84 = .ok (.istore 9, 2) := by decide +kernel
theorem dX8_spreadOn_86 : decode cX8_spreadOn 86 = .ok (.iconst 0, 1) := by decide +kernel
theorem dX8_spreadOn_87 : decode cX8_spreadOn 87 = .ok (.istore 10, 2) := by decide +kernel
theorem dX8_spreadOn_89 : decode cX8_spreadOn 89 = .ok (.iload 10, 2) := by decide +kernel
theorem dX8_spreadOn_91 : decode cX8_spreadOn 91 = .ok (.iload 5, 2) := by decide +kernel
theorem dX8_spreadOn_93 : decode cX8_spreadOn 93 = .ok (.if_icmp .ge 63, 3) := by decide +kernel
theorem dX8_spreadOn_96 : decode cX8_spreadOn 96 = .ok (.iload 10, 2) := by decide +kernel
theorem dX8_spreadOn_98 : decode cX8_spreadOn 98 = .ok (.bipush 42, 2) := by decide +kernel
theorem dX8_spreadOn_100 : decode cX8_spreadOn 100 = .ok (.if_icmp .ge 56, 3) := by decide +kernel
theorem dX8_spreadOn_103 : decode cX8_spreadOn 103 = .ok (.aload 4, 2) := by decide +kernel
theorem dX8_spreadOn_105 : decode cX8_spreadOn 105 = .ok (.iload 10, 2) := by decide +kernel
theorem dX8_spreadOn_107 : decode cX8_spreadOn 107 = .ok (.iaload, 1) := by decide +kernel
theorem dX8_spreadOn_108 : decode cX8_spreadOn 108 = .ok (.iconst (-1), 1) := by decide +kernel
theorem dX8_spreadOn_109 : decode cX8_spreadOn 109 = .ok (.if_icmp .ne 41, 3) := by decide +kernel
theorem dX8_spreadOn_112 : decode cX8_spreadOn 112 = .ok (.iload 6, 2) := by decide +kernel
theorem dX8_spreadOn_114 : decode cX8_spreadOn 114 = .ok (.bipush 42, 2) := by decide +kernel
theorem dX8_spreadOn_116 : decode cX8_spreadOn 116 = .ok (.if_icmp .ge 34, 3) := by decide +kernel
theorem dX8_spreadOn_119 : decode cX8_spreadOn 119 = .ok (.aload_n 1, 1) := by decide +kernel
theorem dX8_spreadOn_120 : decode cX8_spreadOn 120 = .ok (.iload 8, 2) := by decide +kernel
theorem dX8_spreadOn_122 : decode cX8_spreadOn 122 = .ok (.iload 10, 2) := by decide +kernel
theorem dX8_spreadOn_124 : decode cX8_spreadOn 124 = .ok (.iload_n 2, 1) := by decide +kernel
theorem dX8_spreadOn_125 : decode cX8_spreadOn 125 = .ok (.invokevirtual 41, 3) := by decide +kernel
theorem dX8_spreadOn_128 : decode cX8_spreadOn 128 = .ok (.ifCond .eq 22, 3) := by decide +kernel
theorem dX8_spreadOn_131 : decode cX8_spreadOn 131 = .ok (.aload 4, 2) := by decide +kernel
theorem dX8_spreadOn_133 : decode cX8_spreadOn 133 = .ok (.iload 10, 2) := by decide +kernel
theorem dX8_spreadOn_135 : decode cX8_spreadOn 135 = .ok (.iload 9, 2) := by decide +kernel
theorem dX8_spreadOn_137 : decode cX8_spreadOn 137 = .ok (.iastore, 1) := by decide +kernel
theorem dX8_spreadOn_138 : decode cX8_spreadOn 138 = .ok (.aload_n 0, 1) := by decide +kernel
theorem dX8_spreadOn_139 : decode cX8_spreadOn 139 = .ok (.getfield 18, 3) := by decide +kernel
theorem dX8_spreadOn_142 : decode cX8_spreadOn 142 = .ok (.iload 6, 2) := by decide +kernel
theorem dX8_spreadOn_144 : decode cX8_spreadOn 144 = .ok (.iload 10, 2) := by decide +kernel
theorem dX8_spreadOn_146 : decode cX8_spreadOn 146 = .ok (.iastore, 1) := by decide +kernel
theorem dX8_spreadOn_147 : decode cX8_spreadOn 147 = .ok (.iinc 6 1, 3) := by decide +kernel
theorem dX8_spreadOn_150 : decode cX8_spreadOn 150 = .ok (.iinc 10 1, 3) := by decide +kernel
theorem dX8_spreadOn_153 : decode cX8_spreadOn 153 = .ok (.goto (-64), 3) := by decide +kernel
theorem dX8_spreadOn_156 : decode cX8_spreadOn 156 = .ok (.iinc 7 1, 3) := by decide +kernel
theorem dX8_spreadOn_159 : decode cX8_spreadOn 159 = .ok (.goto (-121), 3) := by decide +kernel
theorem dX8_spreadOn_162 : decode cX8_spreadOn 162 = .ok (.iload 6, 2) := by decide +kernel
theorem dX8_spreadOn_164 : decode cX8_spreadOn 164 = .ok (.ireturn, 1) := by decide +kernel
theorem dX8_spread_0 : decode cX8_spread 0 = .ok (.aload 4, 2) := by decide +kernel
theorem dX8_spread_2 : decode cX8_spread 2 = .ok (.iconst (-1), 1) := by decide +kernel
theorem dX8_spread_3 : decode cX8_spread 3 = .ok (.invokestatic 31, 3) := by decide +kernel
theorem dX8_spread_6 : decode cX8_spread 6 = .ok (.aload_n 0, 1) := by decide +kernel
theorem dX8_spread_7 : decode cX8_spread 7 = .ok (.aload_n 1, 1) := by decide +kernel
theorem dX8_spread_8 : decode cX8_spread 8 = .ok (.iload_n 2, 1) := by decide +kernel
theorem dX8_spread_9 : decode cX8_spread 9 = .ok (.iload_n 3, 1) := by decide +kernel
theorem dX8_spread_10 : decode cX8_spread 10 = .ok (.aload 4, 2) := by decide +kernel
theorem dX8_spread_12 : decode cX8_spread 12 = .ok (.iload 5, 2) := by decide +kernel
theorem dX8_spread_14 : decode cX8_spread 14 = .ok (.invokevirtual 37, 3) := by decide +kernel
theorem dX8_spread_17 : decode cX8_spread 17 = .ok (.ireturn, 1) := by decide +kernel
theorem dX8_canCross_0 : decode cX8_canCross 0 = .ok (.aload_n 0, 1) := by decide +kernel
theorem dX8_canCross_1 : decode cX8_canCross 1 = .ok (.aload_n 1, 1) := by decide +kernel
theorem dX8_canCross_2 : decode cX8_canCross 2 = .ok (.iload_n 2, 1) := by decide +kernel
theorem dX8_canCross_3 : decode cX8_canCross 3 = .ok (.bipush 40, 2) := by decide +kernel
theorem dX8_canCross_5 : decode cX8_canCross 5 = .ok (.aload_n 0, 1) := by decide +kernel
theorem dX8_canCross_6 : decode cX8_canCross 6 = .ok (.getfield 9, 3) := by decide +kernel
theorem dX8_canCross_9 : decode cX8_canCross 9 = .ok (.bipush 42, 2) := by decide +kernel
theorem dX8_canCross_11 : decode cX8_canCross 11 = .ok (.invokevirtual 47, 3) := by decide +kernel
theorem dX8_canCross_14 : decode cX8_canCross 14 = .ok (.pop, 1) := by decide +kernel
theorem dX8_canCross_15 : decode cX8_canCross 15 = .ok (.aload_n 0, 1) := by decide +kernel
theorem dX8_canCross_16 : decode cX8_canCross 16 = .ok (.getfield 9, 3) := by decide +kernel
theorem dX8_canCross_19 : decode cX8_canCross 19 = .ok (.bipush 41, 2) := by decide +kernel
theorem dX8_canCross_21 : decode cX8_canCross 21 = .ok (.iaload, 1) := by decide +kernel
theorem dX8_canCross_22 : decode cX8_canCross 22 = .ok (.iconst (-1), 1) := by decide +kernel
theorem dX8_canCross_23 : decode cX8_canCross 23 = .ok (.if_icmp .eq 7, 3) := by decide +kernel
theorem dX8_canCross_26 : decode cX8_canCross 26 = .ok (.iconst 1, 1) := by decide +kernel
theorem dX8_canCross_27 : decode cX8_canCross 27 = .ok (.goto 4, 3) := by decide +kernel
theorem dX8_canCross_30 : decode cX8_canCross 30 = .ok (.iconst 0, 1) := by decide +kernel
theorem dX8_canCross_31 : decode cX8_canCross 31 = .ok (.ireturn, 1) := by decide +kernel
theorem dX8_countIslands_0 : decode cX8_countIslands 0 = .ok (.aload_n 0, 1) := by decide +kernel
theorem dX8_countIslands_1 : decode cX8_countIslands 1 = .ok (.getfield 9, 3) := by decide +kernel
theorem dX8_countIslands_4 : decode cX8_countIslands 4 = .ok (.iconst (-1), 1) := by decide +kernel
theorem dX8_countIslands_5 : decode cX8_countIslands 5 = .ok (.invokestatic 31, 3) := by decide +kernel
theorem dX8_countIslands_8 : decode cX8_countIslands 8 = .ok (.iconst 0, 1) := by decide +kernel
theorem dX8_countIslands_9 : decode cX8_countIslands 9 = .ok (.istore_n 3, 1) := by decide +kernel
theorem dX8_countIslands_10 : decode cX8_countIslands 10 = .ok (.iconst 0, 1) := by decide +kernel
theorem dX8_countIslands_11 : decode cX8_countIslands 11 = .ok (.istore 4, 2) := by decide +kernel
theorem dX8_countIslands_13 : decode cX8_countIslands 13 = .ok (.iload 4, 2) := by decide +kernel
theorem dX8_countIslands_15 : decode cX8_countIslands 15 = .ok (.bipush 40, 2) := by decide +kernel
theorem dX8_countIslands_17 : decode cX8_countIslands 17 = .ok (.if_icmp .ge 47, 3) := by decide +kernel
theorem dX8_countIslands_20 : decode cX8_countIslands 20 = .ok (.aload_n 1, 1) := by decide +kernel
theorem dX8_countIslands_21 : decode cX8_countIslands 21 = .ok (.iload 4, 2) := by decide +kernel
theorem dX8_countIslands_23 : decode cX8_countIslands 23 = .ok (.invokevirtual 104, 3) := by decide +kernel
theorem dX8_countIslands_26 : decode cX8_countIslands 26 = .ok (.ifCond .eq 32, 3) := by decide +kernel
theorem dX8_countIslands_29 : decode cX8_countIslands 29 = .ok (.aload_n 0, 1) := by decide +kernel
theorem dX8_countIslands_30 : decode cX8_countIslands 30 = .ok (.getfield 9, 3) := by decide +kernel
theorem dX8_countIslands_33 : decode cX8_countIslands 33 = .ok (.iload 4, 2) := by decide +kernel
theorem dX8_countIslands_35 : decode cX8_countIslands 35 = .ok (.iaload, 1) := by decide +kernel
theorem dX8_countIslands_36 : decode cX8_countIslands 36 = .ok (.iconst (-1), 1) := by decide +kernel
theorem dX8_countIslands_37 : decode cX8_countIslands 37 = .ok (.if_icmp .ne 21, 3) := by decide +kernel
theorem dX8_countIslands_40 : decode cX8_countIslands 40 = .ok (.iinc 3 1, 3) := by decide +kernel
theorem dX8_countIslands_43 : decode cX8_countIslands 43 = .ok (.aload_n 0, 1) := by decide +kernel
theorem dX8_countIslands_44 : decode cX8_countIslands 44 = .ok (.aload_n 1, 1) := by decide +kernel
theorem dX8_countIslands_45 : decode cX8_countIslands 45 = .ok (.iload_n 2, 1) := by decide +kernel
theorem dX8_countIslands_46 : decode cX8_countIslands 46 = .ok (.iload 4, 2) := by decide +kernel
theorem dX8_countIslands_48 : decode cX8_countIslands 48 = .ok (.aload_n 0, 1) := by decide +kernel
theorem dX8_countIslands_49 : decode cX8_countIslands 49 = .ok (.getfield 9, 3) := by decide +kernel
theorem dX8_countIslands_52 : decode cX8_countIslands 52 = .ok (.bipush 40, 2) := by decide +kernel
theorem dX8_countIslands_54 : decode cX8_countIslands 54 = .ok (.invokevirtual 37, 3) := by decide +kernel
theorem dX8_countIslands_57 : decode cX8_countIslands 57 = .ok (.pop, 1) := by decide +kernel
theorem dX8_countIslands_58 : decode cX8_countIslands 58 = .ok (.iinc 4 1, 3) := by decide +kernel
theorem dX8_countIslands_61 : decode cX8_countIslands 61 = .ok (.goto (-48), 3) := by decide +kernel
theorem dX8_countIslands_64 : decode cX8_countIslands 64 = .ok (.iload_n 3, 1) := by decide +kernel
theorem dX8_countIslands_65 : decode cX8_countIslands 65 = .ok (.ireturn, 1) := by decide +kernel
theorem dX6_line_0 : decode cX6_line 0 = .ok (.iconst 2, 1) := by decide +kernel
theorem dX6_line_1 : decode cX6_line 1 = .ok (.aload_n 0, 1) := by decide +kernel
theorem dX6_line_2 : decode cX6_line 2 = .ok (.invokevirtual 9, 3) := by decide +kernel
theorem dX6_line_5 : decode cX6_line 5 = .ok (.invokestatic 15, 3) := by decide +kernel
theorem dX6_line_8 : decode cX6_line 8 = .ok (.istore_n 1, 1) := by decide +kernel
theorem dX6_line_9 : decode cX6_line 9 = .ok (.iconst 0, 1) := by decide +kernel
theorem dX6_line_10 : decode cX6_line 10 = .ok (.istore_n 2, 1) := by decide +kernel
theorem dX6_line_11 : decode cX6_line 11 = .ok (.iload_n 2, 1) := by decide +kernel
theorem dX6_line_12 : decode cX6_line 12 = .ok (.bipush 40, 2) := by decide +kernel
theorem dX6_line_14 : decode cX6_line 14 = .ok (.if_icmp .ge 54, 3) := by decide +kernel
theorem dX6_line_17 : decode cX6_line 17 = .ok (.iload_n 2, 1) := by decide +kernel
theorem dX6_line_18 : decode cX6_line 18 = .ok (.iconst 1, 1) := by decide +kernel
theorem dX6_line_19 : decode cX6_line 19 = .ok (.iadd, 1) := by decide +kernel
theorem dX6_line_20 : decode cX6_line 20 = .ok (.istore_n 3, 1) := by decide +kernel
theorem dX6_line_21 : decode cX6_line 21 = .ok (.iload_n 3, 1) := by decide +kernel
theorem dX6_line_22 : decode cX6_line 22 = .ok (.bipush 40, 2) := by decide +kernel
theorem dX6_line_24 : decode cX6_line 24 = .ok (.if_icmp .ge 38, 3) := by decide +kernel
theorem dX6_line_27 : decode cX6_line 27 = .ok (.aload_n 0, 1) := by decide +kernel
theorem dX6_line_28 : decode cX6_line 28 = .ok (.getfield 21, 3) := by decide +kernel
theorem dX6_line_31 : decode cX6_line 31 = .ok (.iload_n 2, 1) := by decide +kernel
theorem dX6_line_32 : decode cX6_line 32 = .ok (.baload, 1) := by decide +kernel
theorem dX6_line_33 : decode cX6_line 33 = .ok (.ifCond .eq 23, 3) := by decide +kernel
theorem dX6_line_36 : decode cX6_line 36 = .ok (.aload_n 0, 1) := by decide +kernel
theorem dX6_line_37 : decode cX6_line 37 = .ok (.getfield 21, 3) := by decide +kernel
theorem dX6_line_40 : decode cX6_line 40 = .ok (.iload_n 3, 1) := by decide +kernel
theorem dX6_line_41 : decode cX6_line 41 = .ok (.baload, 1) := by decide +kernel
theorem dX6_line_42 : decode cX6_line 42 = .ok (.ifCond .eq 14, 3) := by decide +kernel
theorem dX6_line_45 : decode cX6_line 45 = .ok (.iload_n 1, 1) := by decide +kernel
theorem dX6_line_46 : decode cX6_line 46 = .ok (.aload_n 0, 1) := by decide +kernel
theorem dX6_line_47 : decode cX6_line 47 = .ok (.iload_n 2, 1) := by decide +kernel
theorem dX6_line_48 : decode cX6_line 48 = .ok (.iload_n 3, 1) := by decide +kernel
theorem dX6_line_49 : decode cX6_line 49 = .ok (.invokestatic 25, 3) := by decide +kernel
theorem dX6_line_52 : decode cX6_line 52 = .ok (.invokestatic 31, 3) := by decide +kernel
theorem dX6_line_55 : decode cX6_line 55 = .ok (.istore_n 1, 1) := by decide +kernel
theorem dX6_line_56 : decode cX6_line 56 = .ok (.iinc 3 1, 3) := by decide +kernel
theorem dX6_line_59 : decode cX6_line 59 = .ok (.goto (-38), 3) := by decide +kernel
theorem dX6_line_62 : decode cX6_line 62 = .ok (.iinc 2 1, 3) := by decide +kernel
theorem dX6_line_65 : decode cX6_line 65 = .ok (.goto (-54), 3) := by decide +kernel
theorem dX6_line_68 : decode cX6_line 68 = .ok (.iload_n 1, 1) := by decide +kernel
theorem dX6_line_69 : decode cX6_line 69 = .ok (.ireturn, 1) := by decide +kernel
theorem dX6_yardApart_0 : decode cX6_yardApart 0 = .ok (.iconst 0, 1) := by decide +kernel
theorem dX6_yardApart_1 : decode cX6_yardApart 1 = .ok (.istore_n 1, 1) := by decide +kernel
theorem dX6_yardApart_2 : decode cX6_yardApart 2 = .ok (.iconst 0, 1) := by decide +kernel
theorem dX6_yardApart_3 : decode cX6_yardApart 3 = .ok (.istore_n 2, 1) := by decide +kernel
theorem dX6_yardApart_4 : decode cX6_yardApart 4 = .ok (.iload_n 2, 1) := by decide +kernel
theorem dX6_yardApart_5 : decode cX6_yardApart 5 = .ok (.bipush 40, 2) := by decide +kernel
theorem dX6_yardApart_7 : decode cX6_yardApart 7 = .ok (.if_icmp .ge 60, 3) := by decide +kernel
theorem dX6_yardApart_10 : decode cX6_yardApart 10 = .ok (.aload_n 0, 1) := by decide +kernel
theorem dX6_yardApart_11 : decode cX6_yardApart 11 = .ok (.getfield 21, 3) := by decide +kernel
theorem dX6_yardApart_14 : decode cX6_yardApart 14 = .ok (.iload_n 2, 1) := by decide +kernel
theorem dX6_yardApart_15 : decode cX6_yardApart 15 = .ok (.baload, 1) := by decide +kernel
theorem dX6_yardApart_16 : decode cX6_yardApart 16 = .ok (.ifCond .eq 45, 3) := by decide +kernel
theorem dX6_yardApart_19 : decode cX6_yardApart 19 = .ok (.iconst 1, 1) := by decide +kernel
theorem dX6_yardApart_20 : decode cX6_yardApart 20 = .ok (.istore_n 3, 1) := by decide +kernel
theorem dX6_yardApart_21 : decode cX6_yardApart 21 = .ok (.iload_n 3, 1) := by decide +kernel
theorem dX6_yardApart_22 : decode cX6_yardApart 22 = .ok (.bipush 20, 2) := by decide +kernel
theorem dX6_yardApart_24 : decode cX6_yardApart 24 = .ok (.if_icmp .ge 31, 3) := by decide +kernel
theorem dX6_yardApart_27 : decode cX6_yardApart 27 = .ok (.aload_n 0, 1) := by decide +kernel
theorem dX6_yardApart_28 : decode cX6_yardApart 28 = .ok (.aload_n 0, 1) := by decide +kernel
theorem dX6_yardApart_29 : decode cX6_yardApart 29 = .ok (.getfield 38, 3) := by decide +kernel
theorem dX6_yardApart_32 : decode cX6_yardApart 32 = .ok (.iload_n 2, 1) := by decide +kernel
theorem dX6_yardApart_33 : decode cX6_yardApart 33 = .ok (.iaload, 1) := by decide +kernel
theorem dX6_yardApart_34 : decode cX6_yardApart 34 = .ok (.aload_n 0, 1) := by decide +kernel
theorem dX6_yardApart_35 : decode cX6_yardApart 35 = .ok (.getfield 42, 3) := by decide +kernel
theorem dX6_yardApart_38 : decode cX6_yardApart 38 = .ok (.iload_n 2, 1) := by decide +kernel
theorem dX6_yardApart_39 : decode cX6_yardApart 39 = .ok (.iaload, 1) := by decide +kernel
theorem dX6_yardApart_40 : decode cX6_yardApart 40 = .ok (.iload_n 3, 1) := by decide +kernel
theorem dX6_yardApart_41 : decode cX6_yardApart 41 = .ok (.iadd, 1) := by decide +kernel
theorem dX6_yardApart_42 : decode cX6_yardApart 42 = .ok (.invokevirtual 45, 3) := by decide +kernel
theorem dX6_yardApart_45 : decode cX6_yardApart 45 = .ok (.iconst (-1), 1) := by decide +kernel
theorem dX6_yardApart_46 : decode cX6_yardApart 46 = .ok (.if_icmp .eq 9, 3) := by decide +kernel
theorem dX6_yardApart_49 : decode cX6_yardApart 49 = .ok (.iinc 3 1, 3) := by decide +kernel
theorem dX6_yardApart_52 : decode cX6_yardApart 52 = .ok (.goto (-31), 3) := by decide +kernel
theorem dX6_yardApart_55 : decode cX6_yardApart 55 = .ok (.iload_n 1, 1) := by decide +kernel
theorem dX6_yardApart_56 : decode cX6_yardApart 56 = .ok (.iload_n 3, 1) := by decide +kernel
theorem dX6_yardApart_57 : decode cX6_yardApart 57 = .ok (.invokestatic 31, 3) := by decide +kernel
theorem dX6_yardApart_60 : decode cX6_yardApart 60 = .ok (.istore_n 1, 1) := by decide +kernel
theorem dX6_yardApart_61 : decode cX6_yardApart 61 = .ok (.iinc 2 1, 3) := by decide +kernel
theorem dX6_yardApart_64 : decode cX6_yardApart 64 = .ok (.goto (-60), 3) := by decide +kernel
theorem dX6_yardApart_67 : decode cX6_yardApart 67 = .ok (.iload_n 1, 1) := by decide +kernel
theorem dX6_yardApart_68 : decode cX6_yardApart 68 = .ok (.ireturn, 1) := by decide +kernel
theorem dX6_nearest_0 : decode cX6_nearest 0 = .ok (.iconst (-1), 1) := by decide +kernel
theorem dX6_nearest_1 : decode cX6_nearest 1 = .ok (.istore_n 2, 1) := by decide +kernel
theorem dX6_nearest_2 : decode cX6_nearest 2 = .ok (.iconst 0, 1) := by decide +kernel
theorem dX6_nearest_3 : decode cX6_nearest 3 = .ok (.istore_n 3, 1) := by decide +kernel
theorem dX6_nearest_4 : decode cX6_nearest 4 = .ok (.iload_n 3, 1) := by decide +kernel
theorem dX6_nearest_5 : decode cX6_nearest 5 = .ok (.bipush 40, 2) := by decide +kernel
theorem dX6_nearest_7 : decode cX6_nearest 7 = .ok (.if_icmp .ge 53, 3) := by decide +kernel
theorem dX6_nearest_10 : decode cX6_nearest 10 = .ok (.aload_n 0, 1) := by decide +kernel
theorem dX6_nearest_11 : decode cX6_nearest 11 = .ok (.iload_n 1, 1) := by decide +kernel
theorem dX6_nearest_12 : decode cX6_nearest 12 = .ok (.invokevirtual 34, 3) := by decide +kernel
theorem dX6_nearest_15 : decode cX6_nearest 15 = .ok (.ifCond .eq 45, 3) := by decide +kernel
theorem dX6_nearest_18 : decode cX6_nearest 18 = .ok (.iload_n 3, 1) := by decide +kernel
theorem dX6_nearest_19 : decode cX6_nearest 19 = .ok (.iload_n 1, 1) := by decide +kernel
theorem dX6_nearest_20 : decode cX6_nearest 20 = .ok (.if_icmp .eq 34, 3) := by decide +kernel
theorem dX6_nearest_23 : decode cX6_nearest 23 = .ok (.aload_n 0, 1) := by decide +kernel
theorem dX6_nearest_24 : decode cX6_nearest 24 = .ok (.getfield 21, 3) := by decide +kernel
theorem dX6_nearest_27 : decode cX6_nearest 27 = .ok (.iload_n 3, 1) := by decide +kernel
theorem dX6_nearest_28 : decode cX6_nearest 28 = .ok (.baload, 1) := by decide +kernel
theorem dX6_nearest_29 : decode cX6_nearest 29 = .ok (.ifCond .eq 25, 3) := by decide +kernel
theorem dX6_nearest_32 : decode cX6_nearest 32 = .ok (.iload_n 2, 1) := by decide +kernel
theorem dX6_nearest_33 : decode cX6_nearest 33 = .ok (.iconst (-1), 1) := by decide +kernel
theorem dX6_nearest_34 : decode cX6_nearest 34 = .ok (.if_icmp .eq 18, 3) := by decide +kernel
theorem dX6_nearest_37 : decode cX6_nearest 37 = .ok (.aload_n 0, 1) := by decide +kernel
theorem dX6_nearest_38 : decode cX6_nearest 38 = .ok (.iload_n 1, 1) := by decide +kernel
theorem dX6_nearest_39 : decode cX6_nearest 39 = .ok (.iload_n 3, 1) := by decide +kernel
theorem dX6_nearest_40 : decode cX6_nearest 40 = .ok (.invokevirtual 52, 3) := by decide +kernel
theorem dX6_nearest_43 : decode cX6_nearest 43 = .ok (.aload_n 0, 1) := by decide +kernel
theorem dX6_nearest_44 : decode cX6_nearest 44 = .ok (.iload_n 1, 1) := by decide +kernel
theorem dX6_nearest_45 : decode cX6_nearest 45 = .ok (.iload_n 2, 1) := by decide +kernel
theorem dX6_nearest_46 : decode cX6_nearest 46 = .ok (.invokevirtual 52, 3) := by decide +kernel
theorem dX6_nearest_49 : decode cX6_nearest 49 = .ok (.if_icmp .ge 5, 3) := by decide +kernel
theorem dX6_nearest_52 : decode cX6_nearest 52 = .ok (.iload_n 3, 1) := by decide +kernel
theorem dX6_nearest_53 : decode cX6_nearest 53 = .ok (.istore_n 2, 1) := by decide +kernel
theorem dX6_nearest_54 : decode cX6_nearest 54 = .ok (.iinc 3 1, 3) := by decide +kernel
theorem dX6_nearest_57 : decode cX6_nearest 57 = .ok (.goto (-53), 3) := by decide +kernel
theorem dX6_nearest_60 : decode cX6_nearest 60 = .ok (.iload_n 2, 1) := by decide +kernel
theorem dX6_nearest_61 : decode cX6_nearest 61 = .ok (.ireturn, 1) := by decide +kernel
theorem dX6_pairs_0 : decode cX6_pairs 0 = .ok (.iconst 0, 1) := by decide +kernel
theorem dX6_pairs_1 : decode cX6_pairs 1 = .ok (.istore_n 1, 1) := by decide +kernel
theorem dX6_pairs_2 : decode cX6_pairs 2 = .ok (.iconst 0, 1) := by decide +kernel
theorem dX6_pairs_3 : decode cX6_pairs 3 = .ok (.istore_n 2, 1) := by decide +kernel
theorem dX6_pairs_4 : decode cX6_pairs 4 = .ok (.iload_n 2, 1) := by decide +kernel
theorem dX6_pairs_5 : decode cX6_pairs 5 = .ok (.bipush 40, 2) := by decide +kernel
theorem dX6_pairs_7 : decode cX6_pairs 7 = .ok (.if_icmp .ge 32, 3) := by decide +kernel
theorem dX6_pairs_10 : decode cX6_pairs 10 = .ok (.aload_n 0, 1) := by decide +kernel
theorem dX6_pairs_11 : decode cX6_pairs 11 = .ok (.iload_n 2, 1) := by decide +kernel
theorem dX6_pairs_12 : decode cX6_pairs 12 = .ok (.invokestatic 48, 3) := by decide +kernel
theorem dX6_pairs_15 : decode cX6_pairs 15 = .ok (.istore_n 3, 1) := by decide +kernel
theorem dX6_pairs_16 : decode cX6_pairs 16 = .ok (.iload_n 3, 1) := by decide +kernel
theorem dX6_pairs_17 : decode cX6_pairs 17 = .ok (.iload_n 2, 1) := by decide +kernel
theorem dX6_pairs_18 : decode cX6_pairs 18 = .ok (.if_icmp .le 15, 3) := by decide +kernel
theorem dX6_pairs_21 : decode cX6_pairs 21 = .ok (.aload_n 0, 1) := by decide +kernel
theorem dX6_pairs_22 : decode cX6_pairs 22 = .ok (.iload_n 3, 1) := by decide +kernel
theorem dX6_pairs_23 : decode cX6_pairs 23 = .ok (.invokestatic 48, 3) := by decide +kernel
theorem dX6_pairs_26 : decode cX6_pairs 26 = .ok (.iload_n 2, 1) := by decide +kernel
theorem dX6_pairs_27 : decode cX6_pairs 27 = .ok (.if_icmp .ne 6, 3) := by decide +kernel
theorem dX6_pairs_30 : decode cX6_pairs 30 = .ok (.iinc 1 1, 3) := by decide +kernel
theorem dX6_pairs_33 : decode cX6_pairs 33 = .ok (.iinc 2 1, 3) := by decide +kernel
theorem dX6_pairs_36 : decode cX6_pairs 36 = .ok (.goto (-32), 3) := by decide +kernel
theorem dX6_pairs_39 : decode cX6_pairs 39 = .ok (.iload_n 1, 1) := by decide +kernel
theorem dX6_pairs_40 : decode cX6_pairs 40 = .ok (.ireturn, 1) := by decide +kernel
theorem dX6_closest_0 : decode cX6_closest 0 = .ok (.bipush (-2), 2) := by decide +kernel
theorem dX6_closest_2 : decode cX6_closest 2 = .ok (.istore_n 1, 1) := by decide +kernel
theorem dX6_closest_3 : decode cX6_closest 3 = .ok (.iconst 0, 1) := by decide +kernel
theorem dX6_closest_4 : decode cX6_closest 4 = .ok (.istore_n 2, 1) := by decide +kernel
theorem dX6_closest_5 : decode cX6_closest 5 = .ok (.iload_n 2, 1) := by decide +kernel
theorem dX6_closest_6 : decode cX6_closest 6 = .ok (.bipush 40, 2) := by decide +kernel
theorem dX6_closest_8 : decode cX6_closest 8 = .ok (.if_icmp .ge 43, 3) := by decide +kernel
theorem dX6_closest_11 : decode cX6_closest 11 = .ok (.aload_n 0, 1) := by decide +kernel
theorem dX6_closest_12 : decode cX6_closest 12 = .ok (.iload_n 2, 1) := by decide +kernel
theorem dX6_closest_13 : decode cX6_closest 13 = .ok (.invokestatic 48, 3) := by decide +kernel
theorem dX6_closest_16 : decode cX6_closest 16 = .ok (.istore_n 3, 1) := by decide +kernel
theorem dX6_closest_17 : decode cX6_closest 17 = .ok (.iload_n 3, 1) := by decide +kernel
theorem dX6_closest_18 : decode cX6_closest 18 = .ok (.iconst (-1), 1) := by decide +kernel
theorem dX6_closest_19 : decode cX6_closest 19 = .ok (.if_icmp .eq 26, 3) := by decide +kernel
theorem dX6_closest_22 : decode cX6_closest 22 = .ok (.iload_n 1, 1) := by decide +kernel
theorem dX6_closest_23 : decode cX6_closest 23 = .ok (.bipush (-2), 2) := by decide +kernel
theorem dX6_closest_25 : decode cX6_closest 25 = .ok (.if_icmp .eq 13, 3) := by decide +kernel
theorem dX6_closest_28 : decode cX6_closest 28 = .ok (.aload_n 0, 1) := by decide +kernel
theorem dX6_closest_29 : decode cX6_closest 29 = .ok (.iload_n 2, 1) := by decide +kernel
theorem dX6_closest_30 : decode cX6_closest 30 = .ok (.iload_n 3, 1) := by decide +kernel
theorem dX6_closest_31 : decode cX6_closest 31 = .ok (.invokevirtual 52, 3) := by decide +kernel
theorem dX6_closest_34 : decode cX6_closest 34 = .ok (.iload_n 1, 1) := by decide +kernel
theorem dX6_closest_35 : decode cX6_closest 35 = .ok (.if_icmp .ge 10, 3) := by decide +kernel
theorem dX6_closest_38 : decode cX6_closest 38 = .ok (.aload_n 0, 1) := by decide +kernel
theorem dX6_closest_39 : decode cX6_closest 39 = .ok (.iload_n 2, 1) := by decide +kernel
theorem dX6_closest_40 : decode cX6_closest 40 = .ok (.iload_n 3, 1) := by decide +kernel
theorem dX6_closest_41 : decode cX6_closest 41 = .ok (.invokevirtual 52, 3) := by decide +kernel
theorem dX6_closest_44 : decode cX6_closest 44 = .ok (.istore_n 1, 1) := by decide +kernel
theorem dX6_closest_45 : decode cX6_closest 45 = .ok (.iinc 2 1, 3) := by decide +kernel
theorem dX6_closest_48 : decode cX6_closest 48 = .ok (.goto (-43), 3) := by decide +kernel
theorem dX6_closest_51 : decode cX6_closest 51 = .ok (.iload_n 1, 1) := by decide +kernel
theorem dX6_closest_52 : decode cX6_closest 52 = .ok (.ireturn, 1) := by decide +kernel
theorem dX2_nextDry_0 : decode cX2_nextDry 0 = .ok (.iload_n 1, 1) := by decide +kernel
theorem dX2_nextDry_1 : decode cX2_nextDry 1 = .ok (.iconst 0, 1) := by decide +kernel
theorem dX2_nextDry_2 : decode cX2_nextDry 2 = .ok (.invokestatic 39, 3) := by decide +kernel
theorem dX2_nextDry_5 : decode cX2_nextDry 5 = .ok (.istore_n 2, 1) := by decide +kernel
theorem dX2_nextDry_6 : decode cX2_nextDry 6 = .ok (.iload_n 2, 1) := by decide +kernel
theorem dX2_nextDry_7 : decode cX2_nextDry 7 = .ok (.bipush 40, 2) := by decide +kernel
theorem dX2_nextDry_9 : decode cX2_nextDry 9 = .ok (.if_icmp .ge 19, 3) := by decide +kernel
theorem dX2_nextDry_12 : decode cX2_nextDry 12 = .ok (.aload_n 0, 1) := by decide +kernel
theorem dX2_nextDry_13 : decode cX2_nextDry 13 = .ok (.iload_n 2, 1) := by decide +kernel
theorem dX2_nextDry_14 : decode cX2_nextDry 14 = .ok (.invokevirtual 45, 3) := by decide +kernel
theorem dX2_nextDry_17 : decode cX2_nextDry 17 = .ok (.ifCond .eq 5, 3) := by decide +kernel
theorem dX2_nextDry_20 : decode cX2_nextDry 20 = .ok (.iload_n 2, 1) := by decide +kernel
theorem dX2_nextDry_21 : decode cX2_nextDry 21 = .ok (.ireturn, 1) := by decide +kernel
theorem dX2_nextDry_22 : decode cX2_nextDry 22 = .ok (.iinc 2 1, 3) := by decide +kernel
theorem dX2_nextDry_25 : decode cX2_nextDry 25 = .ok (.goto (-19), 3) := by decide +kernel
theorem dX2_nextDry_28 : decode cX2_nextDry 28 = .ok (.iconst (-1), 1) := by decide +kernel
theorem dX2_nextDry_29 : decode cX2_nextDry 29 = .ok (.ireturn, 1) := by decide +kernel
set_option maxHeartbeats 4000000 in
theorem c_J7_fill_53178 (k len : Nat) (hk : ∀ {ad : Nat → Nat} {cI cZ cB : ClassId}, IA (glC ad cI cZ cB) 60 k cI len) (hlen : len < 2 ^ 31) (v : Int32) (M : Mem) : AM yJ7_fill_53178 cJ7_fill_53178 4 none 0 60 glC (fun ad => [.ref (ad k), .int v]) M (PV (fun M' => (∀ a c, a ≠ k → M' a c = M a c) ∧ ∀ j, j < len → M' k j = v)) := by
  refine AM.of (by decide) (fun _ => Nat.le_of_ble_eq_true rfl) (fun X ad cI cZ cB hX hR => ?_)
  show V X M [(0, .ref (ad k)), (1, .int v)] [] 0
  refine s_iconst (v := (nI 0)) hX dJ7_fill_53178_0 (by decide) ?_
  refine s_istore_n (lv' := [(0, .ref (ad k)), (1, .int v), (2, .int (nI 0))]) hX dJ7_fill_53178_1 rfl (by decide) rfl ?_
  refine s_aload_n (k := 0) hX dJ7_fill_53178_2 rfl rfl ?_
  refine s_alen (v := nI len) hX hk rfl dJ7_fill_53178_3 ?_
  refine s_istore_n (lv' := [(0, .ref (ad k)), (1, .int v), (2, .int (nI 0)), (3, .int (nI len))]) hX dJ7_fill_53178_4 rfl (by decide) rfl ?_
  have lp5 : ∀ (N5 : Nat) (i : Nat) (Mi : Mem), (i ≤ len) → (len < i + N5) → (∀ a c, a ≠ k → Mi a c = M a c) → (∀ j, j < i → Mi k j = v) → V X Mi [(0, .ref (ad k)), (1, .int v), (2, .int (nI i)), (3, .int (nI len))] [] 5 := by
    intro N5
    induction N5 with
    | zero => intro i Mi hi hN5 hf hv; exact absurd hN5 (by omega)
    | succ N5 ih5 =>
      intro i Mi hi hN5 hf hv
      refine s_iload_n (k := 2) hX dJ7_fill_53178_5 rfl rfl ?_
      refine s_iload_n (k := 3) hX dJ7_fill_53178_6 rfl rfl ?_
      refine s_icmp_ge (tgt := 20) hX dJ7_fill_53178_7 (by decide) (fun c7 => ?_) (fun c7 => ?_)
      · replace c7 := (nI_leI (by omega) (by omega)).mp c7
        exact s_vret hX hR dJ7_fill_53178_20 ⟨hf, fun j hj => hv j (by omega)⟩
      · replace c7 := mt (nI_leI (by omega) (by omega)).mpr c7
        refine s_aload_n (k := 0) hX dJ7_fill_53178_10 rfl rfl ?_
        refine s_iload_n (k := 2) hX dJ7_fill_53178_11 rfl rfl ?_
        refine s_iload_n (k := 1) hX dJ7_fill_53178_12 rfl rfl ?_
        refine s_iastN (hlen := hlen) hX hk (by omega) dJ7_fill_53178_13 ?_
        refine s_mem (fun M_3 eM_3 => ?_)
        refine s_iinc (k := 2) (v := nI (i + 1)) (lv' := [(0, .ref (ad k)), (1, .int v), (3, .int (nI len)), (2, .int (nI (i + 1)))]) hX dJ7_fill_53178_14 (nI_1 _) (by decide) rfl rfl ?_
        refine s_goto (tgt := 5) hX dJ7_fill_53178_17 (by decide) ?_
        refine s_loc [0, 1, 3, 2] rfl ?_
        exact ih5 (i + 1) _ (by omega) (by omega) (by subst_vars; exact fl1 hf) (by subst_vars; exact fl2 hv)
  exact lp5 (len + 1) 0 M (by omega) (by omega) (fun _ _ _ => rfl) (fun j hj => absurd hj (by omega))
set_option maxHeartbeats 4000000 in
theorem c_X5_pass (b : Nat) (hb : isF b) (m : Nat) (hm : m ≤ 60) (M : Mem) (hT : ∀ j, j < 40 → M (b + 4) j = 0) : AM yX5_pass cX5_pass 6 none 0 60 glC (fun ad => [.ref (ad 21), .ref (ad b), .ref (ad 44), .int (nI m)]) M (PV (fun M' => (∀ a c, a ≠ 21 → a ≠ b → M' a c = M a c) ∧ M' 21 1 = nI 0 ∧ M' 21 2 = nI 0)) := by
  refine AM.of (by decide) (fun _ => Nat.le_of_ble_eq_true rfl) (fun X ad cI cZ cB hX hR => ?_)
  show V X M [(0, .ref (ad 21)), (1, .ref (ad b)), (2, .ref (ad 44)), (3, .int (nI m))] [] 0
  have hb0 : b = 1 ∨ b = 7 ∨ b = 13 := hb
  refine s_aload_n (k := 0) hX dX5_pass_0 rfl rfl ?_
  refine s_iconst (v := (nI 0)) hX dX5_pass_1 (by decide) ?_
  refine s_put (ty := .int) hX fX5_15 oC21 rfl (Nat.le_of_ble_eq_true rfl) ty_5_1 rfl rfl dX5_pass_2 ?_
  refine s_mem (fun M_1 eM_1 => ?_)
  refine s_aload_n (k := 0) hX dX5_pass_5 rfl rfl ?_
  refine s_iconst (v := (nI 0)) hX dX5_pass_6 (by decide) ?_
  refine s_put (ty := .int) hX fX5_19 oC21 rfl (Nat.le_of_ble_eq_true rfl) ty_5_2 rfl rfl dX5_pass_7 ?_
  refine s_mem (fun M_2 eM_2 => ?_)
  refine s_iconst (v := (nI 0)) hX dX5_pass_10 (by decide) ?_
  refine s_istore (lv' := [(0, .ref (ad 21)), (1, .ref (ad b)), (2, .ref (ad 44)), (3, .int (nI m)), (4, .int (nI 0))]) hX dX5_pass_11 (by decide) rfl ?_
  have lp13 : ∀ (N13 : Nat) (g : Nat) (Mi : Mem), (g ≤ m) → (m < g + N13) → (∀ a c, a ≠ 21 → a ≠ b → Mi a c = M a c) → (Mi 21 1 = nI 0) → (Mi 21 2 = nI 0) → V X Mi [(0, .ref (ad 21)), (1, .ref (ad b)), (2, .ref (ad 44)), (3, .int (nI m)), (4, .int (nI g))] [] 13 := by
    intro N13
    induction N13 with
    | zero => intro g Mi hg hN13 hf h1 h2; exact absurd hN13 (by omega)
    | succ N13 ih13 =>
      intro g Mi hg hN13 hf h1 h2
      refine s_iload (k := 4) hX dX5_pass_13 rfl ?_
      refine s_iload_n (k := 3) hX dX5_pass_15 rfl rfl ?_
      refine s_icmp_ge (tgt := 79) hX dX5_pass_16 (by decide) (fun c16 => ?_) (fun c16 => ?_)
      · replace c16 := (nI_leI (by omega) (by omega)).mp c16
        exact s_vret hX hR dX5_pass_79 ⟨hf, h1, h2⟩
      · replace c16 := mt (nI_leI (by omega) (by omega)).mpr c16
        refine s_aload_n (k := 1) hX dX5_pass_19 rfl rfl ?_
        refine s_get hX fX5_22 (oF hb) rfl dX5_pass_20 ?_
        refine s_sipush (v := (nI 9999)) hX dX5_pass_23 (by decide) ?_
        refine s_icmp_ge (tgt := 79) hX dX5_pass_26 (by decide) (fun c26 => ?_) (fun c26 => ?_)
        · exact s_vret hX hR dX5_pass_79 ⟨hf, h1, h2⟩
        · refine s_iconst (v := (nI 0)) hX dX5_pass_29 (by decide) ?_
          refine s_istore (lv' := [(0, .ref (ad 21)), (1, .ref (ad b)), (2, .ref (ad 44)), (3, .int (nI m)), (4, .int (nI g)), (5, .int (nI 0))]) hX dX5_pass_30 (by decide) rfl ?_
          have lp32 : ∀ (N32 : Nat) (i : Nat), (i ≤ 40) → (40 < i + N32) → V X Mi [(0, .ref (ad 21)), (1, .ref (ad b)), (2, .ref (ad 44)), (3, .int (nI m)), (4, .int (nI g)), (5, .int (nI i))] [] 32 := by
            intro N32
            induction N32 with
            | zero => intro i hi hN32; exact absurd hN32 (by omega)
            | succ N32 ih32 =>
              intro i hi hN32
              refine s_iload (k := 5) hX dX5_pass_32 rfl ?_
              refine s_bipush (v := (nI 40)) hX dX5_pass_34 (by decide) ?_
              refine s_icmp_ge (tgt := 63) hX dX5_pass_36 (by decide) (fun c36 => ?_) (fun c36 => ?_)
              · replace c36 := (nI_leI (by omega) (by omega)).mp c36
                refine s_aload_n (k := 1) hX dX5_pass_63 rfl rfl ?_
                refine s_dup hX dX5_pass_64 rfl ?_
                refine s_get hX fX5_22 (oF hb) rfl dX5_pass_65 ?_
                refine s_iconst (v := (nI 1)) hX dX5_pass_68 (by decide) ?_
                refine s_iadd hX dX5_pass_69 ?_
                refine s_put (ty := .int) hX fX5_22 (oF hb) rfl (Nat.le_of_ble_eq_true rfl) ty_2_5 rfl rfl dX5_pass_70 ?_
                refine s_mem (fun M_5 eM_5 => ?_)
                refine s_iinc (k := 4) (v := nI (g + 1)) (lv' := [(0, .ref (ad 21)), (1, .ref (ad b)), (2, .ref (ad 44)), (3, .int (nI m)), (5, .int (nI i)), (4, .int (nI (g + 1)))]) hX dX5_pass_73 (nI_1 _) (by decide) rfl rfl ?_
                refine s_goto (tgt := 13) hX dX5_pass_76 (by decide) ?_
                refine s_loc [0, 1, 2, 3, 5] rfl ?_
                exact ih13 (g + 1) _ (by omega) (by omega) (by subst_vars; exact ps4 hf) (by subst_vars; exact ps5 hb h1) (by subst_vars; exact ps5 hb h2)
              · replace c36 := mt (nI_leI (by omega) (by omega)).mpr c36
                refine s_aload_n (k := 1) hX dX5_pass_39 rfl rfl ?_
                refine s_get hX fX5_27 (oF hb) rfl dX5_pass_40 ?_
                refine s_iload (k := 5) hX dX5_pass_43 rfl ?_
                refine s_zaldN hX (aF4 hb) (by omega) dX5_pass_45 ?_
                refine s_if_eq (tgt := 57) hX dX5_pass_46 (by decide) (fun c46 => ?_) (fun c46 => ?_)
                · refine s_iinc (k := 5) (v := nI (i + 1)) (lv' := [(0, .ref (ad 21)), (1, .ref (ad b)), (2, .ref (ad 44)), (3, .int (nI m)), (4, .int (nI g)), (5, .int (nI (i + 1)))]) hX dX5_pass_57 (nI_1 _) (by decide) rfl rfl ?_
                  refine s_goto (tgt := 32) hX dX5_pass_60 (by decide) ?_
                  exact ih32 (i + 1) (by omega) (by omega)
                · exact absurd ((hf (b + 4) i (by omega) (by omega)).trans (hT i (by omega))) c46
          exact lp32 41 0 (by omega) (by omega)
  exact lp13 (m + 1) 0 _ (by omega) (by omega) (by subst_vars; exact ps1) (by subst_vars; exact ps2) (by subst_vars; exact ps3)
set_option maxHeartbeats 4000000 in
theorem c_X2_canStand (b : Nat) (hb : isF b) (f : Nat) (hf : f = 40 ∨ f = 41) (M : Mem) : AM yX2_canStand cX2_canStand 2 (some .boolean) 0 60 glC (fun ad => [.ref (ad b), .int (nI f)]) M (PI (fun r M' => r = nI 1 ∧ M = M')) := by
  refine AM.of (by decide) (fun _ => Nat.le_of_ble_eq_true rfl) (fun X ad cI cZ cB hX hR => ?_)
  show V X M [(0, .ref (ad b)), (1, .int (nI f))] [] 0
  refine s_iload_n (k := 1) hX dX2_canStand_0 rfl rfl ?_
  refine s_bipush (v := (nI 40)) hX dX2_canStand_1 (by decide) ?_
  refine s_icmp_eq (tgt := 20) hX dX2_canStand_3 (by decide) (fun c3 => ?_) (fun c3 => ?_)
  · replace c3 := (nI_eq (by omega) (by omega)).mp c3
    refine s_iconst (v := (nI 1)) hX dX2_canStand_20 (by decide) ?_
    refine s_goto (tgt := 25) hX dX2_canStand_21 (by decide) ?_
    exact s_zret hX hR dX2_canStand_25 (by first | decide | assumption) ⟨rfl, rfl⟩
  · replace c3 := mt (nI_eq (by omega) (by omega)).mpr c3
    refine s_iload_n (k := 1) hX dX2_canStand_6 rfl rfl ?_
    refine s_bipush (v := (nI 41)) hX dX2_canStand_7 (by decide) ?_
    refine s_icmp_eq (tgt := 20) hX dX2_canStand_9 (by decide) (fun c9 => ?_) (fun c9 => ?_)
    · replace c9 := (nI_eq (by omega) (by omega)).mp c9
      refine s_iconst (v := (nI 1)) hX dX2_canStand_20 (by decide) ?_
      refine s_goto (tgt := 25) hX dX2_canStand_21 (by decide) ?_
      exact s_zret hX hR dX2_canStand_25 (by first | decide | assumption) ⟨rfl, rfl⟩
    · replace c9 := mt (nI_eq (by omega) (by omega)).mpr c9
      omega
set_option maxHeartbeats 4000000 in
theorem c_X2_heightOf (b : Nat) (hb : isF b) (f : Nat) (hf : f = 40 ∨ f = 41) (M : Mem) : AM yX2_heightOf cX2_heightOf 2 (some .int) 0 60 glC (fun ad => [.ref (ad b), .int (nI f)]) M (PI (fun r M' => r = nI (if f = 41 then 21 else 0) ∧ M = M')) := by
  refine AM.of (by decide) (fun _ => Nat.le_of_ble_eq_true rfl) (fun X ad cI cZ cB hX hR => ?_)
  show V X M [(0, .ref (ad b)), (1, .int (nI f))] [] 0
  refine s_iload_n (k := 1) hX dX2_heightOf_0 rfl rfl ?_
  refine s_bipush (v := (nI 41)) hX dX2_heightOf_1 (by decide) ?_
  refine s_icmp_ne (tgt := 9) hX dX2_heightOf_3 (by decide) (fun c3 => ?_) (fun c3 => ?_)
  · replace c3 := mt (nI_eq (by omega) (by omega)).mpr c3
    refine s_iload_n (k := 1) hX dX2_heightOf_9 rfl rfl ?_
    refine s_if_lt (tgt := 28) hX dX2_heightOf_10 (by decide) (fun c10 => ?_) (fun c10 => ?_)
    · exact absurd c10 (nI_pos (by omega))
    · refine s_iload_n (k := 1) hX dX2_heightOf_13 rfl rfl ?_
      refine s_bipush (v := (nI 40)) hX dX2_heightOf_14 (by decide) ?_
      refine s_icmp_ge (tgt := 28) hX dX2_heightOf_16 (by decide) (fun c16 => ?_) (fun c16 => ?_)
      · replace c16 := (nI_leI (by omega) (by omega)).mp c16
        refine s_iconst (v := (nI 0)) hX dX2_heightOf_28 (by decide) ?_
        exact s_iret hX hR dX2_heightOf_29 ⟨by rw [if_neg (by omega)], rfl⟩
      · replace c16 := mt (nI_leI (by omega) (by omega)).mpr c16
        omega
  · replace c3 := (nI_eq (by omega) (by omega)).mp c3
    refine s_bipush (v := (nI 21)) hX dX2_heightOf_6 (by decide) ?_
    exact s_iret hX hR dX2_heightOf_8 ⟨by rw [if_pos (by omega)], rfl⟩
set_option maxHeartbeats 4000000 in
theorem c_X2_isStep (b : Nat) (hb : isF b) (f : Nat) (hf : f = 40 ∨ f = 41) (t : Nat) (ht : t < 42) (s : Int32) (M : Mem) (hT : ∀ j, j < 40 → M (b + 4) j = 0) : AM yX2_isStep cX2_isStep 4 (some .boolean) 1 60 glC (fun ad => [.ref (ad b), .int (nI f), .int (nI t), .int s]) M (PI (fun r M' => r = bI (f ≠ t ∧ 40 ≤ t ∧ 21 ≤ s.toInt) ∧ M = M')) := by
  refine AM.of (by decide) (fun _ => Nat.le_of_ble_eq_true rfl) (fun X ad cI cZ cB hX hR => ?_)
  show V X M [(0, .ref (ad b)), (1, .int (nI f)), (2, .int (nI t)), (3, .int s)] [] 0
  refine s_iload_n (k := 1) hX dX2_isStep_0 rfl rfl ?_
  refine s_iload_n (k := 2) hX dX2_isStep_1 rfl rfl ?_
  refine s_icmp_eq (tgt := 13) hX dX2_isStep_2 (by decide) (fun c2 => ?_) (fun c2 => ?_)
  · replace c2 := (nI_eq (by omega) (by omega)).mp c2
    refine s_iconst (v := (nI 0)) hX dX2_isStep_13 (by decide) ?_
    exact s_zret hX hR dX2_isStep_14 (by first | decide | assumption) ⟨bI_f (by omega), rfl⟩
  · replace c2 := mt (nI_eq (by omega) (by omega)).mpr c2
    refine s_aload_n (k := 0) hX dX2_isStep_5 rfl rfl ?_
    refine s_iload_n (k := 1) hX dX2_isStep_6 rfl rfl ?_
    refine s_callVi hX (c_X2_canStand b hb f hf M) mX2_canStand lX2_56 (by decide) (by decide) (oF hb) rfl rfl rfl rfl rfl (by decide) dX2_isStep_7 (fun r7 M_1 hp7 => ?_)
    obtain ⟨rfl, h2⟩ := hp7
    subst h2
    refine s_if_ne (tgt := 15) hX dX2_isStep_10 (by decide) (fun c10 => ?_) (fun c10 => ?_)
    · refine s_iload_n (k := 2) hX dX2_isStep_15 rfl rfl ?_
      refine s_if_lt (tgt := 60) hX dX2_isStep_16 (by decide) (fun c16 => ?_) (fun c16 => ?_)
      · exact absurd c16 (nI_pos (by omega))
      · refine s_iload_n (k := 2) hX dX2_isStep_19 rfl rfl ?_
        refine s_bipush (v := (nI 40)) hX dX2_isStep_20 (by decide) ?_
        refine s_icmp_ge (tgt := 60) hX dX2_isStep_22 (by decide) (fun c22 => ?_) (fun c22 => ?_)
        · replace c22 := (nI_leI (by omega) (by omega)).mp c22
          have hft : (f = 40 ∧ t = 41) ∨ (f = 41 ∧ t = 40) := by omega
          rcases hft with ⟨rfl, rfl⟩ | ⟨rfl, rfl⟩
          · refine s_iload_n (k := 2) hX dX2_isStep_60 rfl rfl ?_
            refine s_bipush (v := (nI 40)) hX dX2_isStep_61 (by decide) ?_
            refine s_icmp_eq (tgt := 72) hX dX2_isStep_63 (by decide) (fun c63 => ?_) (fun c63 => ?_)
            · first | exact absurd (by decide) c63 | exact absurd c63 (by decide)
            · refine s_iload_n (k := 2) hX dX2_isStep_66 rfl rfl ?_
              refine s_bipush (v := (nI 41)) hX dX2_isStep_67 (by decide) ?_
              refine s_icmp_ne (tgt := 94) hX dX2_isStep_69 (by decide) (fun c69 => ?_) (fun c69 => ?_)
              · first | exact absurd (by decide) c69 | exact absurd c69 (by decide)
              · refine s_aload_n (k := 0) hX dX2_isStep_72 rfl rfl ?_
                refine s_iload_n (k := 1) hX dX2_isStep_73 rfl rfl ?_
                refine s_callVi hX (c_X2_heightOf b hb _ (by omega) M) mX2_heightOf lX2_63 (by decide) (by decide) (oF hb) rfl rfl rfl rfl rfl (by decide) dX2_isStep_74 (fun r74 M_2 hp74 => ?_)
                obtain ⟨rfl, h2⟩ := hp74
                subst h2
                refine s_aload_n (k := 0) hX dX2_isStep_77 rfl rfl ?_
                refine s_iload_n (k := 2) hX dX2_isStep_78 rfl rfl ?_
                refine s_callVi hX (c_X2_heightOf b hb _ (by omega) M) mX2_heightOf lX2_63 (by decide) (by decide) (oF hb) rfl rfl rfl rfl rfl (by decide) dX2_isStep_79 (fun r79 M_3 hp79 => ?_)
                obtain ⟨rfl, h2⟩ := hp79
                subst h2
                refine s_isub hX dX2_isStep_82 ?_
                refine s_mabs hX lX2_67 mJ9_abs (by decide) (by decide) dX2_isStep_83 ?_
                refine s_top (y := nI 21) (by decide) ?_
                refine s_iload_n (k := 3) hX dX2_isStep_86 rfl rfl ?_
                refine s_icmp_gt (tgt := 94) hX dX2_isStep_87 (by decide) (fun c87 => ?_) (fun c87 => ?_)
                · replace c87 := Int32.lt_iff_toInt_lt.mp c87; rw [nI_toInt (by decide)] at c87
                  refine s_iconst (v := (nI 0)) hX dX2_isStep_94 (by decide) ?_
                  exact s_zret hX hR dX2_isStep_95 (by first | decide | assumption) ⟨bI_f (by omega), rfl⟩
                · replace c87 := mt Int32.lt_iff_toInt_lt.mpr c87; rw [nI_toInt (by decide)] at c87
                  refine s_iconst (v := (nI 1)) hX dX2_isStep_90 (by decide) ?_
                  refine s_goto (tgt := 95) hX dX2_isStep_91 (by decide) ?_
                  exact s_zret hX hR dX2_isStep_95 (by first | decide | assumption) ⟨bI_t (by omega), rfl⟩
          · refine s_iload_n (k := 2) hX dX2_isStep_60 rfl rfl ?_
            refine s_bipush (v := (nI 40)) hX dX2_isStep_61 (by decide) ?_
            refine s_icmp_eq (tgt := 72) hX dX2_isStep_63 (by decide) (fun c63 => ?_) (fun c63 => ?_)
            · refine s_aload_n (k := 0) hX dX2_isStep_72 rfl rfl ?_
              refine s_iload_n (k := 1) hX dX2_isStep_73 rfl rfl ?_
              refine s_callVi hX (c_X2_heightOf b hb _ (by omega) M) mX2_heightOf lX2_63 (by decide) (by decide) (oF hb) rfl rfl rfl rfl rfl (by decide) dX2_isStep_74 (fun r74 M_4 hp74 => ?_)
              obtain ⟨rfl, h2⟩ := hp74
              subst h2
              refine s_aload_n (k := 0) hX dX2_isStep_77 rfl rfl ?_
              refine s_iload_n (k := 2) hX dX2_isStep_78 rfl rfl ?_
              refine s_callVi hX (c_X2_heightOf b hb _ (by omega) M) mX2_heightOf lX2_63 (by decide) (by decide) (oF hb) rfl rfl rfl rfl rfl (by decide) dX2_isStep_79 (fun r79 M_5 hp79 => ?_)
              obtain ⟨rfl, h2⟩ := hp79
              subst h2
              refine s_isub hX dX2_isStep_82 ?_
              refine s_mabs hX lX2_67 mJ9_abs (by decide) (by decide) dX2_isStep_83 ?_
              refine s_top (y := nI 21) (by decide) ?_
              refine s_iload_n (k := 3) hX dX2_isStep_86 rfl rfl ?_
              refine s_icmp_gt (tgt := 94) hX dX2_isStep_87 (by decide) (fun c87 => ?_) (fun c87 => ?_)
              · replace c87 := Int32.lt_iff_toInt_lt.mp c87; rw [nI_toInt (by decide)] at c87
                refine s_iconst (v := (nI 0)) hX dX2_isStep_94 (by decide) ?_
                exact s_zret hX hR dX2_isStep_95 (by first | decide | assumption) ⟨bI_f (by omega), rfl⟩
              · replace c87 := mt Int32.lt_iff_toInt_lt.mpr c87; rw [nI_toInt (by decide)] at c87
                refine s_iconst (v := (nI 1)) hX dX2_isStep_90 (by decide) ?_
                refine s_goto (tgt := 95) hX dX2_isStep_91 (by decide) ?_
                exact s_zret hX hR dX2_isStep_95 (by first | decide | assumption) ⟨bI_t (by omega), rfl⟩
            · first | exact absurd (by decide) c63 | exact absurd c63 (by decide)
        · replace c22 := mt (nI_leI (by omega) (by omega)).mpr c22
          refine s_aload_n (k := 0) hX dX2_isStep_25 rfl rfl ?_
          refine s_iload_n (k := 2) hX dX2_isStep_26 rfl rfl ?_
          refine s_callVi hX (c_X2_isDry b hb (nI t) M hT) mX2_isDry lX2_45 (by decide) (by decide) (oF hb) rfl rfl rfl rfl rfl (by decide) dX2_isStep_27 (fun r27 M_6 hp27 => ?_)
          obtain ⟨rfl, h2⟩ := hp27
          subst h2
          refine s_if_eq (tgt := 58) hX dX2_isStep_30 (by decide) (fun c30 => ?_) (fun c30 => ?_)
          · refine s_iconst (v := (nI 0)) hX dX2_isStep_58 (by decide) ?_
            exact s_zret hX hR dX2_isStep_59 (by first | decide | assumption) ⟨bI_f (by omega), rfl⟩
          · first | exact absurd (by decide) c30 | exact absurd c30 (by decide)
    · first | exact absurd (by decide) c10 | exact absurd c10 (by decide)
set_option maxHeartbeats 4000000 in
theorem c_X8_spreadOn (b : Nat) (hb : isF b) (s : Int32) (M : Mem) (hT : ∀ j, j < 40 → M (b + 4) j = 0) (hv : ∀ j, j < 42 → M 24 j = -1) : AM yX8_spreadOn cX8_spreadOn 11 (some .int) 2 60 glC (fun ad => [.ref (ad 23), .ref (ad b), .int s, .int (nI 40), .ref (ad 24), .int (nI 42)]) M (PI (fun _ M' => (∀ a c, a ≠ 24 → a ≠ 26 → M' a c = M a c) ∧ (M' 24 41 = -1 ↔ s.toInt < 21))) := by
  refine AM.of (by decide) (fun _ => Nat.le_of_ble_eq_true rfl) (fun X ad cI cZ cB hX hR => ?_)
  show V X M [(0, .ref (ad 23)), (1, .ref (ad b)), (2, .int s), (3, .int (nI 40)), (4, .ref (ad 24)), (5, .int (nI 42))] [] 0
  have hb0 : b = 1 ∨ b = 7 ∨ b = 13 := hb
  refine s_iload_n (k := 3) hX dX8_spreadOn_0 rfl rfl ?_
  refine s_if_lt (tgt := 18) hX dX8_spreadOn_1 (by decide) (fun c1 => ?_) (fun c1 => ?_)
  · first | exact absurd (by decide) c1 | exact absurd c1 (by decide)
  · refine s_iload_n (k := 3) hX dX8_spreadOn_4 rfl rfl ?_
    refine s_bipush (v := (nI 42)) hX dX8_spreadOn_5 (by decide) ?_
    refine s_icmp_ge (tgt := 18) hX dX8_spreadOn_7 (by decide) (fun c7 => ?_) (fun c7 => ?_)
    · replace c7 := (nI_leI (by omega) (by omega)).mp c7
      omega
    · replace c7 := mt (nI_leI (by omega) (by omega)).mpr c7
      refine s_aload (k := 4) hX dX8_spreadOn_10 rfl ?_
      refine s_alen (v := nI 42) hX aC24 rfl dX8_spreadOn_12 ?_
      refine s_bipush (v := (nI 42)) hX dX8_spreadOn_13 (by decide) ?_
      refine s_icmp_ge (tgt := 20) hX dX8_spreadOn_15 (by decide) (fun c15 => ?_) (fun c15 => ?_)
      · refine s_aload (k := 4) hX dX8_spreadOn_20 rfl ?_
        refine s_iload_n (k := 3) hX dX8_spreadOn_22 rfl rfl ?_
        refine s_iconst (v := (nI 0)) hX dX8_spreadOn_23 (by decide) ?_
        refine s_iastN hX aC24 (by omega) dX8_spreadOn_24 ?_
        refine s_mem (fun M_1 eM_1 => ?_)
        refine s_aload_n (k := 0) hX dX8_spreadOn_25 rfl rfl ?_
        refine s_get hX fX8_18 oC23 rfl dX8_spreadOn_26 ?_
        refine s_iconst (v := (nI 0)) hX dX8_spreadOn_29 (by decide) ?_
        refine s_iload_n (k := 3) hX dX8_spreadOn_30 rfl rfl ?_
        refine s_iastN hX aC26 (by omega) dX8_spreadOn_31 ?_
        refine s_mem (fun M_2 eM_2 => ?_)
        refine s_iconst (v := (nI 1)) hX dX8_spreadOn_32 (by decide) ?_
        refine s_istore (lv' := [(0, .ref (ad 23)), (1, .ref (ad b)), (2, .int s), (3, .int (nI 40)), (4, .ref (ad 24)), (5, .int (nI 42)), (6, .int (nI 1))]) hX dX8_spreadOn_33 (by decide) rfl ?_
        refine s_iconst (v := (nI 0)) hX dX8_spreadOn_35 (by decide) ?_
        refine s_istore (lv' := [(0, .ref (ad 23)), (1, .ref (ad b)), (2, .int s), (3, .int (nI 40)), (4, .ref (ad 24)), (5, .int (nI 42)), (6, .int (nI 1)), (7, .int (nI 0))]) hX dX8_spreadOn_36 (by decide) rfl ?_
        have lp38 : ∀ (N38 : Nat) (h t : Nat) (Mi : Mem), (h ≤ t) → (1 ≤ t) → (t ≤ 2) → (2 < h + N38) → (spJ M s h 0 t Mi) → V X Mi [(0, .ref (ad 23)), (1, .ref (ad b)), (2, .int s), (3, .int (nI 40)), (4, .ref (ad 24)), (5, .int (nI 42)), (6, .int (nI t)), (7, .int (nI h))] [] 38 := by
          intro N38
          induction N38 with
          | zero => intro h t Mi hht h1t ht2 hN38 hI; exact absurd hN38 (by omega)
          | succ N38 ih38 =>
            intro h t Mi hht h1t ht2 hN38 hI
            refine s_iload (k := 7) hX dX8_spreadOn_38 rfl ?_
            refine s_iload (k := 6) hX dX8_spreadOn_40 rfl ?_
            refine s_icmp_ge (tgt := 162) hX dX8_spreadOn_42 (by decide) (fun c42 => ?_) (fun c42 => ?_)
            · replace c42 := (nI_leI (by omega) (by omega)).mp c42
              refine s_iload (k := 6) hX dX8_spreadOn_162 rfl ?_
              exact s_iret hX hR dX8_spreadOn_164 ⟨hI.1, sp6 hI (by omega) h1t ht2⟩
            · replace c42 := mt (nI_leI (by omega) (by omega)).mpr c42
              have hh : h < 2 := by omega
              have hq := sp2 hI hh (by omega)
              refine s_iload (k := 7) hX dX8_spreadOn_45 rfl ?_
              refine s_bipush (v := (nI 42)) hX dX8_spreadOn_47 (by decide) ?_
              refine s_icmp_ge (tgt := 162) hX dX8_spreadOn_49 (by decide) (fun c49 => ?_) (fun c49 => ?_)
              · replace c49 := (nI_leI (by omega) (by omega)).mp c49
                omega
              · replace c49 := mt (nI_leI (by omega) (by omega)).mpr c49
                refine s_aload_n (k := 0) hX dX8_spreadOn_52 rfl rfl ?_
                refine s_get hX fX8_18 oC23 rfl dX8_spreadOn_53 ?_
                refine s_iload (k := 7) hX dX8_spreadOn_56 rfl ?_
                refine s_ialdN hX aC26 (by omega) dX8_spreadOn_58 ?_
                refine s_top (y := nI (40 + h)) (hq) ?_
                refine s_istore (lv' := [(0, .ref (ad 23)), (1, .ref (ad b)), (2, .int s), (3, .int (nI 40)), (4, .ref (ad 24)), (5, .int (nI 42)), (6, .int (nI t)), (7, .int (nI h)), (8, .int (nI (40 + h)))]) hX dX8_spreadOn_59 (by decide) rfl ?_
                refine s_iload (k := 8) hX dX8_spreadOn_61 rfl ?_
                refine s_if_lt (tgt := 83) hX dX8_spreadOn_63 (by decide) (fun c63 => ?_) (fun c63 => ?_)
                · exact absurd c63 (nI_pos (by omega))
                · refine s_iload (k := 8) hX dX8_spreadOn_66 rfl ?_
                  refine s_bipush (v := (nI 42)) hX dX8_spreadOn_68 (by decide) ?_
                  refine s_icmp_ge (tgt := 83) hX dX8_spreadOn_70 (by decide) (fun c70 => ?_) (fun c70 => ?_)
                  · replace c70 := (nI_leI (by omega) (by omega)).mp c70
                    omega
                  · replace c70 := mt (nI_leI (by omega) (by omega)).mpr c70
                    refine s_aload (k := 4) hX dX8_spreadOn_73 rfl ?_
                    refine s_iload (k := 8) hX dX8_spreadOn_75 rfl ?_
                    refine s_ialdN hX aC24 (by omega) dX8_spreadOn_77 ?_
                    refine s_iconst (v := (nI 1)) hX dX8_spreadOn_78 (by decide) ?_
                    refine s_iadd hX dX8_spreadOn_79 ?_
                    refine s_goto (tgt := 84) hX dX8_spreadOn_80 (by decide) ?_
                    refine s_topi (fun x9 ex9 => ?_)
                    refine s_istore (lv' := [(0, .ref (ad 23)), (1, .ref (ad b)), (2, .int s), (3, .int (nI 40)), (4, .ref (ad 24)), (5, .int (nI 42)), (6, .int (nI t)), (7, .int (nI h)), (8, .int (nI (40 + h))), (9, .int x9)]) hX dX8_spreadOn_84 (by decide) rfl ?_
                    have hx9 : h = 0 → ¬ x9 = -1 := fun h0 => sp5 hI h0 ex9
                    refine s_iconst (v := (nI 0)) hX dX8_spreadOn_86 (by decide) ?_
                    refine s_istore (lv' := [(0, .ref (ad 23)), (1, .ref (ad b)), (2, .int s), (3, .int (nI 40)), (4, .ref (ad 24)), (5, .int (nI 42)), (6, .int (nI t)), (7, .int (nI h)), (8, .int (nI (40 + h))), (9, .int x9), (10, .int (nI 0))]) hX dX8_spreadOn_87 (by decide) rfl ?_
                    have lp89 : ∀ (N89 : Nat) (i t2 : Nat) (Mj : Mem), (i ≤ 42) → (42 < i + N89) → (h + 1 ≤ t2) → (t2 ≤ 2) → (spJ M s h i t2 Mj) → V X Mj [(0, .ref (ad 23)), (1, .ref (ad b)), (2, .int s), (3, .int (nI 40)), (4, .ref (ad 24)), (5, .int (nI 42)), (6, .int (nI t2)), (7, .int (nI h)), (8, .int (nI (40 + h))), (9, .int x9), (10, .int (nI i))] [] 89 := by
                      intro N89
                      induction N89 with
                      | zero => intro i t2 Mj hi hN89 ht1 ht2 hJ; exact absurd hN89 (by omega)
                      | succ N89 ih89 =>
                        intro i t2 Mj hi hN89 ht1 ht2 hJ
                        refine s_iload (k := 10) hX dX8_spreadOn_89 rfl ?_
                        refine s_iload (k := 5) hX dX8_spreadOn_91 rfl ?_
                        refine s_icmp_ge (tgt := 156) hX dX8_spreadOn_93 (by decide) (fun c93 => ?_) (fun c93 => ?_)
                        · replace c93 := (nI_leI (by omega) (by omega)).mp c93
                          refine s_iinc (k := 7) (v := nI (h + 1)) (lv' := [(0, .ref (ad 23)), (1, .ref (ad b)), (2, .int s), (3, .int (nI 40)), (4, .ref (ad 24)), (5, .int (nI 42)), (6, .int (nI t2)), (8, .int (nI (40 + h))), (9, .int x9), (10, .int (nI i)), (7, .int (nI (h + 1)))]) hX dX8_spreadOn_156 (nI_1 _) (by decide) rfl rfl ?_
                          refine s_goto (tgt := 38) hX dX8_spreadOn_159 (by decide) ?_
                          refine s_loc [0, 1, 2, 3, 4, 5, 6, 10] rfl ?_
                          exact ih38 (h + 1) t2 Mj (by omega) (by omega) (by omega) (by omega) (sp4 hJ (by omega))
                        · replace c93 := mt (nI_leI (by omega) (by omega)).mpr c93
                          refine s_iload (k := 10) hX dX8_spreadOn_96 rfl ?_
                          refine s_bipush (v := (nI 42)) hX dX8_spreadOn_98 (by decide) ?_
                          refine s_icmp_ge (tgt := 156) hX dX8_spreadOn_100 (by decide) (fun c100 => ?_) (fun c100 => ?_)
                          · replace c100 := (nI_leI (by omega) (by omega)).mp c100
                            omega
                          · replace c100 := mt (nI_leI (by omega) (by omega)).mpr c100
                            have hi2 : i < 42 := by omega
                            refine s_aload (k := 4) hX dX8_spreadOn_103 rfl ?_
                            refine s_iload (k := 10) hX dX8_spreadOn_105 rfl ?_
                            refine s_ialdN hX aC24 (by omega) dX8_spreadOn_107 ?_
                            refine s_iconst (v := (-1)) hX dX8_spreadOn_108 (by decide) ?_
                            refine s_icmp_ne (tgt := 150) hX dX8_spreadOn_109 (by decide) (fun c109 => ?_) (fun c109 => ?_)
                            · refine s_iinc (k := 10) (v := nI (i + 1)) (lv' := [(0, .ref (ad 23)), (1, .ref (ad b)), (2, .int s), (3, .int (nI 40)), (4, .ref (ad 24)), (5, .int (nI 42)), (6, .int (nI t2)), (7, .int (nI h)), (8, .int (nI (40 + h))), (9, .int x9), (10, .int (nI (i + 1)))]) hX dX8_spreadOn_150 (nI_1 _) (by decide) rfl rfl ?_
                              refine s_goto (tgt := 89) hX dX8_spreadOn_153 (by decide) ?_
                              exact ih89 (i + 1) t2 Mj (by omega) (by omega) (by omega) (by omega) (sp3a hJ c109 hi2 ht1 ht2)
                            · refine s_iload (k := 6) hX dX8_spreadOn_112 rfl ?_
                              refine s_bipush (v := (nI 42)) hX dX8_spreadOn_114 (by decide) ?_
                              refine s_icmp_ge (tgt := 150) hX dX8_spreadOn_116 (by decide) (fun c116 => ?_) (fun c116 => ?_)
                              · replace c116 := (nI_leI (by omega) (by omega)).mp c116
                                omega
                              · replace c116 := mt (nI_leI (by omega) (by omega)).mpr c116
                                refine s_aload_n (k := 1) hX dX8_spreadOn_119 rfl rfl ?_
                                refine s_iload (k := 8) hX dX8_spreadOn_120 rfl ?_
                                refine s_iload (k := 10) hX dX8_spreadOn_122 rfl ?_
                                refine s_iload_n (k := 2) hX dX8_spreadOn_124 rfl rfl ?_
                                refine s_callVi hX (c_X2_isStep b hb (40 + h) (by omega) i hi2 s Mj (fun j hj => (hJ.1 (b + 4) j (by omega) (by omega)).trans (hT j hj))) mX2_isStep lX8_41 (by decide) (by decide) (oF hb) rfl rfl rfl rfl rfl (by decide) dX8_spreadOn_125 (fun r125 M_7 hp125 => ?_)
                                obtain ⟨rfl, h2⟩ := hp125
                                subst h2
                                refine s_if_eq (tgt := 150) hX dX8_spreadOn_128 (by decide) (fun c128 => ?_) (fun c128 => ?_)
                                · replace c128 := bI_eq c128
                                  refine s_iinc (k := 10) (v := nI (i + 1)) (lv' := [(0, .ref (ad 23)), (1, .ref (ad b)), (2, .int s), (3, .int (nI 40)), (4, .ref (ad 24)), (5, .int (nI 42)), (6, .int (nI t2)), (7, .int (nI h)), (8, .int (nI (40 + h))), (9, .int x9), (10, .int (nI (i + 1)))]) hX dX8_spreadOn_150 (nI_1 _) (by decide) rfl rfl ?_
                                  refine s_goto (tgt := 89) hX dX8_spreadOn_153 (by decide) ?_
                                  exact ih89 (i + 1) t2 Mj (by omega) (by omega) (by omega) (by omega) (sp3c hJ c128)
                                · replace c128 := bI_ne c128
                                  have ht21 := sp7 hJ c109 c128 hi2
                                  refine s_aload (k := 4) hX dX8_spreadOn_131 rfl ?_
                                  refine s_iload (k := 10) hX dX8_spreadOn_133 rfl ?_
                                  refine s_iload (k := 9) hX dX8_spreadOn_135 rfl ?_
                                  refine s_iastN hX aC24 (by omega) dX8_spreadOn_137 ?_
                                  refine s_mem (fun M_8 eM_8 => ?_)
                                  refine s_aload_n (k := 0) hX dX8_spreadOn_138 rfl rfl ?_
                                  refine s_get hX fX8_18 oC23 rfl dX8_spreadOn_139 ?_
                                  refine s_iload (k := 6) hX dX8_spreadOn_142 rfl ?_
                                  refine s_iload (k := 10) hX dX8_spreadOn_144 rfl ?_
                                  refine s_iastN hX aC26 (by omega) dX8_spreadOn_146 ?_
                                  refine s_mem (fun M_9 eM_9 => ?_)
                                  refine s_iinc (k := 6) (v := nI (t2 + 1)) (lv' := [(0, .ref (ad 23)), (1, .ref (ad b)), (2, .int s), (3, .int (nI 40)), (4, .ref (ad 24)), (5, .int (nI 42)), (7, .int (nI h)), (8, .int (nI (40 + h))), (9, .int x9), (10, .int (nI i)), (6, .int (nI (t2 + 1)))]) hX dX8_spreadOn_147 (nI_1 _) (by decide) rfl rfl ?_
                                  refine s_iinc (k := 9) (v := nI (i + 1)) (lv' := [(0, .ref (ad 23)), (1, .ref (ad b)), (2, .int s), (3, .int (nI 40)), (4, .ref (ad 24)), (5, .int (nI 42)), (7, .int (nI h)), (8, .int (nI (40 + h))), (9, .int x9), (6, .int (nI (t2 + 1))), (10, .int (nI (i + 1)))]) hX dX8_spreadOn_150 (nI_1 _) (by decide) rfl rfl ?_
                                  refine s_goto (tgt := 89) hX dX8_spreadOn_153 (by decide) ?_
                                  refine s_loc [0, 1, 2, 3, 4, 5, 9, 6, 7, 8, 10] rfl ?_
                                  exact ih89 (i + 1) (t2 + 1) _ (by omega) (by omega) (by omega) (by omega) (by subst_vars; exact sp3d hJ c109 c128 hi2 hh hx9 ht1)
                    exact lp89 43 0 t Mi (by omega) (by omega) (by omega) (by omega) hI
        exact lp38 3 0 1 _ (by omega) (by omega) (by omega) (by omega) (by subst_vars; exact sp0 hv)
      · exact absurd (by decide) c15
set_option maxHeartbeats 4000000 in
theorem c_X8_spread (b : Nat) (hb : isF b) (s : Int32) (M : Mem) (hT : ∀ j, j < 40 → M (b + 4) j = 0) : AM yX8_spread cX8_spread 6 (some .int) 3 60 glC (fun ad => [.ref (ad 23), .ref (ad b), .int s, .int (nI 40), .ref (ad 24), .int (nI 42)]) M (PI (fun _ M' => (∀ a c, a ≠ 24 → a ≠ 26 → M' a c = M a c) ∧ (M' 24 41 = -1 ↔ s.toInt < 21))) := by
  refine AM.of (by decide) (fun _ => Nat.le_of_ble_eq_true rfl) (fun X ad cI cZ cB hX hR => ?_)
  show V X M [(0, .ref (ad 23)), (1, .ref (ad b)), (2, .int s), (3, .int (nI 40)), (4, .ref (ad 24)), (5, .int (nI 42))] [] 0
  have hb0 : b = 1 ∨ b = 7 ∨ b = 13 := hb
  refine s_aload (k := 4) hX dX8_spread_0 rfl ?_
  refine s_iconst (v := (-1)) hX dX8_spread_2 (by decide) ?_
  refine s_callSv hX (c_J7_fill_53178 24 42 aC24 (by decide) (-1) M) mJ7_fill_53178 lX8_31 (by decide) (by decide) rfl rfl (by decide) dX8_spread_3 (fun M_1 hp3 => ?_)
  obtain ⟨hf1, hv1⟩ := hp3
  refine s_aload_n (k := 0) hX dX8_spread_6 rfl rfl ?_
  refine s_aload_n (k := 1) hX dX8_spread_7 rfl rfl ?_
  refine s_iload_n (k := 2) hX dX8_spread_8 rfl rfl ?_
  refine s_iload_n (k := 3) hX dX8_spread_9 rfl rfl ?_
  refine s_aload (k := 4) hX dX8_spread_10 rfl ?_
  refine s_iload (k := 5) hX dX8_spread_12 rfl ?_
  refine s_callVi hX (c_X8_spreadOn b hb s M_1 (fun j hj => (hf1 (b + 4) j (by omega)).trans (hT j hj)) hv1) mX8_spreadOn lX8_37 (by decide) (by decide) oC23 rfl rfl rfl rfl rfl (by decide) dX8_spread_14 (fun r14 M_2 hp14 => ?_)
  obtain ⟨hf2, hv2⟩ := hp14
  exact s_iret hX hR dX8_spread_17 ⟨fun a c h1 h2 => (hf2 a c h1 h2).trans (hf1 a c h1), hv2⟩
set_option maxHeartbeats 4000000 in
theorem c_X8_canCross (b : Nat) (hb : isF b) (s : Int32) (M : Mem) (hT : ∀ j, j < 40 → M (b + 4) j = 0) : AM yX8_canCross cX8_canCross 3 (some .boolean) 4 60 glC (fun ad => [.ref (ad 23), .ref (ad b), .int s]) M (PI (fun r M' => r = bI (21 ≤ s.toInt) ∧ ∀ a c, a ≠ 24 → a ≠ 26 → M' a c = M a c)) := by
  refine AM.of (by decide) (fun _ => Nat.le_of_ble_eq_true rfl) (fun X ad cI cZ cB hX hR => ?_)
  show V X M [(0, .ref (ad 23)), (1, .ref (ad b)), (2, .int s)] [] 0
  refine s_aload_n (k := 0) hX dX8_canCross_0 rfl rfl ?_
  refine s_aload_n (k := 1) hX dX8_canCross_1 rfl rfl ?_
  refine s_iload_n (k := 2) hX dX8_canCross_2 rfl rfl ?_
  refine s_bipush (v := (nI 40)) hX dX8_canCross_3 (by decide) ?_
  refine s_aload_n (k := 0) hX dX8_canCross_5 rfl rfl ?_
  refine s_get hX fX8_9 oC23 rfl dX8_canCross_6 ?_
  refine s_bipush (v := (nI 42)) hX dX8_canCross_9 (by decide) ?_
  refine s_callVi hX (c_X8_spread b hb s M hT) mX8_spread lX8_47 (by decide) (by decide) oC23 rfl rfl rfl rfl rfl (by decide) dX8_canCross_11 (fun r11 M_1 hp11 => ?_)
  obtain ⟨hf2, hv2⟩ := hp11
  refine s_pop hX dX8_canCross_14 rfl ?_
  refine s_aload_n (k := 0) hX dX8_canCross_15 rfl rfl ?_
  refine s_get hX fX8_9 oC23 rfl dX8_canCross_16 ?_
  refine s_bipush (v := (nI 41)) hX dX8_canCross_19 (by decide) ?_
  refine s_ialdN hX aC24 (by omega) dX8_canCross_21 ?_
  refine s_iconst (v := (-1)) hX dX8_canCross_22 (by decide) ?_
  refine s_icmp_eq (tgt := 30) hX dX8_canCross_23 (by decide) (fun c23 => ?_) (fun c23 => ?_)
  · refine s_iconst (v := (nI 0)) hX dX8_canCross_30 (by decide) ?_
    exact s_zret hX hR dX8_canCross_31 (by first | decide | assumption) ⟨bI_f (by have := hv2.mp c23; omega), hf2⟩
  · refine s_iconst (v := (nI 1)) hX dX8_canCross_26 (by decide) ?_
    refine s_goto (tgt := 31) hX dX8_canCross_27 (by decide) ?_
    exact s_zret hX hR dX8_canCross_31 (by first | decide | assumption) ⟨bI_t (by have := mt hv2.mpr c23; omega), hf2⟩
set_option maxHeartbeats 4000000 in
theorem c_X8_countIslands (b : Nat) (hb : isF b) (s : Int32) (M : Mem) (hT : ∀ j, j < 40 → M (b + 4) j = 0) : AM yX8_countIslands cX8_countIslands 5 (some .int) 1 60 glC (fun ad => [.ref (ad 23), .ref (ad b), .int s]) M (PI (fun r _ => r = nI 0)) := by
  refine AM.of (by decide) (fun _ => Nat.le_of_ble_eq_true rfl) (fun X ad cI cZ cB hX hR => ?_)
  show V X M [(0, .ref (ad 23)), (1, .ref (ad b)), (2, .int s)] [] 0
  have hb0 : b = 1 ∨ b = 7 ∨ b = 13 := hb
  refine s_aload_n (k := 0) hX dX8_countIslands_0 rfl rfl ?_
  refine s_get hX fX8_9 oC23 rfl dX8_countIslands_1 ?_
  refine s_iconst (v := (-1)) hX dX8_countIslands_4 (by decide) ?_
  refine s_callSv hX (c_J7_fill_53178 24 42 aC24 (by decide) (-1) M) mJ7_fill_53178 lX8_31 (by decide) (by decide) rfl rfl (by decide) dX8_countIslands_5 (fun M_1 hp5 => ?_)
  obtain ⟨hf1, hv1⟩ := hp5
  refine s_iconst (v := (nI 0)) hX dX8_countIslands_8 (by decide) ?_
  refine s_istore_n (lv' := [(0, .ref (ad 23)), (1, .ref (ad b)), (2, .int s), (3, .int (nI 0))]) hX dX8_countIslands_9 rfl (by decide) rfl ?_
  refine s_iconst (v := (nI 0)) hX dX8_countIslands_10 (by decide) ?_
  refine s_istore (lv' := [(0, .ref (ad 23)), (1, .ref (ad b)), (2, .int s), (3, .int (nI 0)), (4, .int (nI 0))]) hX dX8_countIslands_11 (by decide) rfl ?_
  have lp13 : ∀ (N13 : Nat) (i : Nat), (i ≤ 40) → (40 < i + N13) → V X M_1 [(0, .ref (ad 23)), (1, .ref (ad b)), (2, .int s), (3, .int (nI 0)), (4, .int (nI i))] [] 13 := by
    intro N13
    induction N13 with
    | zero => intro i hi hN13; exact absurd hN13 (by omega)
    | succ N13 ih13 =>
      intro i hi hN13
      refine s_iload (k := 4) hX dX8_countIslands_13 rfl ?_
      refine s_bipush (v := (nI 40)) hX dX8_countIslands_15 (by decide) ?_
      refine s_icmp_ge (tgt := 64) hX dX8_countIslands_17 (by decide) (fun c17 => ?_) (fun c17 => ?_)
      · replace c17 := (nI_leI (by omega) (by omega)).mp c17
        refine s_iload_n (k := 3) hX dX8_countIslands_64 rfl rfl ?_
        exact s_iret hX hR dX8_countIslands_65 rfl
      · replace c17 := mt (nI_leI (by omega) (by omega)).mpr c17
        refine s_aload_n (k := 1) hX dX8_countIslands_20 rfl rfl ?_
        refine s_iload (k := 4) hX dX8_countIslands_21 rfl ?_
        refine s_callVi hX (c_X2_isDry b hb (nI i) M_1 (fun j hj => (hf1 (b + 4) j (by omega)).trans (hT j hj))) mX2_isDry lX8_104 (by decide) (by decide) (oF hb) rfl rfl rfl rfl rfl (by decide) dX8_countIslands_23 (fun r23 M_4 hp23 => ?_)
        obtain ⟨rfl, h2⟩ := hp23
        subst h2
        refine s_if_eq (tgt := 58) hX dX8_countIslands_26 (by decide) (fun c26 => ?_) (fun c26 => ?_)
        · refine s_iinc (k := 4) (v := nI (i + 1)) (lv' := [(0, .ref (ad 23)), (1, .ref (ad b)), (2, .int s), (3, .int (nI 0)), (4, .int (nI (i + 1)))]) hX dX8_countIslands_58 (nI_1 _) (by decide) rfl rfl ?_
          refine s_goto (tgt := 13) hX dX8_countIslands_61 (by decide) ?_
          exact ih13 (i + 1) (by omega) (by omega)
        · first | exact absurd (by decide) c26 | exact absurd c26 (by decide)
  exact lp13 41 0 (by omega) (by omega)
set_option maxHeartbeats 4000000 in
theorem c_X6_line (b : Nat) (hb : isF b) (M : Mem) (hT : ∀ j, j < 40 → M (b + 4) j = 0) : AM yX6_line cX6_line 4 (some .int) 1 60 glC (fun ad => [.ref (ad b)]) M (PI (fun r _ => r = nI 0)) := by
  refine AM.of (by decide) (fun _ => Nat.le_of_ble_eq_true rfl) (fun X ad cI cZ cB hX hR => ?_)
  show V X M [(0, .ref (ad b))] [] 0
  refine s_iconst (v := (nI 2)) hX dX6_line_0 (by decide) ?_
  refine s_aload_n (k := 0) hX dX6_line_1 rfl rfl ?_
  refine s_callVi hX (c_X2_countTold b hb M hT) mX2_countTold lX6_9 (by decide) (by decide) (oF hb) rfl rfl rfl rfl rfl (by decide) dX6_line_2 (fun r2 M_1 hp2 => ?_)
  obtain ⟨rfl, h2⟩ := hp2
  subst h2
  refine s_mmin hX lX6_15 mJ9_min (by decide) (by decide) dX6_line_5 ?_
  refine s_top (y := nI 0) (by decide) ?_
  refine s_istore_n (lv' := [(0, .ref (ad b)), (1, .int (nI 0))]) hX dX6_line_8 rfl (by decide) rfl ?_
  refine s_iconst (v := (nI 0)) hX dX6_line_9 (by decide) ?_
  refine s_istore_n (lv' := [(0, .ref (ad b)), (1, .int (nI 0)), (2, .int (nI 0))]) hX dX6_line_10 rfl (by decide) rfl ?_
  have lp11 : ∀ (N11 : Nat) (i : Nat), (i ≤ 40) → (40 < i + N11) → V X M [(0, .ref (ad b)), (1, .int (nI 0)), (2, .int (nI i))] [] 11 := by
    intro N11
    induction N11 with
    | zero => intro i hi hN11; exact absurd hN11 (by omega)
    | succ N11 ih11 =>
      intro i hi hN11
      refine s_iload_n (k := 2) hX dX6_line_11 rfl rfl ?_
      refine s_bipush (v := (nI 40)) hX dX6_line_12 (by decide) ?_
      refine s_icmp_ge (tgt := 68) hX dX6_line_14 (by decide) (fun c14 => ?_) (fun c14 => ?_)
      · replace c14 := (nI_leI (by omega) (by omega)).mp c14
        refine s_iload_n (k := 1) hX dX6_line_68 rfl rfl ?_
        exact s_iret hX hR dX6_line_69 rfl
      · replace c14 := mt (nI_leI (by omega) (by omega)).mpr c14
        refine s_iload_n (k := 2) hX dX6_line_17 rfl rfl ?_
        refine s_iconst (v := (nI 1)) hX dX6_line_18 (by decide) ?_
        refine s_iadd hX dX6_line_19 ?_
        refine s_top (y := nI (i + 1)) (nI_add i 1) ?_
        refine s_istore_n (lv' := [(0, .ref (ad b)), (1, .int (nI 0)), (2, .int (nI i)), (3, .int (nI (i + 1)))]) hX dX6_line_20 rfl (by decide) rfl ?_
        have lp21 : ∀ (N21 : Nat) (j : Nat), (j ≤ 40) → (40 < j + N21) → V X M [(0, .ref (ad b)), (1, .int (nI 0)), (2, .int (nI i)), (3, .int (nI j))] [] 21 := by
          intro N21
          induction N21 with
          | zero => intro j hj hN21; exact absurd hN21 (by omega)
          | succ N21 ih21 =>
            intro j hj hN21
            refine s_iload_n (k := 3) hX dX6_line_21 rfl rfl ?_
            refine s_bipush (v := (nI 40)) hX dX6_line_22 (by decide) ?_
            refine s_icmp_ge (tgt := 62) hX dX6_line_24 (by decide) (fun c24 => ?_) (fun c24 => ?_)
            · replace c24 := (nI_leI (by omega) (by omega)).mp c24
              refine s_iinc (k := 2) (v := nI (i + 1)) (lv' := [(0, .ref (ad b)), (1, .int (nI 0)), (3, .int (nI j)), (2, .int (nI (i + 1)))]) hX dX6_line_62 (nI_1 _) (by decide) rfl rfl ?_
              refine s_goto (tgt := 11) hX dX6_line_65 (by decide) ?_
              refine s_loc [0, 1, 3] rfl ?_
              exact ih11 (i + 1) (by omega) (by omega)
            · replace c24 := mt (nI_leI (by omega) (by omega)).mpr c24
              refine s_aload_n (k := 0) hX dX6_line_27 rfl rfl ?_
              refine s_get hX fX6_21 (oF hb) rfl dX6_line_28 ?_
              refine s_iload_n (k := 2) hX dX6_line_31 rfl rfl ?_
              refine s_zaldN hX (aF4 hb) (by omega) dX6_line_32 ?_
              refine s_if_eq (tgt := 56) hX dX6_line_33 (by decide) (fun c33 => ?_) (fun c33 => ?_)
              · refine s_iinc (k := 3) (v := nI (j + 1)) (lv' := [(0, .ref (ad b)), (1, .int (nI 0)), (2, .int (nI i)), (3, .int (nI (j + 1)))]) hX dX6_line_56 (nI_1 _) (by decide) rfl rfl ?_
                refine s_goto (tgt := 21) hX dX6_line_59 (by decide) ?_
                exact ih21 (j + 1) (by omega) (by omega)
              · exact absurd (hT i (by omega)) c33
        exact lp21 41 (i + 1) (by omega) (by omega)
  exact lp11 41 0 (by omega) (by omega)
set_option maxHeartbeats 4000000 in
theorem c_X6_yardApart (b : Nat) (hb : isF b) (M : Mem) (hT : ∀ j, j < 40 → M (b + 4) j = 0) : AM yX6_yardApart cX6_yardApart 4 (some .int) 0 60 glC (fun ad => [.ref (ad b)]) M (PI (fun r _ => r = nI 0)) := by
  refine AM.of (by decide) (fun _ => Nat.le_of_ble_eq_true rfl) (fun X ad cI cZ cB hX hR => ?_)
  show V X M [(0, .ref (ad b))] [] 0
  refine s_iconst (v := (nI 0)) hX dX6_yardApart_0 (by decide) ?_
  refine s_istore_n (lv' := [(0, .ref (ad b)), (1, .int (nI 0))]) hX dX6_yardApart_1 rfl (by decide) rfl ?_
  refine s_iconst (v := (nI 0)) hX dX6_yardApart_2 (by decide) ?_
  refine s_istore_n (lv' := [(0, .ref (ad b)), (1, .int (nI 0)), (2, .int (nI 0))]) hX dX6_yardApart_3 rfl (by decide) rfl ?_
  have lp4 : ∀ (N4 : Nat) (i : Nat), (i ≤ 40) → (40 < i + N4) → V X M [(0, .ref (ad b)), (1, .int (nI 0)), (2, .int (nI i))] [] 4 := by
    intro N4
    induction N4 with
    | zero => intro i hi hN4; exact absurd hN4 (by omega)
    | succ N4 ih4 =>
      intro i hi hN4
      refine s_iload_n (k := 2) hX dX6_yardApart_4 rfl rfl ?_
      refine s_bipush (v := (nI 40)) hX dX6_yardApart_5 (by decide) ?_
      refine s_icmp_ge (tgt := 67) hX dX6_yardApart_7 (by decide) (fun c7 => ?_) (fun c7 => ?_)
      · replace c7 := (nI_leI (by omega) (by omega)).mp c7
        refine s_iload_n (k := 1) hX dX6_yardApart_67 rfl rfl ?_
        exact s_iret hX hR dX6_yardApart_68 rfl
      · replace c7 := mt (nI_leI (by omega) (by omega)).mpr c7
        refine s_aload_n (k := 0) hX dX6_yardApart_10 rfl rfl ?_
        refine s_get hX fX6_21 (oF hb) rfl dX6_yardApart_11 ?_
        refine s_iload_n (k := 2) hX dX6_yardApart_14 rfl rfl ?_
        refine s_zaldN hX (aF4 hb) (by omega) dX6_yardApart_15 ?_
        refine s_if_eq (tgt := 61) hX dX6_yardApart_16 (by decide) (fun c16 => ?_) (fun c16 => ?_)
        · refine s_iinc (k := 2) (v := nI (i + 1)) (lv' := [(0, .ref (ad b)), (1, .int (nI 0)), (2, .int (nI (i + 1)))]) hX dX6_yardApart_61 (nI_1 _) (by decide) rfl rfl ?_
          refine s_goto (tgt := 4) hX dX6_yardApart_64 (by decide) ?_
          exact ih4 (i + 1) (by omega) (by omega)
        · exact absurd (hT i (by omega)) c16
  exact lp4 41 0 (by omega) (by omega)
set_option maxHeartbeats 4000000 in
theorem c_X6_nearest (b : Nat) (hb : isF b) (i : Int32) (M : Mem) (hT : ∀ j, j < 40 → M (b + 4) j = 0) : AM yX6_nearest cX6_nearest 4 (some .int) 1 60 glC (fun ad => [.ref (ad b), .int i]) M (PI (fun r M' => r = -1 ∧ M = M')) := by
  refine AM.of (by decide) (fun _ => Nat.le_of_ble_eq_true rfl) (fun X ad cI cZ cB hX hR => ?_)
  show V X M [(0, .ref (ad b)), (1, .int i)] [] 0
  refine s_iconst (v := (-1)) hX dX6_nearest_0 (by decide) ?_
  refine s_istore_n (lv' := [(0, .ref (ad b)), (1, .int i), (2, .int (-1))]) hX dX6_nearest_1 rfl (by decide) rfl ?_
  refine s_iconst (v := (nI 0)) hX dX6_nearest_2 (by decide) ?_
  refine s_istore_n (lv' := [(0, .ref (ad b)), (1, .int i), (2, .int (-1)), (3, .int (nI 0))]) hX dX6_nearest_3 rfl (by decide) rfl ?_
  refine s_iload_n (k := 3) hX dX6_nearest_4 rfl rfl ?_
  refine s_bipush (v := (nI 40)) hX dX6_nearest_5 (by decide) ?_
  refine s_icmp_ge (tgt := 60) hX dX6_nearest_7 (by decide) (fun c7 => ?_) (fun c7 => ?_)
  · first | exact absurd (by decide) c7 | exact absurd c7 (by decide)
  · refine s_aload_n (k := 0) hX dX6_nearest_10 rfl rfl ?_
    refine s_iload_n (k := 1) hX dX6_nearest_11 rfl rfl ?_
    refine s_callVi hX (c_X2_isTold b hb i M hT) mX2_isTold lX6_34 (by decide) (by decide) (oF hb) rfl rfl rfl rfl rfl (by decide) dX6_nearest_12 (fun r12 M_3 hp12 => ?_)
    obtain ⟨rfl, h2⟩ := hp12
    subst h2
    refine s_if_eq (tgt := 60) hX dX6_nearest_15 (by decide) (fun c15 => ?_) (fun c15 => ?_)
    · refine s_iload_n (k := 2) hX dX6_nearest_60 rfl rfl ?_
      exact s_iret hX hR dX6_nearest_61 ⟨rfl, rfl⟩
    · first | exact absurd (by decide) c15 | exact absurd c15 (by decide)
set_option maxHeartbeats 4000000 in
theorem c_X6_pairs (b : Nat) (hb : isF b) (M : Mem) (hT : ∀ j, j < 40 → M (b + 4) j = 0) : AM yX6_pairs cX6_pairs 4 (some .int) 2 60 glC (fun ad => [.ref (ad b)]) M (PI (fun r _ => r = nI 0)) := by
  refine AM.of (by decide) (fun _ => Nat.le_of_ble_eq_true rfl) (fun X ad cI cZ cB hX hR => ?_)
  show V X M [(0, .ref (ad b))] [] 0
  refine s_iconst (v := (nI 0)) hX dX6_pairs_0 (by decide) ?_
  refine s_istore_n (lv' := [(0, .ref (ad b)), (1, .int (nI 0))]) hX dX6_pairs_1 rfl (by decide) rfl ?_
  refine s_iconst (v := (nI 0)) hX dX6_pairs_2 (by decide) ?_
  refine s_istore_n (lv' := [(0, .ref (ad b)), (1, .int (nI 0)), (2, .int (nI 0))]) hX dX6_pairs_3 rfl (by decide) rfl ?_
  have lp4 : ∀ (N4 : Nat) (i : Nat), (i ≤ 40) → (40 < i + N4) → V X M [(0, .ref (ad b)), (1, .int (nI 0)), (2, .int (nI i))] [] 4 := by
    intro N4
    induction N4 with
    | zero => intro i hi hN4; exact absurd hN4 (by omega)
    | succ N4 ih4 =>
      intro i hi hN4
      refine s_iload_n (k := 2) hX dX6_pairs_4 rfl rfl ?_
      refine s_bipush (v := (nI 40)) hX dX6_pairs_5 (by decide) ?_
      refine s_icmp_ge (tgt := 39) hX dX6_pairs_7 (by decide) (fun c7 => ?_) (fun c7 => ?_)
      · replace c7 := (nI_leI (by omega) (by omega)).mp c7
        refine s_iload_n (k := 1) hX dX6_pairs_39 rfl rfl ?_
        exact s_iret hX hR dX6_pairs_40 rfl
      · replace c7 := mt (nI_leI (by omega) (by omega)).mpr c7
        refine s_aload_n (k := 0) hX dX6_pairs_10 rfl rfl ?_
        refine s_iload_n (k := 2) hX dX6_pairs_11 rfl rfl ?_
        refine s_callSi hX (c_X6_nearest b hb (nI i) M hT) mX6_nearest lX6_48 (by decide) (by decide) rfl rfl (by decide) dX6_pairs_12 (fun r12 M_3 hp12 => ?_)
        obtain ⟨rfl, h2⟩ := hp12
        subst h2
        refine s_istore_n (lv' := [(0, .ref (ad b)), (1, .int (nI 0)), (2, .int (nI i)), (3, .int (-1))]) hX dX6_pairs_15 rfl (by decide) rfl ?_
        refine s_iload_n (k := 3) hX dX6_pairs_16 rfl rfl ?_
        refine s_iload_n (k := 2) hX dX6_pairs_17 rfl rfl ?_
        refine s_icmp_le (tgt := 33) hX dX6_pairs_18 (by decide) (fun c18 => ?_) (fun c18 => ?_)
        · refine s_iinc (k := 2) (v := nI (i + 1)) (lv' := [(0, .ref (ad b)), (1, .int (nI 0)), (3, .int (-1)), (2, .int (nI (i + 1)))]) hX dX6_pairs_33 (nI_1 _) (by decide) rfl rfl ?_
          refine s_goto (tgt := 4) hX dX6_pairs_36 (by decide) ?_
          refine s_loc [0, 1, 3] rfl ?_
          exact ih4 (i + 1) (by omega) (by omega)
        · exact absurd (m1_le (by omega)) c18
  exact lp4 41 0 (by omega) (by omega)
set_option maxHeartbeats 4000000 in
theorem c_X6_closest (b : Nat) (hb : isF b) (M : Mem) (hT : ∀ j, j < 40 → M (b + 4) j = 0) : AM yX6_closest cX6_closest 4 (some .int) 2 60 glC (fun ad => [.ref (ad b)]) M (PI (fun r _ => r = -2)) := by
  refine AM.of (by decide) (fun _ => Nat.le_of_ble_eq_true rfl) (fun X ad cI cZ cB hX hR => ?_)
  show V X M [(0, .ref (ad b))] [] 0
  refine s_bipush (v := (-2)) hX dX6_closest_0 (by decide) ?_
  refine s_istore_n (lv' := [(0, .ref (ad b)), (1, .int (-2))]) hX dX6_closest_2 rfl (by decide) rfl ?_
  refine s_iconst (v := (nI 0)) hX dX6_closest_3 (by decide) ?_
  refine s_istore_n (lv' := [(0, .ref (ad b)), (1, .int (-2)), (2, .int (nI 0))]) hX dX6_closest_4 rfl (by decide) rfl ?_
  have lp5 : ∀ (N5 : Nat) (i : Nat), (i ≤ 40) → (40 < i + N5) → V X M [(0, .ref (ad b)), (1, .int (-2)), (2, .int (nI i))] [] 5 := by
    intro N5
    induction N5 with
    | zero => intro i hi hN5; exact absurd hN5 (by omega)
    | succ N5 ih5 =>
      intro i hi hN5
      refine s_iload_n (k := 2) hX dX6_closest_5 rfl rfl ?_
      refine s_bipush (v := (nI 40)) hX dX6_closest_6 (by decide) ?_
      refine s_icmp_ge (tgt := 51) hX dX6_closest_8 (by decide) (fun c8 => ?_) (fun c8 => ?_)
      · replace c8 := (nI_leI (by omega) (by omega)).mp c8
        refine s_iload_n (k := 1) hX dX6_closest_51 rfl rfl ?_
        exact s_iret hX hR dX6_closest_52 rfl
      · replace c8 := mt (nI_leI (by omega) (by omega)).mpr c8
        refine s_aload_n (k := 0) hX dX6_closest_11 rfl rfl ?_
        refine s_iload_n (k := 2) hX dX6_closest_12 rfl rfl ?_
        refine s_callSi hX (c_X6_nearest b hb (nI i) M hT) mX6_nearest lX6_48 (by decide) (by decide) rfl rfl (by decide) dX6_closest_13 (fun r13 M_3 hp13 => ?_)
        obtain ⟨rfl, h2⟩ := hp13
        subst h2
        refine s_istore_n (lv' := [(0, .ref (ad b)), (1, .int (-2)), (2, .int (nI i)), (3, .int (-1))]) hX dX6_closest_16 rfl (by decide) rfl ?_
        refine s_iload_n (k := 3) hX dX6_closest_17 rfl rfl ?_
        refine s_iconst (v := (-1)) hX dX6_closest_18 (by decide) ?_
        refine s_icmp_eq (tgt := 45) hX dX6_closest_19 (by decide) (fun c19 => ?_) (fun c19 => ?_)
        · refine s_iinc (k := 2) (v := nI (i + 1)) (lv' := [(0, .ref (ad b)), (1, .int (-2)), (3, .int (-1)), (2, .int (nI (i + 1)))]) hX dX6_closest_45 (nI_1 _) (by decide) rfl rfl ?_
          refine s_goto (tgt := 5) hX dX6_closest_48 (by decide) ?_
          refine s_loc [0, 1, 3] rfl ?_
          exact ih5 (i + 1) (by omega) (by omega)
        · first | exact absurd (by decide) c19 | exact absurd c19 (by decide)
  exact lp5 41 0 (by omega) (by omega)
set_option maxHeartbeats 4000000 in
theorem c_X2_nextDry (b : Nat) (hb : isF b) (M : Mem) (hT : ∀ j, j < 40 → M (b + 4) j = 0) : AM yX2_nextDry cX2_nextDry 3 (some .int) 1 60 glC (fun ad => [.ref (ad b), .int (nI 0)]) M (PI (fun r M' => r = -1 ∧ M = M')) := by
  refine AM.of (by decide) (fun _ => Nat.le_of_ble_eq_true rfl) (fun X ad cI cZ cB hX hR => ?_)
  show V X M [(0, .ref (ad b)), (1, .int (nI 0))] [] 0
  refine s_iload_n (k := 1) hX dX2_nextDry_0 rfl rfl ?_
  refine s_iconst (v := (nI 0)) hX dX2_nextDry_1 (by decide) ?_
  refine s_mmax hX lX2_39 mJ9_max (by decide) (by decide) dX2_nextDry_2 ?_
  refine s_top (y := nI 0) (by decide) ?_
  refine s_istore_n (lv' := [(0, .ref (ad b)), (1, .int (nI 0)), (2, .int (nI 0))]) hX dX2_nextDry_5 rfl (by decide) rfl ?_
  have lp6 : ∀ (N6 : Nat) (i : Nat), (i ≤ 40) → (40 < i + N6) → V X M [(0, .ref (ad b)), (1, .int (nI 0)), (2, .int (nI i))] [] 6 := by
    intro N6
    induction N6 with
    | zero => intro i hi hN6; exact absurd hN6 (by omega)
    | succ N6 ih6 =>
      intro i hi hN6
      refine s_iload_n (k := 2) hX dX2_nextDry_6 rfl rfl ?_
      refine s_bipush (v := (nI 40)) hX dX2_nextDry_7 (by decide) ?_
      refine s_icmp_ge (tgt := 28) hX dX2_nextDry_9 (by decide) (fun c9 => ?_) (fun c9 => ?_)
      · replace c9 := (nI_leI (by omega) (by omega)).mp c9
        refine s_iconst (v := (-1)) hX dX2_nextDry_28 (by decide) ?_
        exact s_iret hX hR dX2_nextDry_29 ⟨rfl, rfl⟩
      · replace c9 := mt (nI_leI (by omega) (by omega)).mpr c9
        refine s_aload_n (k := 0) hX dX2_nextDry_12 rfl rfl ?_
        refine s_iload_n (k := 2) hX dX2_nextDry_13 rfl rfl ?_
        refine s_callVi hX (c_X2_isDry b hb (nI i) M hT) mX2_isDry lX2_45 (by decide) (by decide) (oF hb) rfl rfl rfl rfl rfl (by decide) dX2_nextDry_14 (fun r14 M_1 hp14 => ?_)
        obtain ⟨rfl, h2⟩ := hp14
        subst h2
        refine s_if_eq (tgt := 22) hX dX2_nextDry_17 (by decide) (fun c17 => ?_) (fun c17 => ?_)
        · refine s_iinc (k := 2) (v := nI (i + 1)) (lv' := [(0, .ref (ad b)), (1, .int (nI 0)), (2, .int (nI (i + 1)))]) hX dX2_nextDry_22 (nI_1 _) (by decide) rfl rfl ?_
          refine s_goto (tgt := 6) hX dX2_nextDry_25 (by decide) ?_
          exact ih6 (i + 1) (by omega) (by omega)
        · first | exact absurd (by decide) c17 | exact absurd c17 (by decide)
  exact lp6 41 0 (by omega) (by omega)
end
section
/-! the public methods on a fresh object -/
def FrC (M : Mem) : Prop := (∀ j, j < 40 → M 5 j = 0) ∧ (∀ j, j < 8 → M 43 j = 0) ∧ M 19 1 = nI 0 ∧ M 1 5 = nI 0 ∧ M 1 6 = 1 ∧ M 0 10 = nI 44 ∧ M 0 12 = nI 0 ∧ M 44 8 = nI 0
theorem nI0 : (nI 0).toInt = 0 := by decide
theorem nI1 : (nI 1).toInt = 1 := by decide
theorem nI2 : (nI 2).toInt = 2 := by decide
theorem nI40 : (nI 40).toInt = 40 := by decide
theorem dX9_stone_0 : decode cX9_stone 0 = .ok (.iload_n 1, 1) := by decide +kernel
theorem dX9_stone_1 : decode cX9_stone 1 = .ok (.invokestatic 82, 3) := by decide +kernel
theorem dX9_stone_4 : decode cX9_stone 4 = .ok (.ifCond .eq 23, 3) := by decide +kernel
theorem dX9_stone_7 : decode cX9_stone 7 = .ok (.iload_n 2, 1) := by decide +kernel
theorem dX9_stone_8 : decode cX9_stone 8 = .ok (.iload_n 3, 1) := by decide +kernel
theorem dX9_stone_9 : decode cX9_stone 9 = .ok (.invokestatic 86, 3) := by decide +kernel
theorem dX9_stone_12 : decode cX9_stone 12 = .ok (.ifCond .eq 15, 3) := by decide +kernel
theorem dX9_stone_15 : decode cX9_stone 15 = .ok (.iload 4, 2) := by decide +kernel
theorem dX9_stone_17 : decode cX9_stone 17 = .ok (.ifCond .lt 10, 3) := by decide +kernel
theorem dX9_stone_20 : decode cX9_stone 20 = .ok (.iload 4, 2) := by decide +kernel
theorem dX9_stone_22 : decode cX9_stone 22 = .ok (.bipush 9, 2) := by decide +kernel
theorem dX9_stone_24 : decode cX9_stone 24 = .ok (.if_icmp .le 5, 3) := by decide +kernel
theorem dX9_stone_27 : decode cX9_stone 27 = .ok (.iconst 0, 1) := by decide +kernel
theorem dX9_stone_28 : decode cX9_stone 28 = .ok (.ireturn, 1) := by decide +kernel
theorem dX9_stone_29 : decode cX9_stone 29 = .ok (.aload_n 0, 1) := by decide +kernel
theorem dX9_stone_30 : decode cX9_stone 30 = .ok (.getfield 10, 3) := by decide +kernel
theorem dX9_stone_33 : decode cX9_stone 33 = .ok (.iload_n 2, 1) := by decide +kernel
theorem dX9_stone_34 : decode cX9_stone 34 = .ok (.iload_n 3, 1) := by decide +kernel
theorem dX9_stone_35 : decode cX9_stone 35 = .ok (.invokevirtual 90, 3) := by decide +kernel
theorem dX9_stone_38 : decode cX9_stone 38 = .ok (.istore 5, 2) := by decide +kernel
theorem dX9_stone_40 : decode cX9_stone 40 = .ok (.iload 5, 2) := by decide +kernel
theorem dX9_stone_42 : decode cX9_stone 42 = .ok (.iconst (-1), 1) := by decide +kernel
theorem dX9_stone_43 : decode cX9_stone 43 = .ok (.if_icmp .eq 11, 3) := by decide +kernel
theorem dX9_stone_46 : decode cX9_stone 46 = .ok (.iload 5, 2) := by decide +kernel
theorem dX9_stone_48 : decode cX9_stone 48 = .ok (.iload_n 1, 1) := by decide +kernel
theorem dX9_stone_49 : decode cX9_stone 49 = .ok (.if_icmp .eq 5, 3) := by decide +kernel
theorem dX9_stone_52 : decode cX9_stone 52 = .ok (.iconst 0, 1) := by decide +kernel
theorem dX9_stone_53 : decode cX9_stone 53 = .ok (.ireturn, 1) := by decide +kernel
theorem dX9_stone_54 : decode cX9_stone 54 = .ok (.aload_n 0, 1) := by decide +kernel
theorem dX9_stone_55 : decode cX9_stone 55 = .ok (.getfield 10, 3) := by decide +kernel
theorem dX9_stone_58 : decode cX9_stone 58 = .ok (.iload_n 1, 1) := by decide +kernel
theorem dX9_stone_59 : decode cX9_stone 59 = .ok (.iload_n 2, 1) := by decide +kernel
theorem dX9_stone_60 : decode cX9_stone 60 = .ok (.iload_n 3, 1) := by decide +kernel
theorem dX9_stone_61 : decode cX9_stone 61 = .ok (.iload 4, 2) := by decide +kernel
theorem dX9_stone_63 : decode cX9_stone 63 = .ok (.iconst 0, 1) := by decide +kernel
theorem dX9_stone_64 : decode cX9_stone 64 = .ok (.invokevirtual 94, 3) := by decide +kernel
theorem dX9_stone_67 : decode cX9_stone 67 = .ok (.iconst 1, 1) := by decide +kernel
theorem dX9_stone_68 : decode cX9_stone 68 = .ok (.ireturn, 1) := by decide +kernel
theorem dX9_take_0 : decode cX9_take 0 = .ok (.aload_n 0, 1) := by decide +kernel
theorem dX9_take_1 : decode cX9_take 1 = .ok (.getfield 10, 3) := by decide +kernel
theorem dX9_take_4 : decode cX9_take 4 = .ok (.iload_n 1, 1) := by decide +kernel
theorem dX9_take_5 : decode cX9_take 5 = .ok (.invokevirtual 98, 3) := by decide +kernel
theorem dX9_take_8 : decode cX9_take 8 = .ok (.ifCond .ne 5, 3) := by decide +kernel
theorem dX9_take_11 : decode cX9_take 11 = .ok (.iconst 0, 1) := by decide +kernel
theorem dX9_take_12 : decode cX9_take 12 = .ok (.ireturn, 1) := by decide +kernel
theorem dX9_take_13 : decode cX9_take 13 = .ok (.aload_n 0, 1) := by decide +kernel
theorem dX9_take_14 : decode cX9_take 14 = .ok (.getfield 10, 3) := by decide +kernel
theorem dX9_take_17 : decode cX9_take 17 = .ok (.getfield 101, 3) := by decide +kernel
theorem dX9_take_20 : decode cX9_take 20 = .ok (.iload_n 1, 1) := by decide +kernel
theorem dX9_take_21 : decode cX9_take 21 = .ok (.iconst 0, 1) := by decide +kernel
theorem dX9_take_22 : decode cX9_take 22 = .ok (.bastore, 1) := by decide +kernel
theorem dX9_take_23 : decode cX9_take 23 = .ok (.iconst 1, 1) := by decide +kernel
theorem dX9_take_24 : decode cX9_take 24 = .ok (.ireturn, 1) := by decide +kernel
theorem dX9_under_0 : decode cX9_under 0 = .ok (.aload_n 0, 1) := by decide +kernel
theorem dX9_under_1 : decode cX9_under 1 = .ok (.getfield 10, 3) := by decide +kernel
theorem dX9_under_4 : decode cX9_under 4 = .ok (.iload_n 1, 1) := by decide +kernel
theorem dX9_under_5 : decode cX9_under 5 = .ok (.invokevirtual 98, 3) := by decide +kernel
theorem dX9_under_8 : decode cX9_under 8 = .ok (.ifCond .ne 5, 3) := by decide +kernel
theorem dX9_under_11 : decode cX9_under 11 = .ok (.iconst 0, 1) := by decide +kernel
theorem dX9_under_12 : decode cX9_under 12 = .ok (.ireturn, 1) := by decide +kernel
theorem dX9_under_13 : decode cX9_under 13 = .ok (.aload_n 0, 1) := by decide +kernel
theorem dX9_under_14 : decode cX9_under 14 = .ok (.getfield 10, 3) := by decide +kernel
theorem dX9_under_17 : decode cX9_under 17 = .ok (.getfield 105, 3) := by decide +kernel
theorem dX9_under_20 : decode cX9_under 20 = .ok (.iload_n 1, 1) := by decide +kernel
theorem dX9_under_21 : decode cX9_under 21 = .ok (.iload_n 2, 1) := by decide +kernel
theorem dX9_under_22 : decode cX9_under 22 = .ok (.bastore, 1) := by decide +kernel
theorem dX9_under_23 : decode cX9_under 23 = .ok (.iconst 1, 1) := by decide +kernel
theorem dX9_under_24 : decode cX9_under 24 = .ok (.ireturn, 1) := by decide +kernel
theorem dX9_person_0 : decode cX9_person 0 = .ok (.iload_n 1, 1) := by decide +kernel
theorem dX9_person_1 : decode cX9_person 1 = .ok (.ifCond .lt 16, 3) := by decide +kernel
theorem dX9_person_4 : decode cX9_person 4 = .ok (.iload_n 1, 1) := by decide +kernel
theorem dX9_person_5 : decode cX9_person 5 = .ok (.bipush 8, 2) := by decide +kernel
theorem dX9_person_7 : decode cX9_person 7 = .ok (.if_icmp .ge 10, 3) := by decide +kernel
theorem dX9_person_10 : decode cX9_person 10 = .ok (.iload_n 2, 1) := by decide +kernel
theorem dX9_person_11 : decode cX9_person 11 = .ok (.invokestatic 108, 3) := by decide +kernel
theorem dX9_person_14 : decode cX9_person 14 = .ok (.ifCond .ne 5, 3) := by decide +kernel
theorem dX9_person_17 : decode cX9_person 17 = .ok (.iconst 0, 1) := by decide +kernel
theorem dX9_person_18 : decode cX9_person 18 = .ok (.ireturn, 1) := by decide +kernel
theorem dX9_person_19 : decode cX9_person 19 = .ok (.aload_n 0, 1) := by decide +kernel
theorem dX9_person_20 : decode cX9_person 20 = .ok (.getfield 64, 3) := by decide +kernel
theorem dX9_person_23 : decode cX9_person 23 = .ok (.iload_n 1, 1) := by decide +kernel
theorem dX9_person_24 : decode cX9_person 24 = .ok (.iload_n 2, 1) := by decide +kernel
theorem dX9_person_25 : decode cX9_person 25 = .ok (.iastore, 1) := by decide +kernel
theorem dX9_person_26 : decode cX9_person 26 = .ok (.iconst 1, 1) := by decide +kernel
theorem dX9_person_27 : decode cX9_person 27 = .ok (.ireturn, 1) := by decide +kernel
theorem dX9_feed_0 : decode cX9_feed 0 = .ok (.aload_n 0, 1) := by decide +kernel
theorem dX9_feed_1 : decode cX9_feed 1 = .ok (.getfield 25, 3) := by decide +kernel
theorem dX9_feed_4 : decode cX9_feed 4 = .ok (.getfield 111, 3) := by decide +kernel
theorem dX9_feed_7 : decode cX9_feed 7 = .ok (.bipush 20, 2) := by decide +kernel
theorem dX9_feed_9 : decode cX9_feed 9 = .ok (.iadd, 1) := by decide +kernel
theorem dX9_feed_10 : decode cX9_feed 10 = .ok (.sipush 260, 3) := by decide +kernel
theorem dX9_feed_13 : decode cX9_feed 13 = .ok (.if_icmp .le 5, 3) := by decide +kernel
theorem dX9_feed_16 : decode cX9_feed 16 = .ok (.iconst (-1), 1) := by decide +kernel
theorem dX9_feed_17 : decode cX9_feed 17 = .ok (.ireturn, 1) := by decide +kernel
theorem dX9_feed_18 : decode cX9_feed 18 = .ok (.aload_n 0, 1) := by decide +kernel
theorem dX9_feed_19 : decode cX9_feed 19 = .ok (.getfield 25, 3) := by decide +kernel
theorem dX9_feed_22 : decode cX9_feed 22 = .ok (.iload_n 1, 1) := by decide +kernel
theorem dX9_feed_23 : decode cX9_feed 23 = .ok (.invokevirtual 115, 3) := by decide +kernel
theorem dX9_feed_26 : decode cX9_feed 26 = .ok (.aload_n 0, 1) := by decide +kernel
theorem dX9_feed_27 : decode cX9_feed 27 = .ok (.getfield 25, 3) := by decide +kernel
theorem dX9_feed_30 : decode cX9_feed 30 = .ok (.iload_n 2, 1) := by decide +kernel
theorem dX9_feed_31 : decode cX9_feed 31 = .ok (.invokevirtual 115, 3) := by decide +kernel
theorem dX9_feed_34 : decode cX9_feed 34 = .ok (.aload_n 0, 1) := by decide +kernel
theorem dX9_feed_35 : decode cX9_feed 35 = .ok (.getfield 25, 3) := by decide +kernel
theorem dX9_feed_38 : decode cX9_feed 38 = .ok (.iload_n 3, 1) := by decide +kernel
theorem dX9_feed_39 : decode cX9_feed 39 = .ok (.invokevirtual 115, 3) := by decide +kernel
theorem dX9_feed_42 : decode cX9_feed 42 = .ok (.aload_n 0, 1) := by decide +kernel
theorem dX9_feed_43 : decode cX9_feed 43 = .ok (.getfield 25, 3) := by decide +kernel
theorem dX9_feed_46 : decode cX9_feed 46 = .ok (.iload 4, 2) := by decide +kernel
theorem dX9_feed_48 : decode cX9_feed 48 = .ok (.invokevirtual 115, 3) := by decide +kernel
theorem dX9_feed_51 : decode cX9_feed 51 = .ok (.aload_n 0, 1) := by decide +kernel
theorem dX9_feed_52 : decode cX9_feed 52 = .ok (.getfield 25, 3) := by decide +kernel
theorem dX9_feed_55 : decode cX9_feed 55 = .ok (.iload 5, 2) := by decide +kernel
theorem dX9_feed_57 : decode cX9_feed 57 = .ok (.invokevirtual 115, 3) := by decide +kernel
theorem dX9_feed_60 : decode cX9_feed 60 = .ok (.aload_n 0, 1) := by decide +kernel
theorem dX9_feed_61 : decode cX9_feed 61 = .ok (.getfield 25, 3) := by decide +kernel
theorem dX9_feed_64 : decode cX9_feed 64 = .ok (.getfield 111, 3) := by decide +kernel
theorem dX9_feed_67 : decode cX9_feed 67 = .ok (.ireturn, 1) := by decide +kernel
theorem dX9_law_0 : decode cX9_law 0 = .ok (.aload_n 0, 1) := by decide +kernel
theorem dX9_law_1 : decode cX9_law 1 = .ok (.getfield 25, 3) := by decide +kernel
theorem dX9_law_4 : decode cX9_law 4 = .ok (.iload_n 1, 1) := by decide +kernel
theorem dX9_law_5 : decode cX9_law 5 = .ok (.iconst 1, 1) := by decide +kernel
theorem dX9_law_6 : decode cX9_law 6 = .ok (.sipush 240, 3) := by decide +kernel
theorem dX9_law_9 : decode cX9_law 9 = .ok (.invokevirtual 119, 3) := by decide +kernel
theorem dX9_law_12 : decode cX9_law 12 = .ok (.ifCond .ne 5, 3) := by decide +kernel
theorem dX9_law_15 : decode cX9_law 15 = .ok (.iconst (-1), 1) := by decide +kernel
theorem dX9_law_16 : decode cX9_law 16 = .ok (.ireturn, 1) := by decide +kernel
theorem dX9_law_17 : decode cX9_law 17 = .ok (.aload_n 0, 1) := by decide +kernel
theorem dX9_law_18 : decode cX9_law 18 = .ok (.getfield 25, 3) := by decide +kernel
theorem dX9_law_21 : decode cX9_law 21 = .ok (.iload_n 1, 1) := by decide +kernel
theorem dX9_law_22 : decode cX9_law 22 = .ok (.invokevirtual 123, 3) := by decide +kernel
theorem dX9_law_25 : decode cX9_law 25 = .ok (.aload_n 0, 1) := by decide +kernel
theorem dX9_law_26 : decode cX9_law 26 = .ok (.getfield 75, 3) := by decide +kernel
theorem dX9_law_29 : decode cX9_law 29 = .ok (.aload_n 0, 1) := by decide +kernel
theorem dX9_law_30 : decode cX9_law 30 = .ok (.getfield 25, 3) := by decide +kernel
theorem dX9_law_33 : decode cX9_law 33 = .ok (.invokevirtual 126, 3) := by decide +kernel
theorem dX9_law_36 : decode cX9_law 36 = .ok (.istore_n 2, 1) := by decide +kernel
theorem dX9_law_37 : decode cX9_law 37 = .ok (.iload_n 2, 1) := by decide +kernel
theorem dX9_law_38 : decode cX9_law 38 = .ok (.ifCond .le 21, 3) := by decide +kernel
theorem dX9_law_41 : decode cX9_law 41 = .ok (.aload_n 0, 1) := by decide +kernel
theorem dX9_law_42 : decode cX9_law 42 = .ok (.getfield 71, 3) := by decide +kernel
theorem dX9_law_45 : decode cX9_law 45 = .ok (.astore_n 3, 1) := by decide +kernel
theorem dX9_law_46 : decode cX9_law 46 = .ok (.aload_n 0, 1) := by decide +kernel
theorem dX9_law_47 : decode cX9_law 47 = .ok (.aload_n 0, 1) := by decide +kernel
theorem dX9_law_48 : decode cX9_law 48 = .ok (.getfield 75, 3) := by decide +kernel
theorem dX9_law_51 : decode cX9_law 51 = .ok (.putfield 71, 3) := by decide +kernel
theorem dX9_law_54 : decode cX9_law 54 = .ok (.aload_n 0, 1) := by decide +kernel
theorem dX9_law_55 : decode cX9_law 55 = .ok (.aload_n 3, 1) := by decide +kernel
theorem dX9_law_56 : decode cX9_law 56 = .ok (.putfield 75, 3) := by decide +kernel
theorem dX9_law_59 : decode cX9_law 59 = .ok (.iload_n 2, 1) := by decide +kernel
theorem dX9_law_60 : decode cX9_law 60 = .ok (.ireturn, 1) := by decide +kernel
theorem dX9_notebook_0 : decode cX9_notebook 0 = .ok (.aload_n 0, 1) := by decide +kernel
theorem dX9_notebook_1 : decode cX9_notebook 1 = .ok (.getfield 25, 3) := by decide +kernel
theorem dX9_notebook_4 : decode cX9_notebook 4 = .ok (.iload_n 1, 1) := by decide +kernel
theorem dX9_notebook_5 : decode cX9_notebook 5 = .ok (.iconst 1, 1) := by decide +kernel
theorem dX9_notebook_6 : decode cX9_notebook 6 = .ok (.sipush 200, 3) := by decide +kernel
theorem dX9_notebook_9 : decode cX9_notebook 9 = .ok (.invokevirtual 119, 3) := by decide +kernel
theorem dX9_notebook_12 : decode cX9_notebook 12 = .ok (.ifCond .ne 5, 3) := by decide +kernel
theorem dX9_notebook_15 : decode cX9_notebook 15 = .ok (.iconst (-1), 1) := by decide +kernel
theorem dX9_notebook_16 : decode cX9_notebook 16 = .ok (.ireturn, 1) := by decide +kernel
theorem dX9_notebook_17 : decode cX9_notebook 17 = .ok (.aload_n 0, 1) := by decide +kernel
theorem dX9_notebook_18 : decode cX9_notebook 18 = .ok (.getfield 25, 3) := by decide +kernel
theorem dX9_notebook_21 : decode cX9_notebook 21 = .ok (.iload_n 1, 1) := by decide +kernel
theorem dX9_notebook_22 : decode cX9_notebook 22 = .ok (.invokevirtual 123, 3) := by decide +kernel
theorem dX9_notebook_25 : decode cX9_notebook 25 = .ok (.aload_n 0, 1) := by decide +kernel
theorem dX9_notebook_26 : decode cX9_notebook 26 = .ok (.getfield 25, 3) := by decide +kernel
theorem dX9_notebook_29 : decode cX9_notebook 29 = .ok (.aload_n 0, 1) := by decide +kernel
theorem dX9_notebook_30 : decode cX9_notebook 30 = .ok (.getfield 19, 3) := by decide +kernel
theorem dX9_notebook_33 : decode cX9_notebook 33 = .ok (.invokestatic 130, 3) := by decide +kernel
theorem dX9_notebook_36 : decode cX9_notebook 36 = .ok (.istore_n 2, 1) := by decide +kernel
theorem dX9_notebook_37 : decode cX9_notebook 37 = .ok (.iload_n 2, 1) := by decide +kernel
theorem dX9_notebook_38 : decode cX9_notebook 38 = .ok (.ifCond .le 14, 3) := by decide +kernel
theorem dX9_notebook_41 : decode cX9_notebook 41 = .ok (.aload_n 0, 1) := by decide +kernel
theorem dX9_notebook_42 : decode cX9_notebook 42 = .ok (.getfield 10, 3) := by decide +kernel
theorem dX9_notebook_45 : decode cX9_notebook 45 = .ok (.aload_n 0, 1) := by decide +kernel
theorem dX9_notebook_46 : decode cX9_notebook 46 = .ok (.getfield 19, 3) := by decide +kernel
theorem dX9_notebook_49 : decode cX9_notebook 49 = .ok (.invokevirtual 134, 3) := by decide +kernel
theorem dX9_notebook_52 : decode cX9_notebook 52 = .ok (.iload_n 2, 1) := by decide +kernel
theorem dX9_notebook_53 : decode cX9_notebook 53 = .ok (.ireturn, 1) := by decide +kernel
theorem dX9_nights_0 : decode cX9_nights 0 = .ok (.iload_n 1, 1) := by decide +kernel
theorem dX9_nights_1 : decode cX9_nights 1 = .ok (.invokestatic 138, 3) := by decide +kernel
theorem dX9_nights_4 : decode cX9_nights 4 = .ok (.ifCond .ne 5, 3) := by decide +kernel
theorem dX9_nights_7 : decode cX9_nights 7 = .ok (.iconst (-1), 1) := by decide +kernel
theorem dX9_nights_8 : decode cX9_nights 8 = .ok (.ireturn, 1) := by decide +kernel
theorem dX9_nights_9 : decode cX9_nights 9 = .ok (.aload_n 0, 1) := by decide +kernel
theorem dX9_nights_10 : decode cX9_nights 10 = .ok (.getfield 32, 3) := by decide +kernel
theorem dX9_nights_13 : decode cX9_nights 13 = .ok (.aload_n 0, 1) := by decide +kernel
theorem dX9_nights_14 : decode cX9_nights 14 = .ok (.getfield 10, 3) := by decide +kernel
theorem dX9_nights_17 : decode cX9_nights 17 = .ok (.aload_n 0, 1) := by decide +kernel
theorem dX9_nights_18 : decode cX9_nights 18 = .ok (.getfield 71, 3) := by decide +kernel
theorem dX9_nights_21 : decode cX9_nights 21 = .ok (.iload_n 1, 1) := by decide +kernel
theorem dX9_nights_22 : decode cX9_nights 22 = .ok (.invokevirtual 141, 3) := by decide +kernel
theorem dX9_nights_25 : decode cX9_nights 25 = .ok (.aload_n 0, 1) := by decide +kernel
theorem dX9_nights_26 : decode cX9_nights 26 = .ok (.getfield 32, 3) := by decide +kernel
theorem dX9_nights_29 : decode cX9_nights 29 = .ok (.getfield 145, 3) := by decide +kernel
theorem dX9_nights_32 : decode cX9_nights 32 = .ok (.ireturn, 1) := by decide +kernel
theorem dX9_tried_0 : decode cX9_tried 0 = .ok (.iload_n 2, 1) := by decide +kernel
theorem dX9_tried_1 : decode cX9_tried 1 = .ok (.bipush 100, 2) := by decide +kernel
theorem dX9_tried_3 : decode cX9_tried 3 = .ok (.if_icmp .lt 21, 3) := by decide +kernel
theorem dX9_tried_6 : decode cX9_tried 6 = .ok (.aload_n 0, 1) := by decide +kernel
theorem dX9_tried_7 : decode cX9_tried 7 = .ok (.getfield 10, 3) := by decide +kernel
theorem dX9_tried_10 : decode cX9_tried 10 = .ok (.iload_n 2, 1) := by decide +kernel
theorem dX9_tried_11 : decode cX9_tried 11 = .ok (.bipush 100, 2) := by decide +kernel
theorem dX9_tried_13 : decode cX9_tried 13 = .ok (.isub, 1) := by decide +kernel
theorem dX9_tried_14 : decode cX9_tried 14 = .ok (.invokevirtual 98, 3) := by decide +kernel
theorem dX9_tried_17 : decode cX9_tried 17 = .ok (.ifCond .eq 7, 3) := by decide +kernel
theorem dX9_tried_20 : decode cX9_tried 20 = .ok (.iconst 1, 1) := by decide +kernel
theorem dX9_tried_21 : decode cX9_tried 21 = .ok (.goto 4, 3) := by decide +kernel
theorem dX9_tried_24 : decode cX9_tried 24 = .ok (.iconst 0, 1) := by decide +kernel
theorem dX9_tried_25 : decode cX9_tried 25 = .ok (.istore_n 3, 1) := by decide +kernel
theorem dX9_tried_26 : decode cX9_tried 26 = .ok (.iload_n 2, 1) := by decide +kernel
theorem dX9_tried_27 : decode cX9_tried 27 = .ok (.sipush 200, 3) := by decide +kernel
theorem dX9_tried_30 : decode cX9_tried 30 = .ok (.if_icmp .lt 22, 3) := by decide +kernel
theorem dX9_tried_33 : decode cX9_tried 33 = .ok (.aload_n 0, 1) := by decide +kernel
theorem dX9_tried_34 : decode cX9_tried 34 = .ok (.getfield 10, 3) := by decide +kernel
theorem dX9_tried_37 : decode cX9_tried 37 = .ok (.iload_n 2, 1) := by decide +kernel
theorem dX9_tried_38 : decode cX9_tried 38 = .ok (.sipush 200, 3) := by decide +kernel
theorem dX9_tried_41 : decode cX9_tried 41 = .ok (.isub, 1) := by decide +kernel
theorem dX9_tried_42 : decode cX9_tried 42 = .ok (.invokevirtual 98, 3) := by decide +kernel
theorem dX9_tried_45 : decode cX9_tried 45 = .ok (.ifCond .eq 7, 3) := by decide +kernel
theorem dX9_tried_48 : decode cX9_tried 48 = .ok (.iconst 1, 1) := by decide +kernel
theorem dX9_tried_49 : decode cX9_tried 49 = .ok (.goto 4, 3) := by decide +kernel
theorem dX9_tried_52 : decode cX9_tried 52 = .ok (.iconst 0, 1) := by decide +kernel
theorem dX9_tried_53 : decode cX9_tried 53 = .ok (.istore 4, 2) := by decide +kernel
theorem dX9_tried_55 : decode cX9_tried 55 = .ok (.iload_n 1, 1) := by decide +kernel
theorem dX9_tried_56 : decode cX9_tried 56 = .ok (.invokestatic 138, 3) := by decide +kernel
theorem dX9_tried_59 : decode cX9_tried 59 = .ok (.ifCond .eq 21, 3) := by decide +kernel
theorem dX9_tried_62 : decode cX9_tried 62 = .ok (.iload_n 2, 1) := by decide +kernel
theorem dX9_tried_63 : decode cX9_tried 63 = .ok (.ifCond .lt 8, 3) := by decide +kernel
theorem dX9_tried_66 : decode cX9_tried 66 = .ok (.iload_n 2, 1) := by decide +kernel
theorem dX9_tried_67 : decode cX9_tried 67 = .ok (.iconst 3, 1) := by decide +kernel
theorem dX9_tried_68 : decode cX9_tried 68 = .ok (.if_icmp .le 15, 3) := by decide +kernel
theorem dX9_tried_71 : decode cX9_tried 71 = .ok (.iload_n 3, 1) := by decide +kernel
theorem dX9_tried_72 : decode cX9_tried 72 = .ok (.ifCond .ne 11, 3) := by decide +kernel
theorem dX9_tried_75 : decode cX9_tried 75 = .ok (.iload 4, 2) := by decide +kernel
theorem dX9_tried_77 : decode cX9_tried 77 = .ok (.ifCond .ne 6, 3) := by decide +kernel
theorem dX9_tried_80 : decode cX9_tried 80 = .ok (.ldc 148, 2) := by decide +kernel
theorem dX9_tried_82 : decode cX9_tried 82 = .ok (.ireturn, 1) := by decide +kernel
theorem dX9_tried_83 : decode cX9_tried 83 = .ok (.aload_n 0, 1) := by decide +kernel
theorem dX9_tried_84 : decode cX9_tried 84 = .ok (.getfield 19, 3) := by decide +kernel
theorem dX9_tried_87 : decode cX9_tried 87 = .ok (.aload_n 0, 1) := by decide +kernel
theorem dX9_tried_88 : decode cX9_tried 88 = .ok (.getfield 10, 3) := by decide +kernel
theorem dX9_tried_91 : decode cX9_tried 91 = .ok (.invokevirtual 149, 3) := by decide +kernel
theorem dX9_tried_94 : decode cX9_tried 94 = .ok (.aload_n 0, 1) := by decide +kernel
theorem dX9_tried_95 : decode cX9_tried 95 = .ok (.getfield 32, 3) := by decide +kernel
theorem dX9_tried_98 : decode cX9_tried 98 = .ok (.aload_n 0, 1) := by decide +kernel
theorem dX9_tried_99 : decode cX9_tried 99 = .ok (.getfield 19, 3) := by decide +kernel
theorem dX9_tried_102 : decode cX9_tried 102 = .ok (.aload_n 0, 1) := by decide +kernel
theorem dX9_tried_103 : decode cX9_tried 103 = .ok (.getfield 71, 3) := by decide +kernel
theorem dX9_tried_106 : decode cX9_tried 106 = .ok (.iload_n 1, 1) := by decide +kernel
theorem dX9_tried_107 : decode cX9_tried 107 = .ok (.invokevirtual 141, 3) := by decide +kernel
theorem dX9_tried_110 : decode cX9_tried 110 = .ok (.iload_n 3, 1) := by decide +kernel
theorem dX9_tried_111 : decode cX9_tried 111 = .ok (.ifCond .eq 16, 3) := by decide +kernel
theorem dX9_tried_114 : decode cX9_tried 114 = .ok (.aload_n 0, 1) := by decide +kernel
theorem dX9_tried_115 : decode cX9_tried 115 = .ok (.getfield 19, 3) := by decide +kernel
theorem dX9_tried_118 : decode cX9_tried 118 = .ok (.getfield 152, 3) := by decide +kernel
theorem dX9_tried_121 : decode cX9_tried 121 = .ok (.iload_n 2, 1) := by decide +kernel
theorem dX9_tried_122 : decode cX9_tried 122 = .ok (.bipush 100, 2) := by decide +kernel
theorem dX9_tried_124 : decode cX9_tried 124 = .ok (.isub, 1) := by decide +kernel
theorem dX9_tried_125 : decode cX9_tried 125 = .ok (.iaload, 1) := by decide +kernel
theorem dX9_tried_126 : decode cX9_tried 126 = .ok (.ireturn, 1) := by decide +kernel
theorem dX9_tried_127 : decode cX9_tried 127 = .ok (.iload 4, 2) := by decide +kernel
theorem dX9_tried_129 : decode cX9_tried 129 = .ok (.ifCond .eq 17, 3) := by decide +kernel
theorem dX9_tried_132 : decode cX9_tried 132 = .ok (.aload_n 0, 1) := by decide +kernel
theorem dX9_tried_133 : decode cX9_tried 133 = .ok (.getfield 19, 3) := by decide +kernel
theorem dX9_tried_136 : decode cX9_tried 136 = .ok (.getfield 155, 3) := by decide +kernel
theorem dX9_tried_139 : decode cX9_tried 139 = .ok (.iload_n 2, 1) := by decide +kernel
theorem dX9_tried_140 : decode cX9_tried 140 = .ok (.sipush 200, 3) := by decide +kernel
theorem dX9_tried_143 : decode cX9_tried 143 = .ok (.isub, 1) := by decide +kernel
theorem dX9_tried_144 : decode cX9_tried 144 = .ok (.iaload, 1) := by decide +kernel
theorem dX9_tried_145 : decode cX9_tried 145 = .ok (.ireturn, 1) := by decide +kernel
theorem dX9_tried_146 : decode cX9_tried 146 = .ok (.iload_n 2, 1) := by decide +kernel
theorem dX9_tried_147 : decode cX9_tried 147 = .ok (.tableswitch 49 0 2 #[25, 33, 41], 25) := by decide +kernel
theorem dX9_tried_172 : decode cX9_tried 172 = .ok (.aload_n 0, 1) := by decide +kernel
theorem dX9_tried_173 : decode cX9_tried 173 = .ok (.getfield 32, 3) := by decide +kernel
theorem dX9_tried_176 : decode cX9_tried 176 = .ok (.getfield 145, 3) := by decide +kernel
theorem dX9_tried_179 : decode cX9_tried 179 = .ok (.ireturn, 1) := by decide +kernel
theorem dX9_tried_180 : decode cX9_tried 180 = .ok (.aload_n 0, 1) := by decide +kernel
theorem dX9_tried_181 : decode cX9_tried 181 = .ok (.getfield 32, 3) := by decide +kernel
theorem dX9_tried_184 : decode cX9_tried 184 = .ok (.getfield 158, 3) := by decide +kernel
theorem dX9_tried_187 : decode cX9_tried 187 = .ok (.ireturn, 1) := by decide +kernel
theorem dX9_tried_188 : decode cX9_tried 188 = .ok (.aload_n 0, 1) := by decide +kernel
theorem dX9_tried_189 : decode cX9_tried 189 = .ok (.getfield 19, 3) := by decide +kernel
theorem dX9_tried_192 : decode cX9_tried 192 = .ok (.invokevirtual 161, 3) := by decide +kernel
theorem dX9_tried_195 : decode cX9_tried 195 = .ok (.ireturn, 1) := by decide +kernel
theorem dX9_tried_196 : decode cX9_tried 196 = .ok (.aload_n 0, 1) := by decide +kernel
theorem dX9_tried_197 : decode cX9_tried 197 = .ok (.getfield 19, 3) := by decide +kernel
theorem dX9_tried_200 : decode cX9_tried 200 = .ok (.invokevirtual 165, 3) := by decide +kernel
theorem dX9_tried_203 : decode cX9_tried 203 = .ok (.aload_n 0, 1) := by decide +kernel
theorem dX9_tried_204 : decode cX9_tried 204 = .ok (.getfield 10, 3) := by decide +kernel
theorem dX9_tried_207 : decode cX9_tried 207 = .ok (.invokevirtual 165, 3) := by decide +kernel
theorem dX9_tried_210 : decode cX9_tried 210 = .ok (.isub, 1) := by decide +kernel
theorem dX9_tried_211 : decode cX9_tried 211 = .ok (.ireturn, 1) := by decide +kernel
theorem dX9_stoneIs_0 : decode cX9_stoneIs 0 = .ok (.aload_n 0, 1) := by decide +kernel
theorem dX9_stoneIs_1 : decode cX9_stoneIs 1 = .ok (.getfield 10, 3) := by decide +kernel
theorem dX9_stoneIs_4 : decode cX9_stoneIs 4 = .ok (.iload_n 1, 1) := by decide +kernel
theorem dX9_stoneIs_5 : decode cX9_stoneIs 5 = .ok (.invokevirtual 98, 3) := by decide +kernel
theorem dX9_stoneIs_8 : decode cX9_stoneIs 8 = .ok (.ifCond .ne 5, 3) := by decide +kernel
theorem dX9_stoneIs_11 : decode cX9_stoneIs 11 = .ok (.iconst (-1), 1) := by decide +kernel
theorem dX9_stoneIs_12 : decode cX9_stoneIs 12 = .ok (.ireturn, 1) := by decide +kernel
theorem dX9_stoneIs_13 : decode cX9_stoneIs 13 = .ok (.iload_n 2, 1) := by decide +kernel
theorem dX9_stoneIs_14 : decode cX9_stoneIs 14 = .ok (.tableswitch 91 0 4 #[34, 44, 54, 64, 82], 34) := by decide +kernel
theorem dX9_stoneIs_48 : decode cX9_stoneIs 48 = .ok (.aload_n 0, 1) := by decide +kernel
theorem dX9_stoneIs_49 : decode cX9_stoneIs 49 = .ok (.getfield 10, 3) := by decide +kernel
theorem dX9_stoneIs_52 : decode cX9_stoneIs 52 = .ok (.getfield 152, 3) := by decide +kernel
theorem dX9_stoneIs_55 : decode cX9_stoneIs 55 = .ok (.iload_n 1, 1) := by decide +kernel
theorem dX9_stoneIs_56 : decode cX9_stoneIs 56 = .ok (.iaload, 1) := by decide +kernel
theorem dX9_stoneIs_57 : decode cX9_stoneIs 57 = .ok (.ireturn, 1) := by decide +kernel
theorem dX9_stoneIs_58 : decode cX9_stoneIs 58 = .ok (.aload_n 0, 1) := by decide +kernel
theorem dX9_stoneIs_59 : decode cX9_stoneIs 59 = .ok (.getfield 10, 3) := by decide +kernel
theorem dX9_stoneIs_62 : decode cX9_stoneIs 62 = .ok (.getfield 155, 3) := by decide +kernel
theorem dX9_stoneIs_65 : decode cX9_stoneIs 65 = .ok (.iload_n 1, 1) := by decide +kernel
theorem dX9_stoneIs_66 : decode cX9_stoneIs 66 = .ok (.iaload, 1) := by decide +kernel
theorem dX9_stoneIs_67 : decode cX9_stoneIs 67 = .ok (.ireturn, 1) := by decide +kernel
theorem dX9_stoneIs_68 : decode cX9_stoneIs 68 = .ok (.aload_n 0, 1) := by decide +kernel
theorem dX9_stoneIs_69 : decode cX9_stoneIs 69 = .ok (.getfield 10, 3) := by decide +kernel
theorem dX9_stoneIs_72 : decode cX9_stoneIs 72 = .ok (.getfield 168, 3) := by decide +kernel
theorem dX9_stoneIs_75 : decode cX9_stoneIs 75 = .ok (.iload_n 1, 1) := by decide +kernel
theorem dX9_stoneIs_76 : decode cX9_stoneIs 76 = .ok (.iaload, 1) := by decide +kernel
theorem dX9_stoneIs_77 : decode cX9_stoneIs 77 = .ok (.ireturn, 1) := by decide +kernel
theorem dX9_stoneIs_78 : decode cX9_stoneIs 78 = .ok (.aload_n 0, 1) := by decide +kernel
theorem dX9_stoneIs_79 : decode cX9_stoneIs 79 = .ok (.getfield 10, 3) := by decide +kernel
theorem dX9_stoneIs_82 : decode cX9_stoneIs 82 = .ok (.getfield 105, 3) := by decide +kernel
theorem dX9_stoneIs_85 : decode cX9_stoneIs 85 = .ok (.iload_n 1, 1) := by decide +kernel
theorem dX9_stoneIs_86 : decode cX9_stoneIs 86 = .ok (.baload, 1) := by decide +kernel
theorem dX9_stoneIs_87 : decode cX9_stoneIs 87 = .ok (.ifCond .eq 7, 3) := by decide +kernel
theorem dX9_stoneIs_90 : decode cX9_stoneIs 90 = .ok (.iconst 1, 1) := by decide +kernel
theorem dX9_stoneIs_91 : decode cX9_stoneIs 91 = .ok (.goto 4, 3) := by decide +kernel
theorem dX9_stoneIs_94 : decode cX9_stoneIs 94 = .ok (.iconst 0, 1) := by decide +kernel
theorem dX9_stoneIs_95 : decode cX9_stoneIs 95 = .ok (.ireturn, 1) := by decide +kernel
theorem dX9_stoneIs_96 : decode cX9_stoneIs 96 = .ok (.aload_n 0, 1) := by decide +kernel
theorem dX9_stoneIs_97 : decode cX9_stoneIs 97 = .ok (.getfield 10, 3) := by decide +kernel
theorem dX9_stoneIs_100 : decode cX9_stoneIs 100 = .ok (.iload_n 1, 1) := by decide +kernel
theorem dX9_stoneIs_101 : decode cX9_stoneIs 101 = .ok (.invokevirtual 171, 3) := by decide +kernel
theorem dX9_stoneIs_104 : decode cX9_stoneIs 104 = .ok (.ireturn, 1) := by decide +kernel
theorem dX9_stoneIs_105 : decode cX9_stoneIs 105 = .ok (.iconst (-1), 1) := by decide +kernel
theorem dX9_stoneIs_106 : decode cX9_stoneIs 106 = .ok (.ireturn, 1) := by decide +kernel
theorem dX9_at_0 : decode cX9_at 0 = .ok (.iload_n 1, 1) := by decide +kernel
theorem dX9_at_1 : decode cX9_at 1 = .ok (.iload_n 2, 1) := by decide +kernel
theorem dX9_at_2 : decode cX9_at 2 = .ok (.invokestatic 86, 3) := by decide +kernel
theorem dX9_at_5 : decode cX9_at 5 = .ok (.ifCond .ne 5, 3) := by decide +kernel
theorem dX9_at_8 : decode cX9_at 8 = .ok (.iconst (-1), 1) := by decide +kernel
theorem dX9_at_9 : decode cX9_at 9 = .ok (.ireturn, 1) := by decide +kernel
theorem dX9_at_10 : decode cX9_at 10 = .ok (.aload_n 0, 1) := by decide +kernel
theorem dX9_at_11 : decode cX9_at 11 = .ok (.getfield 10, 3) := by decide +kernel
theorem dX9_at_14 : decode cX9_at 14 = .ok (.iload_n 1, 1) := by decide +kernel
theorem dX9_at_15 : decode cX9_at 15 = .ok (.iload_n 2, 1) := by decide +kernel
theorem dX9_at_16 : decode cX9_at 16 = .ok (.invokevirtual 90, 3) := by decide +kernel
theorem dX9_at_19 : decode cX9_at 19 = .ok (.istore_n 3, 1) := by decide +kernel
theorem dX9_at_20 : decode cX9_at 20 = .ok (.iload_n 3, 1) := by decide +kernel
theorem dX9_at_21 : decode cX9_at 21 = .ok (.iconst (-1), 1) := by decide +kernel
theorem dX9_at_22 : decode cX9_at 22 = .ok (.if_icmp .ne 8, 3) := by decide +kernel
theorem dX9_at_25 : decode cX9_at 25 = .ok (.bipush (-2), 2) := by decide +kernel
theorem dX9_at_27 : decode cX9_at 27 = .ok (.goto 4, 3) := by decide +kernel
theorem dX9_at_30 : decode cX9_at 30 = .ok (.iload_n 3, 1) := by decide +kernel
theorem dX9_at_31 : decode cX9_at 31 = .ok (.ireturn, 1) := by decide +kernel
theorem dX9_cross_0 : decode cX9_cross 0 = .ok (.aload_n 0, 1) := by decide +kernel
theorem dX9_cross_1 : decode cX9_cross 1 = .ok (.iload_n 1, 1) := by decide +kernel
theorem dX9_cross_2 : decode cX9_cross 2 = .ok (.invokevirtual 175, 3) := by decide +kernel
theorem dX9_cross_5 : decode cX9_cross 5 = .ok (.istore_n 3, 1) := by decide +kernel
theorem dX9_cross_6 : decode cX9_cross 6 = .ok (.iload_n 3, 1) := by decide +kernel
theorem dX9_cross_7 : decode cX9_cross 7 = .ok (.ifCond .eq 22, 3) := by decide +kernel
theorem dX9_cross_10 : decode cX9_cross 10 = .ok (.iload_n 2, 1) := by decide +kernel
theorem dX9_cross_11 : decode cX9_cross 11 = .ok (.invokestatic 82, 3) := by decide +kernel
theorem dX9_cross_14 : decode cX9_cross 14 = .ok (.ifCond .ne 17, 3) := by decide +kernel
theorem dX9_cross_17 : decode cX9_cross 17 = .ok (.iload_n 2, 1) := by decide +kernel
theorem dX9_cross_18 : decode cX9_cross 18 = .ok (.bipush 100, 2) := by decide +kernel
theorem dX9_cross_20 : decode cX9_cross 20 = .ok (.if_icmp .eq 11, 3) := by decide +kernel
theorem dX9_cross_23 : decode cX9_cross 23 = .ok (.iload_n 2, 1) := by decide +kernel
theorem dX9_cross_24 : decode cX9_cross 24 = .ok (.bipush 101, 2) := by decide +kernel
theorem dX9_cross_26 : decode cX9_cross 26 = .ok (.if_icmp .eq 5, 3) := by decide +kernel
theorem dX9_cross_29 : decode cX9_cross 29 = .ok (.iconst (-1), 1) := by decide +kernel
theorem dX9_cross_30 : decode cX9_cross 30 = .ok (.ireturn, 1) := by decide +kernel
theorem dX9_cross_31 : decode cX9_cross 31 = .ok (.aload_n 0, 1) := by decide +kernel
theorem dX9_cross_32 : decode cX9_cross 32 = .ok (.getfield 39, 3) := by decide +kernel
theorem dX9_cross_35 : decode cX9_cross 35 = .ok (.aload_n 0, 1) := by decide +kernel
theorem dX9_cross_36 : decode cX9_cross 36 = .ok (.getfield 10, 3) := by decide +kernel
theorem dX9_cross_39 : decode cX9_cross 39 = .ok (.iload_n 3, 1) := by decide +kernel
theorem dX9_cross_40 : decode cX9_cross 40 = .ok (.iload_n 2, 1) := by decide +kernel
theorem dX9_cross_41 : decode cX9_cross 41 = .ok (.invokevirtual 178, 3) := by decide +kernel
theorem dX9_cross_44 : decode cX9_cross 44 = .ok (.ireturn, 1) := by decide +kernel
theorem dX9_driest_0 : decode cX9_driest 0 = .ok (.aload_n 0, 1) := by decide +kernel
theorem dX9_driest_1 : decode cX9_driest 1 = .ok (.iload_n 1, 1) := by decide +kernel
theorem dX9_driest_2 : decode cX9_driest 2 = .ok (.invokevirtual 175, 3) := by decide +kernel
theorem dX9_driest_5 : decode cX9_driest 5 = .ok (.istore_n 3, 1) := by decide +kernel
theorem dX9_driest_6 : decode cX9_driest 6 = .ok (.iload_n 3, 1) := by decide +kernel
theorem dX9_driest_7 : decode cX9_driest 7 = .ok (.ifCond .eq 10, 3) := by decide +kernel
theorem dX9_driest_10 : decode cX9_driest 10 = .ok (.iload_n 2, 1) := by decide +kernel
theorem dX9_driest_11 : decode cX9_driest 11 = .ok (.invokestatic 182, 3) := by decide +kernel
theorem dX9_driest_14 : decode cX9_driest 14 = .ok (.ifCond .ne 5, 3) := by decide +kernel
theorem dX9_driest_17 : decode cX9_driest 17 = .ok (.iconst (-1), 1) := by decide +kernel
theorem dX9_driest_18 : decode cX9_driest 18 = .ok (.ireturn, 1) := by decide +kernel
theorem dX9_driest_19 : decode cX9_driest 19 = .ok (.aload_n 0, 1) := by decide +kernel
theorem dX9_driest_20 : decode cX9_driest 20 = .ok (.getfield 39, 3) := by decide +kernel
theorem dX9_driest_23 : decode cX9_driest 23 = .ok (.aload_n 0, 1) := by decide +kernel
theorem dX9_driest_24 : decode cX9_driest 24 = .ok (.getfield 10, 3) := by decide +kernel
theorem dX9_driest_27 : decode cX9_driest 27 = .ok (.iload_n 3, 1) := by decide +kernel
theorem dX9_driest_28 : decode cX9_driest 28 = .ok (.iload_n 2, 1) := by decide +kernel
theorem dX9_driest_29 : decode cX9_driest 29 = .ok (.invokevirtual 185, 3) := by decide +kernel
theorem dX9_driest_32 : decode cX9_driest 32 = .ok (.ireturn, 1) := by decide +kernel
theorem dX9_howFar_0 : decode cX9_howFar 0 = .ok (.aload_n 0, 1) := by decide +kernel
theorem dX9_howFar_1 : decode cX9_howFar 1 = .ok (.iload_n 1, 1) := by decide +kernel
theorem dX9_howFar_2 : decode cX9_howFar 2 = .ok (.invokevirtual 175, 3) := by decide +kernel
theorem dX9_howFar_5 : decode cX9_howFar 5 = .ok (.istore_n 2, 1) := by decide +kernel
theorem dX9_howFar_6 : decode cX9_howFar 6 = .ok (.iload_n 2, 1) := by decide +kernel
theorem dX9_howFar_7 : decode cX9_howFar 7 = .ok (.ifCond .ne 7, 3) := by decide +kernel
theorem dX9_howFar_10 : decode cX9_howFar 10 = .ok (.iconst (-1), 1) := by decide +kernel
theorem dX9_howFar_11 : decode cX9_howFar 11 = .ok (.goto 15, 3) := by decide +kernel
theorem dX9_howFar_14 : decode cX9_howFar 14 = .ok (.aload_n 0, 1) := by decide +kernel
theorem dX9_howFar_15 : decode cX9_howFar 15 = .ok (.getfield 39, 3) := by decide +kernel
theorem dX9_howFar_18 : decode cX9_howFar 18 = .ok (.aload_n 0, 1) := by decide +kernel
theorem dX9_howFar_19 : decode cX9_howFar 19 = .ok (.getfield 10, 3) := by decide +kernel
theorem dX9_howFar_22 : decode cX9_howFar 22 = .ok (.iload_n 2, 1) := by decide +kernel
theorem dX9_howFar_23 : decode cX9_howFar 23 = .ok (.invokevirtual 192, 3) := by decide +kernel
theorem dX9_howFar_26 : decode cX9_howFar 26 = .ok (.ireturn, 1) := by decide +kernel
theorem dX9_hold_0 : decode cX9_hold 0 = .ok (.aload_n 0, 1) := by decide +kernel
theorem dX9_hold_1 : decode cX9_hold 1 = .ok (.iload_n 1, 1) := by decide +kernel
theorem dX9_hold_2 : decode cX9_hold 2 = .ok (.invokevirtual 175, 3) := by decide +kernel
theorem dX9_hold_5 : decode cX9_hold 5 = .ok (.istore_n 2, 1) := by decide +kernel
theorem dX9_hold_6 : decode cX9_hold 6 = .ok (.iload_n 2, 1) := by decide +kernel
theorem dX9_hold_7 : decode cX9_hold 7 = .ok (.ifCond .ne 5, 3) := by decide +kernel
theorem dX9_hold_10 : decode cX9_hold 10 = .ok (.iconst (-1), 1) := by decide +kernel
theorem dX9_hold_11 : decode cX9_hold 11 = .ok (.ireturn, 1) := by decide +kernel
theorem dX9_hold_12 : decode cX9_hold 12 = .ok (.iload_n 2, 1) := by decide +kernel
theorem dX9_hold_13 : decode cX9_hold 13 = .ok (.bipush 21, 2) := by decide +kernel
theorem dX9_hold_15 : decode cX9_hold 15 = .ok (.if_icmp .lt 8, 3) := by decide +kernel
theorem dX9_hold_18 : decode cX9_hold 18 = .ok (.bipush (-2), 2) := by decide +kernel
theorem dX9_hold_20 : decode cX9_hold 20 = .ok (.goto 15, 3) := by decide +kernel
theorem dX9_hold_23 : decode cX9_hold 23 = .ok (.aload_n 0, 1) := by decide +kernel
theorem dX9_hold_24 : decode cX9_hold 24 = .ok (.getfield 46, 3) := by decide +kernel
theorem dX9_hold_27 : decode cX9_hold 27 = .ok (.aload_n 0, 1) := by decide +kernel
theorem dX9_hold_28 : decode cX9_hold 28 = .ok (.getfield 10, 3) := by decide +kernel
theorem dX9_hold_31 : decode cX9_hold 31 = .ok (.iload_n 2, 1) := by decide +kernel
theorem dX9_hold_32 : decode cX9_hold 32 = .ok (.invokevirtual 196, 3) := by decide +kernel
theorem dX9_hold_35 : decode cX9_hold 35 = .ok (.ireturn, 1) := by decide +kernel
theorem dX9_oneMore_0 : decode cX9_oneMore 0 = .ok (.aload_n 0, 1) := by decide +kernel
theorem dX9_oneMore_1 : decode cX9_oneMore 1 = .ok (.iload_n 1, 1) := by decide +kernel
theorem dX9_oneMore_2 : decode cX9_oneMore 2 = .ok (.invokevirtual 175, 3) := by decide +kernel
theorem dX9_oneMore_5 : decode cX9_oneMore 5 = .ok (.istore_n 3, 1) := by decide +kernel
theorem dX9_oneMore_6 : decode cX9_oneMore 6 = .ok (.iload_n 3, 1) := by decide +kernel
theorem dX9_oneMore_7 : decode cX9_oneMore 7 = .ok (.ifCond .eq 10, 3) := by decide +kernel
theorem dX9_oneMore_10 : decode cX9_oneMore 10 = .ok (.iload_n 2, 1) := by decide +kernel
theorem dX9_oneMore_11 : decode cX9_oneMore 11 = .ok (.invokestatic 182, 3) := by decide +kernel
theorem dX9_oneMore_14 : decode cX9_oneMore 14 = .ok (.ifCond .ne 5, 3) := by decide +kernel
theorem dX9_oneMore_17 : decode cX9_oneMore 17 = .ok (.iconst (-1), 1) := by decide +kernel
theorem dX9_oneMore_18 : decode cX9_oneMore 18 = .ok (.ireturn, 1) := by decide +kernel
theorem dX9_oneMore_19 : decode cX9_oneMore 19 = .ok (.aload_n 0, 1) := by decide +kernel
theorem dX9_oneMore_20 : decode cX9_oneMore 20 = .ok (.getfield 39, 3) := by decide +kernel
theorem dX9_oneMore_23 : decode cX9_oneMore 23 = .ok (.aload_n 0, 1) := by decide +kernel
theorem dX9_oneMore_24 : decode cX9_oneMore 24 = .ok (.getfield 10, 3) := by decide +kernel
theorem dX9_oneMore_27 : decode cX9_oneMore 27 = .ok (.iload_n 3, 1) := by decide +kernel
theorem dX9_oneMore_28 : decode cX9_oneMore 28 = .ok (.iload_n 2, 1) := by decide +kernel
theorem dX9_oneMore_29 : decode cX9_oneMore 29 = .ok (.invokevirtual 199, 3) := by decide +kernel
theorem dX9_oneMore_32 : decode cX9_oneMore 32 = .ok (.ireturn, 1) := by decide +kernel
theorem dX9_key_0 : decode cX9_key 0 = .ok (.aload_n 0, 1) := by decide +kernel
theorem dX9_key_1 : decode cX9_key 1 = .ok (.iload_n 1, 1) := by decide +kernel
theorem dX9_key_2 : decode cX9_key 2 = .ok (.invokevirtual 175, 3) := by decide +kernel
theorem dX9_key_5 : decode cX9_key 5 = .ok (.istore_n 3, 1) := by decide +kernel
theorem dX9_key_6 : decode cX9_key 6 = .ok (.iload_n 3, 1) := by decide +kernel
theorem dX9_key_7 : decode cX9_key 7 = .ok (.ifCond .eq 10, 3) := by decide +kernel
theorem dX9_key_10 : decode cX9_key 10 = .ok (.iload_n 2, 1) := by decide +kernel
theorem dX9_key_11 : decode cX9_key 11 = .ok (.invokestatic 182, 3) := by decide +kernel
theorem dX9_key_14 : decode cX9_key 14 = .ok (.ifCond .ne 5, 3) := by decide +kernel
theorem dX9_key_17 : decode cX9_key 17 = .ok (.iconst (-1), 1) := by decide +kernel
theorem dX9_key_18 : decode cX9_key 18 = .ok (.ireturn, 1) := by decide +kernel
theorem dX9_key_19 : decode cX9_key 19 = .ok (.aload_n 0, 1) := by decide +kernel
theorem dX9_key_20 : decode cX9_key 20 = .ok (.getfield 39, 3) := by decide +kernel
theorem dX9_key_23 : decode cX9_key 23 = .ok (.aload_n 0, 1) := by decide +kernel
theorem dX9_key_24 : decode cX9_key 24 = .ok (.getfield 10, 3) := by decide +kernel
theorem dX9_key_27 : decode cX9_key 27 = .ok (.iload_n 3, 1) := by decide +kernel
theorem dX9_key_28 : decode cX9_key 28 = .ok (.invokevirtual 188, 3) := by decide +kernel
theorem dX9_key_31 : decode cX9_key 31 = .ok (.ifCond .ne 6, 3) := by decide +kernel
theorem dX9_key_34 : decode cX9_key 34 = .ok (.bipush (-3), 2) := by decide +kernel
theorem dX9_key_36 : decode cX9_key 36 = .ok (.ireturn, 1) := by decide +kernel
theorem dX9_key_37 : decode cX9_key 37 = .ok (.aload_n 0, 1) := by decide +kernel
theorem dX9_key_38 : decode cX9_key 38 = .ok (.getfield 19, 3) := by decide +kernel
theorem dX9_key_41 : decode cX9_key 41 = .ok (.aload_n 0, 1) := by decide +kernel
theorem dX9_key_42 : decode cX9_key 42 = .ok (.getfield 10, 3) := by decide +kernel
theorem dX9_key_45 : decode cX9_key 45 = .ok (.invokevirtual 149, 3) := by decide +kernel
theorem dX9_key_48 : decode cX9_key 48 = .ok (.iconst 0, 1) := by decide +kernel
theorem dX9_key_49 : decode cX9_key 49 = .ok (.istore 4, 2) := by decide +kernel
theorem dX9_key_51 : decode cX9_key 51 = .ok (.bipush (-2), 2) := by decide +kernel
theorem dX9_key_53 : decode cX9_key 53 = .ok (.istore 5, 2) := by decide +kernel
theorem dX9_key_55 : decode cX9_key 55 = .ok (.bipush 39, 2) := by decide +kernel
theorem dX9_key_57 : decode cX9_key 57 = .ok (.istore 6, 2) := by decide +kernel
theorem dX9_key_59 : decode cX9_key 59 = .ok (.iload 6, 2) := by decide +kernel
theorem dX9_key_61 : decode cX9_key 61 = .ok (.ifCond .lt 33, 3) := by decide +kernel
theorem dX9_key_64 : decode cX9_key 64 = .ok (.aload_n 0, 1) := by decide +kernel
theorem dX9_key_65 : decode cX9_key 65 = .ok (.getfield 39, 3) := by decide +kernel
theorem dX9_key_68 : decode cX9_key 68 = .ok (.aload_n 0, 1) := by decide +kernel
theorem dX9_key_69 : decode cX9_key 69 = .ok (.getfield 19, 3) := by decide +kernel
theorem dX9_key_72 : decode cX9_key 72 = .ok (.iload_n 3, 1) := by decide +kernel
theorem dX9_key_73 : decode cX9_key 73 = .ok (.iload 6, 2) := by decide +kernel
theorem dX9_key_75 : decode cX9_key 75 = .ok (.invokevirtual 208, 3) := by decide +kernel
theorem dX9_key_78 : decode cX9_key 78 = .ok (.ifCond .eq 10, 3) := by decide +kernel
theorem dX9_key_81 : decode cX9_key 81 = .ok (.iinc 4 1, 3) := by decide +kernel
theorem dX9_key_84 : decode cX9_key 84 = .ok (.iload 6, 2) := by decide +kernel
theorem dX9_key_86 : decode cX9_key 86 = .ok (.istore 5, 2) := by decide +kernel
theorem dX9_key_88 : decode cX9_key 88 = .ok (.iinc 6 (-1), 3) := by decide +kernel
theorem dX9_key_91 : decode cX9_key 91 = .ok (.goto (-32), 3) := by decide +kernel
theorem dX9_key_94 : decode cX9_key 94 = .ok (.iload_n 2, 1) := by decide +kernel
theorem dX9_key_95 : decode cX9_key 95 = .ok (.ifCond .ne 8, 3) := by decide +kernel
theorem dX9_key_98 : decode cX9_key 98 = .ok (.iload 4, 2) := by decide +kernel
theorem dX9_key_100 : decode cX9_key 100 = .ok (.goto 5, 3) := by decide +kernel
theorem dX9_key_103 : decode cX9_key 103 = .ok (.iload 5, 2) := by decide +kernel
theorem dX9_key_105 : decode cX9_key 105 = .ok (.ireturn, 1) := by decide +kernel
theorem dX9_firstNight_0 : decode cX9_firstNight 0 = .ok (.aload_n 0, 1) := by decide +kernel
theorem dX9_firstNight_1 : decode cX9_firstNight 1 = .ok (.iload_n 1, 1) := by decide +kernel
theorem dX9_firstNight_2 : decode cX9_firstNight 2 = .ok (.invokevirtual 175, 3) := by decide +kernel
theorem dX9_firstNight_5 : decode cX9_firstNight 5 = .ok (.istore_n 2, 1) := by decide +kernel
theorem dX9_firstNight_6 : decode cX9_firstNight 6 = .ok (.iload_n 2, 1) := by decide +kernel
theorem dX9_firstNight_7 : decode cX9_firstNight 7 = .ok (.ifCond .ne 5, 3) := by decide +kernel
theorem dX9_firstNight_10 : decode cX9_firstNight 10 = .ok (.iconst (-1), 1) := by decide +kernel
theorem dX9_firstNight_11 : decode cX9_firstNight 11 = .ok (.ireturn, 1) := by decide +kernel
theorem dX9_firstNight_12 : decode cX9_firstNight 12 = .ok (.aload_n 0, 1) := by decide +kernel
theorem dX9_firstNight_13 : decode cX9_firstNight 13 = .ok (.getfield 19, 3) := by decide +kernel
theorem dX9_firstNight_16 : decode cX9_firstNight 16 = .ok (.aload_n 0, 1) := by decide +kernel
theorem dX9_firstNight_17 : decode cX9_firstNight 17 = .ok (.getfield 10, 3) := by decide +kernel
theorem dX9_firstNight_20 : decode cX9_firstNight 20 = .ok (.invokevirtual 149, 3) := by decide +kernel
theorem dX9_firstNight_23 : decode cX9_firstNight 23 = .ok (.iconst 0, 1) := by decide +kernel
theorem dX9_firstNight_24 : decode cX9_firstNight 24 = .ok (.istore_n 3, 1) := by decide +kernel
theorem dX9_firstNight_25 : decode cX9_firstNight 25 = .ok (.iload_n 3, 1) := by decide +kernel
theorem dX9_firstNight_26 : decode cX9_firstNight 26 = .ok (.bipush 60, 2) := by decide +kernel
theorem dX9_firstNight_28 : decode cX9_firstNight 28 = .ok (.if_icmp .gt 42, 3) := by decide +kernel
theorem dX9_firstNight_31 : decode cX9_firstNight 31 = .ok (.aload_n 0, 1) := by decide +kernel
theorem dX9_firstNight_32 : decode cX9_firstNight 32 = .ok (.getfield 39, 3) := by decide +kernel
theorem dX9_firstNight_35 : decode cX9_firstNight 35 = .ok (.aload_n 0, 1) := by decide +kernel
theorem dX9_firstNight_36 : decode cX9_firstNight 36 = .ok (.getfield 19, 3) := by decide +kernel
theorem dX9_firstNight_39 : decode cX9_firstNight 39 = .ok (.iload_n 2, 1) := by decide +kernel
theorem dX9_firstNight_40 : decode cX9_firstNight 40 = .ok (.invokevirtual 188, 3) := by decide +kernel
theorem dX9_firstNight_43 : decode cX9_firstNight 43 = .ok (.ifCond .eq 5, 3) := by decide +kernel
theorem dX9_firstNight_46 : decode cX9_firstNight 46 = .ok (.iload_n 3, 1) := by decide +kernel
theorem dX9_firstNight_47 : decode cX9_firstNight 47 = .ok (.ireturn, 1) := by decide +kernel
theorem dX9_firstNight_48 : decode cX9_firstNight 48 = .ok (.aload_n 0, 1) := by decide +kernel
theorem dX9_firstNight_49 : decode cX9_firstNight 49 = .ok (.getfield 32, 3) := by decide +kernel
theorem dX9_firstNight_52 : decode cX9_firstNight 52 = .ok (.aload_n 0, 1) := by decide +kernel
theorem dX9_firstNight_53 : decode cX9_firstNight 53 = .ok (.getfield 19, 3) := by decide +kernel
theorem dX9_firstNight_56 : decode cX9_firstNight 56 = .ok (.aload_n 0, 1) := by decide +kernel
theorem dX9_firstNight_57 : decode cX9_firstNight 57 = .ok (.getfield 71, 3) := by decide +kernel
theorem dX9_firstNight_60 : decode cX9_firstNight 60 = .ok (.iconst 1, 1) := by decide +kernel
theorem dX9_firstNight_61 : decode cX9_firstNight 61 = .ok (.invokevirtual 141, 3) := by decide +kernel
theorem dX9_firstNight_64 : decode cX9_firstNight 64 = .ok (.iinc 3 1, 3) := by decide +kernel
theorem dX9_firstNight_67 : decode cX9_firstNight 67 = .ok (.goto (-42), 3) := by decide +kernel
theorem dX9_firstNight_70 : decode cX9_firstNight 70 = .ok (.bipush (-2), 2) := by decide +kernel
theorem dX9_firstNight_72 : decode cX9_firstNight 72 = .ok (.ireturn, 1) := by decide +kernel
theorem dX9_walk_0 : decode cX9_walk 0 = .ok (.aload_n 0, 1) := by decide +kernel
theorem dX9_walk_1 : decode cX9_walk 1 = .ok (.iload_n 1, 1) := by decide +kernel
theorem dX9_walk_2 : decode cX9_walk 2 = .ok (.invokevirtual 175, 3) := by decide +kernel
theorem dX9_walk_5 : decode cX9_walk 5 = .ok (.istore 5, 2) := by decide +kernel
theorem dX9_walk_7 : decode cX9_walk 7 = .ok (.iload 5, 2) := by decide +kernel
theorem dX9_walk_9 : decode cX9_walk 9 = .ok (.ifCond .eq 38, 3) := by decide +kernel
theorem dX9_walk_12 : decode cX9_walk 12 = .ok (.iload_n 2, 1) := by decide +kernel
theorem dX9_walk_13 : decode cX9_walk 13 = .ok (.ifCond .lt 34, 3) := by decide +kernel
theorem dX9_walk_16 : decode cX9_walk 16 = .ok (.iload_n 2, 1) := by decide +kernel
theorem dX9_walk_17 : decode cX9_walk 17 = .ok (.bipush 39, 2) := by decide +kernel
theorem dX9_walk_19 : decode cX9_walk 19 = .ok (.if_icmp .gt 28, 3) := by decide +kernel
theorem dX9_walk_22 : decode cX9_walk 22 = .ok (.iload 4, 2) := by decide +kernel
theorem dX9_walk_24 : decode cX9_walk 24 = .ok (.ifCond .lt 23, 3) := by decide +kernel
theorem dX9_walk_27 : decode cX9_walk 27 = .ok (.iload 4, 2) := by decide +kernel
theorem dX9_walk_29 : decode cX9_walk 29 = .ok (.iconst 3, 1) := by decide +kernel
theorem dX9_walk_30 : decode cX9_walk 30 = .ok (.if_icmp .gt 17, 3) := by decide +kernel
theorem dX9_walk_33 : decode cX9_walk 33 = .ok (.aload_n 0, 1) := by decide +kernel
theorem dX9_walk_34 : decode cX9_walk 34 = .ok (.getfield 25, 3) := by decide +kernel
theorem dX9_walk_37 : decode cX9_walk 37 = .ok (.iload_n 3, 1) := by decide +kernel
theorem dX9_walk_38 : decode cX9_walk 38 = .ok (.iconst 1, 1) := by decide +kernel
theorem dX9_walk_39 : decode cX9_walk 39 = .ok (.bipush 60, 2) := by decide +kernel
theorem dX9_walk_41 : decode cX9_walk 41 = .ok (.invokevirtual 119, 3) := by decide +kernel
theorem dX9_walk_44 : decode cX9_walk 44 = .ok (.ifCond .ne 5, 3) := by decide +kernel
theorem dX9_walk_47 : decode cX9_walk 47 = .ok (.iconst (-1), 1) := by decide +kernel
theorem dX9_walk_48 : decode cX9_walk 48 = .ok (.ireturn, 1) := by decide +kernel
theorem dX9_walk_49 : decode cX9_walk 49 = .ok (.aload_n 0, 1) := by decide +kernel
theorem dX9_walk_50 : decode cX9_walk 50 = .ok (.getfield 25, 3) := by decide +kernel
theorem dX9_walk_53 : decode cX9_walk 53 = .ok (.iload_n 3, 1) := by decide +kernel
theorem dX9_walk_54 : decode cX9_walk 54 = .ok (.invokevirtual 123, 3) := by decide +kernel
theorem dX9_walk_57 : decode cX9_walk 57 = .ok (.aload_n 0, 1) := by decide +kernel
theorem dX9_walk_58 : decode cX9_walk 58 = .ok (.getfield 53, 3) := by decide +kernel
theorem dX9_walk_61 : decode cX9_walk 61 = .ok (.aload_n 0, 1) := by decide +kernel
theorem dX9_walk_62 : decode cX9_walk 62 = .ok (.getfield 25, 3) := by decide +kernel
theorem dX9_walk_65 : decode cX9_walk 65 = .ok (.invokevirtual 216, 3) := by decide +kernel
theorem dX9_walk_68 : decode cX9_walk 68 = .ok (.ifCond .ne 11, 3) := by decide +kernel
theorem dX9_walk_71 : decode cX9_walk 71 = .ok (.aload_n 0, 1) := by decide +kernel
theorem dX9_walk_72 : decode cX9_walk 72 = .ok (.getfield 25, 3) := by decide +kernel
theorem dX9_walk_75 : decode cX9_walk 75 = .ok (.getfield 220, 3) := by decide +kernel
theorem dX9_walk_78 : decode cX9_walk 78 = .ok (.ireturn, 1) := by decide +kernel
theorem dX9_walk_79 : decode cX9_walk 79 = .ok (.aload_n 0, 1) := by decide +kernel
theorem dX9_walk_80 : decode cX9_walk 80 = .ok (.getfield 53, 3) := by decide +kernel
theorem dX9_walk_83 : decode cX9_walk 83 = .ok (.aload_n 0, 1) := by decide +kernel
theorem dX9_walk_84 : decode cX9_walk 84 = .ok (.getfield 10, 3) := by decide +kernel
theorem dX9_walk_87 : decode cX9_walk 87 = .ok (.iload 5, 2) := by decide +kernel
theorem dX9_walk_89 : decode cX9_walk 89 = .ok (.iload_n 2, 1) := by decide +kernel
theorem dX9_walk_90 : decode cX9_walk 90 = .ok (.invokevirtual 223, 3) := by decide +kernel
theorem dX9_walk_93 : decode cX9_walk 93 = .ok (.iload 4, 2) := by decide +kernel
theorem dX9_walk_95 : decode cX9_walk 95 = .ok (.tableswitch 49 0 2 #[25, 33, 41], 25) := by decide +kernel
theorem dX9_walk_120 : decode cX9_walk 120 = .ok (.aload_n 0, 1) := by decide +kernel
theorem dX9_walk_121 : decode cX9_walk 121 = .ok (.getfield 53, 3) := by decide +kernel
theorem dX9_walk_124 : decode cX9_walk 124 = .ok (.getfield 227, 3) := by decide +kernel
theorem dX9_walk_127 : decode cX9_walk 127 = .ok (.ireturn, 1) := by decide +kernel
theorem dX9_walk_128 : decode cX9_walk 128 = .ok (.aload_n 0, 1) := by decide +kernel
theorem dX9_walk_129 : decode cX9_walk 129 = .ok (.getfield 53, 3) := by decide +kernel
theorem dX9_walk_132 : decode cX9_walk 132 = .ok (.getfield 230, 3) := by decide +kernel
theorem dX9_walk_135 : decode cX9_walk 135 = .ok (.ireturn, 1) := by decide +kernel
theorem dX9_walk_136 : decode cX9_walk 136 = .ok (.aload_n 0, 1) := by decide +kernel
theorem dX9_walk_137 : decode cX9_walk 137 = .ok (.getfield 53, 3) := by decide +kernel
theorem dX9_walk_140 : decode cX9_walk 140 = .ok (.getfield 232, 3) := by decide +kernel
theorem dX9_walk_143 : decode cX9_walk 143 = .ok (.ireturn, 1) := by decide +kernel
theorem dX9_walk_144 : decode cX9_walk 144 = .ok (.aload_n 0, 1) := by decide +kernel
theorem dX9_walk_145 : decode cX9_walk 145 = .ok (.getfield 53, 3) := by decide +kernel
theorem dX9_walk_148 : decode cX9_walk 148 = .ok (.getfield 230, 3) := by decide +kernel
theorem dX9_walk_151 : decode cX9_walk 151 = .ok (.bipush 21, 2) := by decide +kernel
theorem dX9_walk_153 : decode cX9_walk 153 = .ok (.if_icmp .ne 7, 3) := by decide +kernel
theorem dX9_walk_156 : decode cX9_walk 156 = .ok (.iconst 1, 1) := by decide +kernel
theorem dX9_walk_157 : decode cX9_walk 157 = .ok (.goto 4, 3) := by decide +kernel
theorem dX9_walk_160 : decode cX9_walk 160 = .ok (.iconst 0, 1) := by decide +kernel
theorem dX9_walk_161 : decode cX9_walk 161 = .ok (.ireturn, 1) := by decide +kernel
theorem dX9_meet_0 : decode cX9_meet 0 = .ok (.aload_n 0, 1) := by decide +kernel
theorem dX9_meet_1 : decode cX9_meet 1 = .ok (.iload_n 1, 1) := by decide +kernel
theorem dX9_meet_2 : decode cX9_meet 2 = .ok (.invokevirtual 175, 3) := by decide +kernel
theorem dX9_meet_5 : decode cX9_meet 5 = .ok (.istore 4, 2) := by decide +kernel
theorem dX9_meet_7 : decode cX9_meet 7 = .ok (.aload_n 0, 1) := by decide +kernel
theorem dX9_meet_8 : decode cX9_meet 8 = .ok (.iload_n 2, 1) := by decide +kernel
theorem dX9_meet_9 : decode cX9_meet 9 = .ok (.invokevirtual 175, 3) := by decide +kernel
theorem dX9_meet_12 : decode cX9_meet 12 = .ok (.istore 5, 2) := by decide +kernel
theorem dX9_meet_14 : decode cX9_meet 14 = .ok (.iload 4, 2) := by decide +kernel
theorem dX9_meet_16 : decode cX9_meet 16 = .ok (.ifCond .eq 15, 3) := by decide +kernel
theorem dX9_meet_19 : decode cX9_meet 19 = .ok (.iload 5, 2) := by decide +kernel
theorem dX9_meet_21 : decode cX9_meet 21 = .ok (.ifCond .eq 10, 3) := by decide +kernel
theorem dX9_meet_24 : decode cX9_meet 24 = .ok (.iload_n 3, 1) := by decide +kernel
theorem dX9_meet_25 : decode cX9_meet 25 = .ok (.invokestatic 182, 3) := by decide +kernel
theorem dX9_meet_28 : decode cX9_meet 28 = .ok (.ifCond .ne 5, 3) := by decide +kernel
theorem dX9_meet_31 : decode cX9_meet 31 = .ok (.iconst (-1), 1) := by decide +kernel
theorem dX9_meet_32 : decode cX9_meet 32 = .ok (.ireturn, 1) := by decide +kernel
theorem dX9_meet_33 : decode cX9_meet 33 = .ok (.aload_n 0, 1) := by decide +kernel
theorem dX9_meet_34 : decode cX9_meet 34 = .ok (.getfield 39, 3) := by decide +kernel
theorem dX9_meet_37 : decode cX9_meet 37 = .ok (.aload_n 0, 1) := by decide +kernel
theorem dX9_meet_38 : decode cX9_meet 38 = .ok (.getfield 10, 3) := by decide +kernel
theorem dX9_meet_41 : decode cX9_meet 41 = .ok (.iload 4, 2) := by decide +kernel
theorem dX9_meet_43 : decode cX9_meet 43 = .ok (.iload 5, 2) := by decide +kernel
theorem dX9_meet_45 : decode cX9_meet 45 = .ok (.iload_n 3, 1) := by decide +kernel
theorem dX9_meet_46 : decode cX9_meet 46 = .ok (.invokevirtual 212, 3) := by decide +kernel
theorem dX9_meet_49 : decode cX9_meet 49 = .ok (.ireturn, 1) := by decide +kernel
theorem dX9_leastStride_0 : decode cX9_leastStride 0 = .ok (.iconst 1, 1) := by decide +kernel
theorem dX9_leastStride_1 : decode cX9_leastStride 1 = .ok (.istore_n 1, 1) := by decide +kernel
theorem dX9_leastStride_2 : decode cX9_leastStride 2 = .ok (.iload_n 1, 1) := by decide +kernel
theorem dX9_leastStride_3 : decode cX9_leastStride 3 = .ok (.bipush 30, 2) := by decide +kernel
theorem dX9_leastStride_5 : decode cX9_leastStride 5 = .ok (.if_icmp .gt 26, 3) := by decide +kernel
theorem dX9_leastStride_8 : decode cX9_leastStride 8 = .ok (.aload_n 0, 1) := by decide +kernel
theorem dX9_leastStride_9 : decode cX9_leastStride 9 = .ok (.getfield 39, 3) := by decide +kernel
theorem dX9_leastStride_12 : decode cX9_leastStride 12 = .ok (.aload_n 0, 1) := by decide +kernel
theorem dX9_leastStride_13 : decode cX9_leastStride 13 = .ok (.getfield 10, 3) := by decide +kernel
theorem dX9_leastStride_16 : decode cX9_leastStride 16 = .ok (.iload_n 1, 1) := by decide +kernel
theorem dX9_leastStride_17 : decode cX9_leastStride 17 = .ok (.invokevirtual 188, 3) := by decide +kernel
theorem dX9_leastStride_20 : decode cX9_leastStride 20 = .ok (.ifCond .eq 5, 3) := by decide +kernel
theorem dX9_leastStride_23 : decode cX9_leastStride 23 = .ok (.iload_n 1, 1) := by decide +kernel
theorem dX9_leastStride_24 : decode cX9_leastStride 24 = .ok (.ireturn, 1) := by decide +kernel
theorem dX9_leastStride_25 : decode cX9_leastStride 25 = .ok (.iinc 1 1, 3) := by decide +kernel
theorem dX9_leastStride_28 : decode cX9_leastStride 28 = .ok (.goto (-26), 3) := by decide +kernel
theorem dX9_leastStride_31 : decode cX9_leastStride 31 = .ok (.bipush (-2), 2) := by decide +kernel
theorem dX9_leastStride_33 : decode cX9_leastStride 33 = .ok (.ireturn, 1) := by decide +kernel
theorem dX9_islands_0 : decode cX9_islands 0 = .ok (.iload_n 1, 1) := by decide +kernel
theorem dX9_islands_1 : decode cX9_islands 1 = .ok (.invokestatic 108, 3) := by decide +kernel
theorem dX9_islands_4 : decode cX9_islands 4 = .ok (.ifCond .ne 5, 3) := by decide +kernel
theorem dX9_islands_7 : decode cX9_islands 7 = .ok (.iconst (-1), 1) := by decide +kernel
theorem dX9_islands_8 : decode cX9_islands 8 = .ok (.ireturn, 1) := by decide +kernel
theorem dX9_islands_9 : decode cX9_islands 9 = .ok (.iload_n 2, 1) := by decide +kernel
theorem dX9_islands_10 : decode cX9_islands 10 = .ok (.bipush 100, 2) := by decide +kernel
theorem dX9_islands_12 : decode cX9_islands 12 = .ok (.if_icmp .ne 16, 3) := by decide +kernel
theorem dX9_islands_15 : decode cX9_islands 15 = .ok (.aload_n 0, 1) := by decide +kernel
theorem dX9_islands_16 : decode cX9_islands 16 = .ok (.getfield 39, 3) := by decide +kernel
theorem dX9_islands_19 : decode cX9_islands 19 = .ok (.aload_n 0, 1) := by decide +kernel
theorem dX9_islands_20 : decode cX9_islands 20 = .ok (.getfield 10, 3) := by decide +kernel
theorem dX9_islands_23 : decode cX9_islands 23 = .ok (.iload_n 1, 1) := by decide +kernel
theorem dX9_islands_24 : decode cX9_islands 24 = .ok (.invokevirtual 202, 3) := by decide +kernel
theorem dX9_islands_27 : decode cX9_islands 27 = .ok (.ireturn, 1) := by decide +kernel
theorem dX9_islands_28 : decode cX9_islands 28 = .ok (.aload_n 0, 1) := by decide +kernel
theorem dX9_islands_29 : decode cX9_islands 29 = .ok (.getfield 10, 3) := by decide +kernel
theorem dX9_islands_32 : decode cX9_islands 32 = .ok (.iload_n 2, 1) := by decide +kernel
theorem dX9_islands_33 : decode cX9_islands 33 = .ok (.invokevirtual 98, 3) := by decide +kernel
theorem dX9_islands_36 : decode cX9_islands 36 = .ok (.ifCond .eq 19, 3) := by decide +kernel
theorem dX9_islands_39 : decode cX9_islands 39 = .ok (.aload_n 0, 1) := by decide +kernel
theorem dX9_islands_40 : decode cX9_islands 40 = .ok (.getfield 39, 3) := by decide +kernel
theorem dX9_islands_43 : decode cX9_islands 43 = .ok (.aload_n 0, 1) := by decide +kernel
theorem dX9_islands_44 : decode cX9_islands 44 = .ok (.getfield 10, 3) := by decide +kernel
theorem dX9_islands_47 : decode cX9_islands 47 = .ok (.iload_n 1, 1) := by decide +kernel
theorem dX9_islands_48 : decode cX9_islands 48 = .ok (.iload_n 2, 1) := by decide +kernel
theorem dX9_islands_49 : decode cX9_islands 49 = .ok (.invokevirtual 205, 3) := by decide +kernel
theorem dX9_islands_52 : decode cX9_islands 52 = .ok (.goto 4, 3) := by decide +kernel
theorem dX9_islands_55 : decode cX9_islands 55 = .ok (.iconst (-1), 1) := by decide +kernel
theorem dX9_islands_56 : decode cX9_islands 56 = .ok (.ireturn, 1) := by decide +kernel
theorem dX9_market_0 : decode cX9_market 0 = .ok (.iconst 0, 1) := by decide +kernel
theorem dX9_market_1 : decode cX9_market 1 = .ok (.istore_n 1, 1) := by decide +kernel
theorem dX9_market_2 : decode cX9_market 2 = .ok (.iconst 0, 1) := by decide +kernel
theorem dX9_market_3 : decode cX9_market 3 = .ok (.istore_n 2, 1) := by decide +kernel
theorem dX9_market_4 : decode cX9_market 4 = .ok (.iload_n 2, 1) := by decide +kernel
theorem dX9_market_5 : decode cX9_market 5 = .ok (.bipush 8, 2) := by decide +kernel
theorem dX9_market_7 : decode cX9_market 7 = .ok (.if_icmp .ge 44, 3) := by decide +kernel
theorem dX9_market_10 : decode cX9_market 10 = .ok (.aload_n 0, 1) := by decide +kernel
theorem dX9_market_11 : decode cX9_market 11 = .ok (.getfield 64, 3) := by decide +kernel
theorem dX9_market_14 : decode cX9_market 14 = .ok (.iload_n 2, 1) := by decide +kernel
theorem dX9_market_15 : decode cX9_market 15 = .ok (.iaload, 1) := by decide +kernel
theorem dX9_market_16 : decode cX9_market 16 = .ok (.ifCond .eq 29, 3) := by decide +kernel
theorem dX9_market_19 : decode cX9_market 19 = .ok (.aload_n 0, 1) := by decide +kernel
theorem dX9_market_20 : decode cX9_market 20 = .ok (.getfield 39, 3) := by decide +kernel
theorem dX9_market_23 : decode cX9_market 23 = .ok (.aload_n 0, 1) := by decide +kernel
theorem dX9_market_24 : decode cX9_market 24 = .ok (.getfield 10, 3) := by decide +kernel
theorem dX9_market_27 : decode cX9_market 27 = .ok (.aload_n 0, 1) := by decide +kernel
theorem dX9_market_28 : decode cX9_market 28 = .ok (.getfield 64, 3) := by decide +kernel
theorem dX9_market_31 : decode cX9_market 31 = .ok (.iload_n 2, 1) := by decide +kernel
theorem dX9_market_32 : decode cX9_market 32 = .ok (.iaload, 1) := by decide +kernel
theorem dX9_market_33 : decode cX9_market 33 = .ok (.invokevirtual 188, 3) := by decide +kernel
theorem dX9_market_36 : decode cX9_market 36 = .ok (.ifCond .eq 9, 3) := by decide +kernel
theorem dX9_market_39 : decode cX9_market 39 = .ok (.iload_n 1, 1) := by decide +kernel
theorem dX9_market_40 : decode cX9_market 40 = .ok (.iconst 1, 1) := by decide +kernel
theorem dX9_market_41 : decode cX9_market 41 = .ok (.iload_n 2, 1) := by decide +kernel
theorem dX9_market_42 : decode cX9_market 42 = .ok (.ishl, 1) := by decide +kernel
theorem dX9_market_43 : decode cX9_market 43 = .ok (.ior, 1) := by decide +kernel
theorem dX9_market_44 : decode cX9_market 44 = .ok (.istore_n 1, 1) := by decide +kernel
theorem dX9_market_45 : decode cX9_market 45 = .ok (.iinc 2 1, 3) := by decide +kernel
theorem dX9_market_48 : decode cX9_market 48 = .ok (.goto (-44), 3) := by decide +kernel
theorem dX9_market_51 : decode cX9_market 51 = .ok (.iload_n 1, 1) := by decide +kernel
theorem dX9_market_52 : decode cX9_market 52 = .ok (.ireturn, 1) := by decide +kernel
theorem dX9_chalk_0 : decode cX9_chalk 0 = .ok (.iload_n 1, 1) := by decide +kernel
theorem dX9_chalk_1 : decode cX9_chalk 1 = .ok (.iconst 1, 1) := by decide +kernel
theorem dX9_chalk_2 : decode cX9_chalk 2 = .ok (.if_icmp .lt 25, 3) := by decide +kernel
theorem dX9_chalk_5 : decode cX9_chalk 5 = .ok (.iload_n 1, 1) := by decide +kernel
theorem dX9_chalk_6 : decode cX9_chalk 6 = .ok (.bipush 7, 2) := by decide +kernel
theorem dX9_chalk_8 : decode cX9_chalk 8 = .ok (.if_icmp .gt 19, 3) := by decide +kernel
theorem dX9_chalk_11 : decode cX9_chalk 11 = .ok (.aload_n 0, 1) := by decide +kernel
theorem dX9_chalk_12 : decode cX9_chalk 12 = .ok (.getfield 25, 3) := by decide +kernel
theorem dX9_chalk_15 : decode cX9_chalk 15 = .ok (.iconst 2, 1) := by decide +kernel
theorem dX9_chalk_16 : decode cX9_chalk 16 = .ok (.iload_n 1, 1) := by decide +kernel
theorem dX9_chalk_17 : decode cX9_chalk 17 = .ok (.imul, 1) := by decide +kernel
theorem dX9_chalk_18 : decode cX9_chalk 18 = .ok (.iconst 2, 1) := by decide +kernel
theorem dX9_chalk_19 : decode cX9_chalk 19 = .ok (.bipush 14, 2) := by decide +kernel
theorem dX9_chalk_21 : decode cX9_chalk 21 = .ok (.invokevirtual 119, 3) := by decide +kernel
theorem dX9_chalk_24 : decode cX9_chalk 24 = .ok (.ifCond .ne 5, 3) := by decide +kernel
theorem dX9_chalk_27 : decode cX9_chalk 27 = .ok (.iconst (-1), 1) := by decide +kernel
theorem dX9_chalk_28 : decode cX9_chalk 28 = .ok (.ireturn, 1) := by decide +kernel
theorem dX9_chalk_29 : decode cX9_chalk 29 = .ok (.iload_n 2, 1) := by decide +kernel
theorem dX9_chalk_30 : decode cX9_chalk 30 = .ok (.bipush 100, 2) := by decide +kernel
theorem dX9_chalk_32 : decode cX9_chalk 32 = .ok (.if_icmp .eq 14, 3) := by decide +kernel
theorem dX9_chalk_35 : decode cX9_chalk 35 = .ok (.iload_n 2, 1) := by decide +kernel
theorem dX9_chalk_36 : decode cX9_chalk 36 = .ok (.ifCond .lt 8, 3) := by decide +kernel
theorem dX9_chalk_39 : decode cX9_chalk 39 = .ok (.iload_n 2, 1) := by decide +kernel
theorem dX9_chalk_40 : decode cX9_chalk 40 = .ok (.iload_n 1, 1) := by decide +kernel
theorem dX9_chalk_41 : decode cX9_chalk 41 = .ok (.if_icmp .lt 5, 3) := by decide +kernel
theorem dX9_chalk_44 : decode cX9_chalk 44 = .ok (.iconst (-1), 1) := by decide +kernel
theorem dX9_chalk_45 : decode cX9_chalk 45 = .ok (.ireturn, 1) := by decide +kernel
theorem dX9_chalk_46 : decode cX9_chalk 46 = .ok (.aload_n 0, 1) := by decide +kernel
theorem dX9_chalk_47 : decode cX9_chalk 47 = .ok (.getfield 25, 3) := by decide +kernel
theorem dX9_chalk_50 : decode cX9_chalk 50 = .ok (.iconst 2, 1) := by decide +kernel
theorem dX9_chalk_51 : decode cX9_chalk 51 = .ok (.iload_n 1, 1) := by decide +kernel
theorem dX9_chalk_52 : decode cX9_chalk 52 = .ok (.imul, 1) := by decide +kernel
theorem dX9_chalk_53 : decode cX9_chalk 53 = .ok (.invokevirtual 123, 3) := by decide +kernel
theorem dX9_chalk_56 : decode cX9_chalk 56 = .ok (.aload_n 0, 1) := by decide +kernel
theorem dX9_chalk_57 : decode cX9_chalk 57 = .ok (.getfield 10, 3) := by decide +kernel
theorem dX9_chalk_60 : decode cX9_chalk 60 = .ok (.invokevirtual 234, 3) := by decide +kernel
theorem dX9_chalk_63 : decode cX9_chalk 63 = .ok (.iload_n 1, 1) := by decide +kernel
theorem dX9_chalk_64 : decode cX9_chalk 64 = .ok (.if_icmp .ge 6, 3) := by decide +kernel
theorem dX9_chalk_67 : decode cX9_chalk 67 = .ok (.bipush (-2), 2) := by decide +kernel
theorem dX9_chalk_69 : decode cX9_chalk 69 = .ok (.ireturn, 1) := by decide +kernel
theorem dX9_chalk_70 : decode cX9_chalk 70 = .ok (.aload_n 0, 1) := by decide +kernel
theorem dX9_chalk_71 : decode cX9_chalk 71 = .ok (.getfield 60, 3) := by decide +kernel
theorem dX9_chalk_74 : decode cX9_chalk 74 = .ok (.aload_n 0, 1) := by decide +kernel
theorem dX9_chalk_75 : decode cX9_chalk 75 = .ok (.getfield 25, 3) := by decide +kernel
theorem dX9_chalk_78 : decode cX9_chalk 78 = .ok (.iload_n 1, 1) := by decide +kernel
theorem dX9_chalk_79 : decode cX9_chalk 79 = .ok (.invokevirtual 237, 3) := by decide +kernel
theorem dX9_chalk_82 : decode cX9_chalk 82 = .ok (.ifCond .ne 6, 3) := by decide +kernel
theorem dX9_chalk_85 : decode cX9_chalk 85 = .ok (.bipush (-3), 2) := by decide +kernel
theorem dX9_chalk_87 : decode cX9_chalk 87 = .ok (.ireturn, 1) := by decide +kernel
theorem dX9_chalk_88 : decode cX9_chalk 88 = .ok (.aload_n 0, 1) := by decide +kernel
theorem dX9_chalk_89 : decode cX9_chalk 89 = .ok (.getfield 60, 3) := by decide +kernel
theorem dX9_chalk_92 : decode cX9_chalk 92 = .ok (.aload_n 0, 1) := by decide +kernel
theorem dX9_chalk_93 : decode cX9_chalk 93 = .ok (.getfield 10, 3) := by decide +kernel
theorem dX9_chalk_96 : decode cX9_chalk 96 = .ok (.iload_n 1, 1) := by decide +kernel
theorem dX9_chalk_97 : decode cX9_chalk 97 = .ok (.invokevirtual 240, 3) := by decide +kernel
theorem dX9_chalk_100 : decode cX9_chalk 100 = .ok (.iload_n 2, 1) := by decide +kernel
theorem dX9_chalk_101 : decode cX9_chalk 101 = .ok (.bipush 100, 2) := by decide +kernel
theorem dX9_chalk_103 : decode cX9_chalk 103 = .ok (.if_icmp .ne 13, 3) := by decide +kernel
theorem dX9_chalk_106 : decode cX9_chalk 106 = .ok (.aload_n 0, 1) := by decide +kernel
theorem dX9_chalk_107 : decode cX9_chalk 107 = .ok (.getfield 60, 3) := by decide +kernel
theorem dX9_chalk_110 : decode cX9_chalk 110 = .ok (.invokevirtual 244, 3) := by decide +kernel
theorem dX9_chalk_113 : decode cX9_chalk 113 = .ok (.goto 12, 3) := by decide +kernel
theorem dX9_chalk_116 : decode cX9_chalk 116 = .ok (.aload_n 0, 1) := by decide +kernel
theorem dX9_chalk_117 : decode cX9_chalk 117 = .ok (.getfield 60, 3) := by decide +kernel
theorem dX9_chalk_120 : decode cX9_chalk 120 = .ok (.iload_n 1, 1) := by decide +kernel
theorem dX9_chalk_121 : decode cX9_chalk 121 = .ok (.iload_n 2, 1) := by decide +kernel
theorem dX9_chalk_122 : decode cX9_chalk 122 = .ok (.invokevirtual 247, 3) := by decide +kernel
theorem dX9_chalk_125 : decode cX9_chalk 125 = .ok (.ireturn, 1) := by decide +kernel
theorem dX9_shape_0 : decode cX9_shape 0 = .ok (.iload_n 1, 1) := by decide +kernel
theorem dX9_shape_1 : decode cX9_shape 1 = .ok (.tableswitch 63 0 3 #[31, 39, 47, 55], 31) := by decide +kernel
theorem dX9_shape_32 : decode cX9_shape 32 = .ok (.aload_n 0, 1) := by decide +kernel
theorem dX9_shape_33 : decode cX9_shape 33 = .ok (.getfield 10, 3) := by decide +kernel
theorem dX9_shape_36 : decode cX9_shape 36 = .ok (.invokestatic 250, 3) := by decide +kernel
theorem dX9_shape_39 : decode cX9_shape 39 = .ok (.ireturn, 1) := by decide +kernel
theorem dX9_shape_40 : decode cX9_shape 40 = .ok (.aload_n 0, 1) := by decide +kernel
theorem dX9_shape_41 : decode cX9_shape 41 = .ok (.getfield 10, 3) := by decide +kernel
theorem dX9_shape_44 : decode cX9_shape 44 = .ok (.invokestatic 256, 3) := by decide +kernel
theorem dX9_shape_47 : decode cX9_shape 47 = .ok (.ireturn, 1) := by decide +kernel
theorem dX9_shape_48 : decode cX9_shape 48 = .ok (.aload_n 0, 1) := by decide +kernel
theorem dX9_shape_49 : decode cX9_shape 49 = .ok (.getfield 10, 3) := by decide +kernel
theorem dX9_shape_52 : decode cX9_shape 52 = .ok (.invokestatic 259, 3) := by decide +kernel
theorem dX9_shape_55 : decode cX9_shape 55 = .ok (.ireturn, 1) := by decide +kernel
theorem dX9_shape_56 : decode cX9_shape 56 = .ok (.aload_n 0, 1) := by decide +kernel
theorem dX9_shape_57 : decode cX9_shape 57 = .ok (.getfield 10, 3) := by decide +kernel
theorem dX9_shape_60 : decode cX9_shape 60 = .ok (.invokestatic 262, 3) := by decide +kernel
theorem dX9_shape_63 : decode cX9_shape 63 = .ok (.ireturn, 1) := by decide +kernel
theorem dX9_shape_64 : decode cX9_shape 64 = .ok (.iconst (-1), 1) := by decide +kernel
theorem dX9_shape_65 : decode cX9_shape 65 = .ok (.ireturn, 1) := by decide +kernel
theorem dX9_letters_0 : decode cX9_letters 0 = .ok (.iload_n 2, 1) := by decide +kernel
theorem dX9_letters_1 : decode cX9_letters 1 = .ok (.invokestatic 182, 3) := by decide +kernel
theorem dX9_letters_4 : decode cX9_letters 4 = .ok (.ifCond .eq 17, 3) := by decide +kernel
theorem dX9_letters_7 : decode cX9_letters 7 = .ok (.aload_n 0, 1) := by decide +kernel
theorem dX9_letters_8 : decode cX9_letters 8 = .ok (.getfield 25, 3) := by decide +kernel
theorem dX9_letters_11 : decode cX9_letters 11 = .ok (.iload_n 1, 1) := by decide +kernel
theorem dX9_letters_12 : decode cX9_letters 12 = .ok (.iconst 1, 1) := by decide +kernel
theorem dX9_letters_13 : decode cX9_letters 13 = .ok (.bipush 8, 2) := by decide +kernel
theorem dX9_letters_15 : decode cX9_letters 15 = .ok (.invokevirtual 119, 3) := by decide +kernel
theorem dX9_letters_18 : decode cX9_letters 18 = .ok (.ifCond .ne 5, 3) := by decide +kernel
theorem dX9_letters_21 : decode cX9_letters 21 = .ok (.iconst (-1), 1) := by decide +kernel
theorem dX9_letters_22 : decode cX9_letters 22 = .ok (.ireturn, 1) := by decide +kernel
theorem dX9_letters_23 : decode cX9_letters 23 = .ok (.aload_n 0, 1) := by decide +kernel
theorem dX9_letters_24 : decode cX9_letters 24 = .ok (.getfield 25, 3) := by decide +kernel
theorem dX9_letters_27 : decode cX9_letters 27 = .ok (.iload_n 1, 1) := by decide +kernel
theorem dX9_letters_28 : decode cX9_letters 28 = .ok (.invokevirtual 123, 3) := by decide +kernel
theorem dX9_letters_31 : decode cX9_letters 31 = .ok (.iconst 0, 1) := by decide +kernel
theorem dX9_letters_32 : decode cX9_letters 32 = .ok (.istore_n 3, 1) := by decide +kernel
theorem dX9_letters_33 : decode cX9_letters 33 = .ok (.iload_n 3, 1) := by decide +kernel
theorem dX9_letters_34 : decode cX9_letters 34 = .ok (.iload_n 1, 1) := by decide +kernel
theorem dX9_letters_35 : decode cX9_letters 35 = .ok (.if_icmp .ge 23, 3) := by decide +kernel
theorem dX9_letters_38 : decode cX9_letters 38 = .ok (.aload_n 0, 1) := by decide +kernel
theorem dX9_letters_39 : decode cX9_letters 39 = .ok (.getfield 25, 3) := by decide +kernel
theorem dX9_letters_42 : decode cX9_letters 42 = .ok (.iload_n 3, 1) := by decide +kernel
theorem dX9_letters_43 : decode cX9_letters 43 = .ok (.invokevirtual 265, 3) := by decide +kernel
theorem dX9_letters_46 : decode cX9_letters 46 = .ok (.ifCond .ne 6, 3) := by decide +kernel
theorem dX9_letters_49 : decode cX9_letters 49 = .ok (.bipush (-2), 2) := by decide +kernel
theorem dX9_letters_51 : decode cX9_letters 51 = .ok (.ireturn, 1) := by decide +kernel
theorem dX9_letters_52 : decode cX9_letters 52 = .ok (.iinc 3 1, 3) := by decide +kernel
theorem dX9_letters_55 : decode cX9_letters 55 = .ok (.goto (-22), 3) := by decide +kernel
theorem dX9_letters_58 : decode cX9_letters 58 = .ok (.aload_n 0, 1) := by decide +kernel
theorem dX9_letters_59 : decode cX9_letters 59 = .ok (.iload_n 1, 1) := by decide +kernel
theorem dX9_letters_60 : decode cX9_letters 60 = .ok (.invokevirtual 268, 3) := by decide +kernel
theorem dX9_letters_63 : decode cX9_letters 63 = .ok (.istore_n 3, 1) := by decide +kernel
theorem dX9_letters_64 : decode cX9_letters 64 = .ok (.iload_n 2, 1) := by decide +kernel
theorem dX9_letters_65 : decode cX9_letters 65 = .ok (.ifCond .ne 12, 3) := by decide +kernel
theorem dX9_letters_68 : decode cX9_letters 68 = .ok (.aload_n 0, 1) := by decide +kernel
theorem dX9_letters_69 : decode cX9_letters 69 = .ok (.iload_n 3, 1) := by decide +kernel
theorem dX9_letters_70 : decode cX9_letters 70 = .ok (.iload_n 1, 1) := by decide +kernel
theorem dX9_letters_71 : decode cX9_letters 71 = .ok (.invokevirtual 271, 3) := by decide +kernel
theorem dX9_letters_74 : decode cX9_letters 74 = .ok (.goto 4, 3) := by decide +kernel
theorem dX9_letters_77 : decode cX9_letters 77 = .ok (.iload_n 3, 1) := by decide +kernel
theorem dX9_letters_78 : decode cX9_letters 78 = .ok (.ireturn, 1) := by decide +kernel
theorem dX9_thrown_0 : decode cX9_thrown 0 = .ok (.iload_n 1, 1) := by decide +kernel
theorem dX9_thrown_1 : decode cX9_thrown 1 = .ok (.iconst 1, 1) := by decide +kernel
theorem dX9_thrown_2 : decode cX9_thrown 2 = .ok (.if_icmp .lt 9, 3) := by decide +kernel
theorem dX9_thrown_5 : decode cX9_thrown 5 = .ok (.iload_n 1, 1) := by decide +kernel
theorem dX9_thrown_6 : decode cX9_thrown 6 = .ok (.bipush 6, 2) := by decide +kernel
theorem dX9_thrown_8 : decode cX9_thrown 8 = .ok (.if_icmp .le 5, 3) := by decide +kernel
theorem dX9_thrown_11 : decode cX9_thrown 11 = .ok (.iconst (-1), 1) := by decide +kernel
theorem dX9_thrown_12 : decode cX9_thrown 12 = .ok (.ireturn, 1) := by decide +kernel
theorem dX9_thrown_13 : decode cX9_thrown 13 = .ok (.aload_n 0, 1) := by decide +kernel
theorem dX9_thrown_14 : decode cX9_thrown 14 = .ok (.getfield 10, 3) := by decide +kernel
theorem dX9_thrown_17 : decode cX9_thrown 17 = .ok (.iconst 0, 1) := by decide +kernel
theorem dX9_thrown_18 : decode cX9_thrown 18 = .ok (.invokevirtual 274, 3) := by decide +kernel
theorem dX9_thrown_21 : decode cX9_thrown 21 = .ok (.istore_n 2, 1) := by decide +kernel
theorem dX9_thrown_22 : decode cX9_thrown 22 = .ok (.iload_n 2, 1) := by decide +kernel
theorem dX9_thrown_23 : decode cX9_thrown 23 = .ok (.istore_n 3, 1) := by decide +kernel
theorem dX9_thrown_24 : decode cX9_thrown 24 = .ok (.iconst 1, 1) := by decide +kernel
theorem dX9_thrown_25 : decode cX9_thrown 25 = .ok (.istore 4, 2) := by decide +kernel
theorem dX9_thrown_27 : decode cX9_thrown 27 = .ok (.iload 4, 2) := by decide +kernel
theorem dX9_thrown_29 : decode cX9_thrown 29 = .ok (.iload_n 1, 1) := by decide +kernel
theorem dX9_thrown_30 : decode cX9_thrown 30 = .ok (.if_icmp .ge 25, 3) := by decide +kernel
theorem dX9_thrown_33 : decode cX9_thrown 33 = .ok (.iload_n 3, 1) := by decide +kernel
theorem dX9_thrown_34 : decode cX9_thrown 34 = .ok (.iconst (-1), 1) := by decide +kernel
theorem dX9_thrown_35 : decode cX9_thrown 35 = .ok (.if_icmp .eq 20, 3) := by decide +kernel
theorem dX9_thrown_38 : decode cX9_thrown 38 = .ok (.aload_n 0, 1) := by decide +kernel
theorem dX9_thrown_39 : decode cX9_thrown 39 = .ok (.getfield 10, 3) := by decide +kernel
theorem dX9_thrown_42 : decode cX9_thrown 42 = .ok (.iload_n 3, 1) := by decide +kernel
theorem dX9_thrown_43 : decode cX9_thrown 43 = .ok (.iconst 1, 1) := by decide +kernel
theorem dX9_thrown_44 : decode cX9_thrown 44 = .ok (.iadd, 1) := by decide +kernel
theorem dX9_thrown_45 : decode cX9_thrown 45 = .ok (.invokevirtual 274, 3) := by decide +kernel
theorem dX9_thrown_48 : decode cX9_thrown 48 = .ok (.istore_n 3, 1) := by decide +kernel
theorem dX9_thrown_49 : decode cX9_thrown 49 = .ok (.iinc 4 1, 3) := by decide +kernel
theorem dX9_thrown_52 : decode cX9_thrown 52 = .ok (.goto (-25), 3) := by decide +kernel
theorem dX9_thrown_55 : decode cX9_thrown 55 = .ok (.iload_n 3, 1) := by decide +kernel
theorem dX9_thrown_56 : decode cX9_thrown 56 = .ok (.iconst (-1), 1) := by decide +kernel
theorem dX9_thrown_57 : decode cX9_thrown 57 = .ok (.if_icmp .ne 6, 3) := by decide +kernel
theorem dX9_thrown_60 : decode cX9_thrown 60 = .ok (.bipush (-2), 2) := by decide +kernel
theorem dX9_thrown_62 : decode cX9_thrown 62 = .ok (.ireturn, 1) := by decide +kernel
theorem dX9_thrown_63 : decode cX9_thrown 63 = .ok (.aload_n 0, 1) := by decide +kernel
theorem dX9_thrown_64 : decode cX9_thrown 64 = .ok (.getfield 10, 3) := by decide +kernel
theorem dX9_thrown_67 : decode cX9_thrown 67 = .ok (.iload_n 2, 1) := by decide +kernel
theorem dX9_thrown_68 : decode cX9_thrown 68 = .ok (.lconst 1, 1) := by decide +kernel
theorem dX9_thrown_69 : decode cX9_thrown 69 = .ok (.iload_n 2, 1) := by decide +kernel
theorem dX9_thrown_70 : decode cX9_thrown 70 = .ok (.lshl, 1) := by decide +kernel
theorem dX9_thrown_71 : decode cX9_thrown 71 = .ok (.iload_n 3, 1) := by decide +kernel
theorem dX9_thrown_72 : decode cX9_thrown 72 = .ok (.iload_n 1, 1) := by decide +kernel
theorem dX9_thrown_73 : decode cX9_thrown 73 = .ok (.iconst 1, 1) := by decide +kernel
theorem dX9_thrown_74 : decode cX9_thrown 74 = .ok (.isub, 1) := by decide +kernel
theorem dX9_thrown_75 : decode cX9_thrown 75 = .ok (.invokestatic 277, 3) := by decide +kernel
theorem dX9_thrown_78 : decode cX9_thrown 78 = .ok (.ireturn, 1) := by decide +kernel
theorem dX9_seed_0 : decode cX9_seed 0 = .ok (.iload_n 1, 1) := by decide +kernel
theorem dX9_seed_1 : decode cX9_seed 1 = .ok (.ifCond .lt 10, 3) := by decide +kernel
theorem dX9_seed_4 : decode cX9_seed 4 = .ok (.iload_n 1, 1) := by decide +kernel
theorem dX9_seed_5 : decode cX9_seed 5 = .ok (.ldc_w 281, 3) := by decide +kernel
theorem dX9_seed_8 : decode cX9_seed 8 = .ok (.if_icmp .le 5, 3) := by decide +kernel
theorem dX9_seed_11 : decode cX9_seed 11 = .ok (.iconst 0, 1) := by decide +kernel
theorem dX9_seed_12 : decode cX9_seed 12 = .ok (.ireturn, 1) := by decide +kernel
theorem dX9_seed_13 : decode cX9_seed 13 = .ok (.aload_n 0, 1) := by decide +kernel
theorem dX9_seed_14 : decode cX9_seed 14 = .ok (.getfield 10, 3) := by decide +kernel
theorem dX9_seed_17 : decode cX9_seed 17 = .ok (.iload_n 1, 1) := by decide +kernel
theorem dX9_seed_18 : decode cX9_seed 18 = .ok (.putfield 282, 3) := by decide +kernel
theorem dX9_seed_21 : decode cX9_seed 21 = .ok (.iconst 1, 1) := by decide +kernel
theorem dX9_seed_22 : decode cX9_seed 22 = .ok (.ireturn, 1) := by decide +kernel
theorem dX9_keep_0 : decode cX9_keep 0 = .ok (.aload_n 0, 1) := by decide +kernel
theorem dX9_keep_1 : decode cX9_keep 1 = .ok (.getfield 16, 3) := by decide +kernel
theorem dX9_keep_4 : decode cX9_keep 4 = .ok (.aload_n 0, 1) := by decide +kernel
theorem dX9_keep_5 : decode cX9_keep 5 = .ok (.getfield 10, 3) := by decide +kernel
theorem dX9_keep_8 : decode cX9_keep 8 = .ok (.invokevirtual 149, 3) := by decide +kernel
theorem dX9_keep_11 : decode cX9_keep 11 = .ok (.aload_n 0, 1) := by decide +kernel
theorem dX9_keep_12 : decode cX9_keep 12 = .ok (.iconst 1, 1) := by decide +kernel
theorem dX9_keep_13 : decode cX9_keep 13 = .ok (.putfield 78, 3) := by decide +kernel
theorem dX9_keep_16 : decode cX9_keep 16 = .ok (.aload_n 0, 1) := by decide +kernel
theorem dX9_keep_17 : decode cX9_keep 17 = .ok (.getfield 10, 3) := by decide +kernel
theorem dX9_keep_20 : decode cX9_keep 20 = .ok (.getfield 285, 3) := by decide +kernel
theorem dX9_keep_23 : decode cX9_keep 23 = .ok (.ireturn, 1) := by decide +kernel
theorem dX9_undo_0 : decode cX9_undo 0 = .ok (.aload_n 0, 1) := by decide +kernel
theorem dX9_undo_1 : decode cX9_undo 1 = .ok (.getfield 78, 3) := by decide +kernel
theorem dX9_undo_4 : decode cX9_undo 4 = .ok (.ifCond .eq 14, 3) := by decide +kernel
theorem dX9_undo_7 : decode cX9_undo 7 = .ok (.aload_n 0, 1) := by decide +kernel
theorem dX9_undo_8 : decode cX9_undo 8 = .ok (.getfield 10, 3) := by decide +kernel
theorem dX9_undo_11 : decode cX9_undo 11 = .ok (.aload_n 0, 1) := by decide +kernel
theorem dX9_undo_12 : decode cX9_undo 12 = .ok (.getfield 16, 3) := by decide +kernel
theorem dX9_undo_15 : decode cX9_undo 15 = .ok (.invokevirtual 149, 3) := by decide +kernel
theorem dX9_undo_18 : decode cX9_undo 18 = .ok (.aload_n 0, 1) := by decide +kernel
theorem dX9_undo_19 : decode cX9_undo 19 = .ok (.getfield 78, 3) := by decide +kernel
theorem dX9_undo_22 : decode cX9_undo 22 = .ok (.ireturn, 1) := by decide +kernel
theorem dX9_check_0 : decode cX9_check 0 = .ok (.aload_n 0, 1) := by decide +kernel
theorem dX9_check_1 : decode cX9_check 1 = .ok (.getfield 25, 3) := by decide +kernel
theorem dX9_check_4 : decode cX9_check 4 = .ok (.iload_n 1, 1) := by decide +kernel
theorem dX9_check_5 : decode cX9_check 5 = .ok (.iconst 0, 1) := by decide +kernel
theorem dX9_check_6 : decode cX9_check 6 = .ok (.bipush 40, 2) := by decide +kernel
theorem dX9_check_8 : decode cX9_check 8 = .ok (.invokevirtual 119, 3) := by decide +kernel
theorem dX9_check_11 : decode cX9_check 11 = .ok (.ifCond .ne 6, 3) := by decide +kernel
theorem dX9_check_14 : decode cX9_check 14 = .ok (.bipush (-2), 2) := by decide +kernel
theorem dX9_check_16 : decode cX9_check 16 = .ok (.ireturn, 1) := by decide +kernel
theorem dX9_check_17 : decode cX9_check 17 = .ok (.aload_n 0, 1) := by decide +kernel
theorem dX9_check_18 : decode cX9_check 18 = .ok (.getfield 25, 3) := by decide +kernel
theorem dX9_check_21 : decode cX9_check 21 = .ok (.iload_n 1, 1) := by decide +kernel
theorem dX9_check_22 : decode cX9_check 22 = .ok (.invokevirtual 123, 3) := by decide +kernel
theorem dX9_check_25 : decode cX9_check 25 = .ok (.iconst 0, 1) := by decide +kernel
theorem dX9_check_26 : decode cX9_check 26 = .ok (.istore_n 2, 1) := by decide +kernel
theorem dX9_check_27 : decode cX9_check 27 = .ok (.iload_n 2, 1) := by decide +kernel
theorem dX9_check_28 : decode cX9_check 28 = .ok (.iload_n 1, 1) := by decide +kernel
theorem dX9_check_29 : decode cX9_check 29 = .ok (.if_icmp .ge 50, 3) := by decide +kernel
theorem dX9_check_32 : decode cX9_check 32 = .ok (.aload_n 0, 1) := by decide +kernel
theorem dX9_check_33 : decode cX9_check 33 = .ok (.getfield 10, 3) := by decide +kernel
theorem dX9_check_36 : decode cX9_check 36 = .ok (.iload_n 2, 1) := by decide +kernel
theorem dX9_check_37 : decode cX9_check 37 = .ok (.invokevirtual 98, 3) := by decide +kernel
theorem dX9_check_40 : decode cX9_check 40 = .ok (.ifCond .eq 15, 3) := by decide +kernel
theorem dX9_check_43 : decode cX9_check 43 = .ok (.aload_n 0, 1) := by decide +kernel
theorem dX9_check_44 : decode cX9_check 44 = .ok (.getfield 10, 3) := by decide +kernel
theorem dX9_check_47 : decode cX9_check 47 = .ok (.getfield 152, 3) := by decide +kernel
theorem dX9_check_50 : decode cX9_check 50 = .ok (.iload_n 2, 1) := by decide +kernel
theorem dX9_check_51 : decode cX9_check 51 = .ok (.iaload, 1) := by decide +kernel
theorem dX9_check_52 : decode cX9_check 52 = .ok (.goto 6, 3) := by decide +kernel
theorem dX9_check_55 : decode cX9_check 55 = .ok (.sipush 255, 3) := by decide +kernel
theorem dX9_check_58 : decode cX9_check 58 = .ok (.istore_n 3, 1) := by decide +kernel
theorem dX9_check_59 : decode cX9_check 59 = .ok (.aload_n 0, 1) := by decide +kernel
theorem dX9_check_60 : decode cX9_check 60 = .ok (.getfield 25, 3) := by decide +kernel
theorem dX9_check_63 : decode cX9_check 63 = .ok (.iload_n 2, 1) := by decide +kernel
theorem dX9_check_64 : decode cX9_check 64 = .ok (.invokevirtual 265, 3) := by decide +kernel
theorem dX9_check_67 : decode cX9_check 67 = .ok (.iload_n 3, 1) := by decide +kernel
theorem dX9_check_68 : decode cX9_check 68 = .ok (.if_icmp .eq 5, 3) := by decide +kernel
theorem dX9_check_71 : decode cX9_check 71 = .ok (.iload_n 2, 1) := by decide +kernel
theorem dX9_check_72 : decode cX9_check 72 = .ok (.ireturn, 1) := by decide +kernel
theorem dX9_check_73 : decode cX9_check 73 = .ok (.iinc 2 1, 3) := by decide +kernel
theorem dX9_check_76 : decode cX9_check 76 = .ok (.goto (-49), 3) := by decide +kernel
theorem dX9_check_79 : decode cX9_check 79 = .ok (.iconst (-1), 1) := by decide +kernel
theorem dX9_check_80 : decode cX9_check 80 = .ok (.ireturn, 1) := by decide +kernel
theorem dX9_count_0 : decode cX9_count 0 = .ok (.iload_n 1, 1) := by decide +kernel
theorem dX9_count_1 : decode cX9_count 1 = .ok (.tableswitch 96 0 6 #[43, 51, 59, 67, 72, 80, 88], 43) := by decide +kernel
theorem dX9_count_44 : decode cX9_count 44 = .ok (.aload_n 0, 1) := by decide +kernel
theorem dX9_count_45 : decode cX9_count 45 = .ok (.getfield 10, 3) := by decide +kernel
theorem dX9_count_48 : decode cX9_count 48 = .ok (.getfield 285, 3) := by decide +kernel
theorem dX9_count_51 : decode cX9_count 51 = .ok (.ireturn, 1) := by decide +kernel
theorem dX9_count_52 : decode cX9_count 52 = .ok (.aload_n 0, 1) := by decide +kernel
theorem dX9_count_53 : decode cX9_count 53 = .ok (.getfield 10, 3) := by decide +kernel
theorem dX9_count_56 : decode cX9_count 56 = .ok (.invokevirtual 234, 3) := by decide +kernel
theorem dX9_count_59 : decode cX9_count 59 = .ok (.ireturn, 1) := by decide +kernel
theorem dX9_count_60 : decode cX9_count 60 = .ok (.aload_n 0, 1) := by decide +kernel
theorem dX9_count_61 : decode cX9_count 61 = .ok (.getfield 10, 3) := by decide +kernel
theorem dX9_count_64 : decode cX9_count 64 = .ok (.invokevirtual 161, 3) := by decide +kernel
theorem dX9_count_67 : decode cX9_count 67 = .ok (.ireturn, 1) := by decide +kernel
theorem dX9_count_68 : decode cX9_count 68 = .ok (.aload_n 0, 1) := by decide +kernel
theorem dX9_count_69 : decode cX9_count 69 = .ok (.invokevirtual 288, 3) := by decide +kernel
theorem dX9_count_72 : decode cX9_count 72 = .ok (.ireturn, 1) := by decide +kernel
theorem dX9_count_73 : decode cX9_count 73 = .ok (.aload_n 0, 1) := by decide +kernel
theorem dX9_count_74 : decode cX9_count 74 = .ok (.getfield 71, 3) := by decide +kernel
theorem dX9_count_77 : decode cX9_count 77 = .ok (.getfield 291, 3) := by decide +kernel
theorem dX9_count_80 : decode cX9_count 80 = .ok (.ireturn, 1) := by decide +kernel
theorem dX9_count_81 : decode cX9_count 81 = .ok (.aload_n 0, 1) := by decide +kernel
theorem dX9_count_82 : decode cX9_count 82 = .ok (.getfield 25, 3) := by decide +kernel
theorem dX9_count_85 : decode cX9_count 85 = .ok (.getfield 111, 3) := by decide +kernel
theorem dX9_count_88 : decode cX9_count 88 = .ok (.ireturn, 1) := by decide +kernel
theorem dX9_count_89 : decode cX9_count 89 = .ok (.aload_n 0, 1) := by decide +kernel
theorem dX9_count_90 : decode cX9_count 90 = .ok (.getfield 10, 3) := by decide +kernel
theorem dX9_count_93 : decode cX9_count 93 = .ok (.getfield 282, 3) := by decide +kernel
theorem dX9_count_96 : decode cX9_count 96 = .ok (.ireturn, 1) := by decide +kernel
theorem dX9_count_97 : decode cX9_count 97 = .ok (.iload_n 1, 1) := by decide +kernel
theorem dX9_count_98 : decode cX9_count 98 = .ok (.bipush 10, 2) := by decide +kernel
theorem dX9_count_100 : decode cX9_count 100 = .ok (.if_icmp .lt 25, 3) := by decide +kernel
theorem dX9_count_103 : decode cX9_count 103 = .ok (.aload_n 0, 1) := by decide +kernel
theorem dX9_count_104 : decode cX9_count 104 = .ok (.iload_n 1, 1) := by decide +kernel
theorem dX9_count_105 : decode cX9_count 105 = .ok (.bipush 10, 2) := by decide +kernel
theorem dX9_count_107 : decode cX9_count 107 = .ok (.isub, 1) := by decide +kernel
theorem dX9_count_108 : decode cX9_count 108 = .ok (.invokevirtual 175, 3) := by decide +kernel
theorem dX9_count_111 : decode cX9_count 111 = .ok (.ifCond .eq 14, 3) := by decide +kernel
theorem dX9_count_114 : decode cX9_count 114 = .ok (.aload_n 0, 1) := by decide +kernel
theorem dX9_count_115 : decode cX9_count 115 = .ok (.iload_n 1, 1) := by decide +kernel
theorem dX9_count_116 : decode cX9_count 116 = .ok (.bipush 10, 2) := by decide +kernel
theorem dX9_count_118 : decode cX9_count 118 = .ok (.isub, 1) := by decide +kernel
theorem dX9_count_119 : decode cX9_count 119 = .ok (.invokevirtual 175, 3) := by decide +kernel
theorem dX9_count_122 : decode cX9_count 122 = .ok (.goto 4, 3) := by decide +kernel
theorem dX9_count_125 : decode cX9_count 125 = .ok (.iconst (-1), 1) := by decide +kernel
theorem dX9_count_126 : decode cX9_count 126 = .ok (.ireturn, 1) := by decide +kernel
set_option maxHeartbeats 4000000 in
theorem c_X9_stone (i x y s : Int32) (M : Mem) (hF : FrC M) : AM yX9_stone cX9_stone 6 (some .boolean) 1 60 glC (fun ad => [.ref (ad 0), .int i, .int x, .int y, .int s]) M (PI (fun r _ => r = bI (0 ≤ i.toInt ∧ i.toInt < 40 ∧ 0 ≤ x.toInt ∧ x.toInt ≤ 39 ∧ 1 ≤ y.toInt ∧ y.toInt ≤ 20 ∧ 0 ≤ s.toInt ∧ s.toInt ≤ 9))) := by
  refine AM.of (by decide) (fun _ => Nat.le_of_ble_eq_true rfl) (fun X ad cI cZ cB hX hR => ?_)
  show V X M [(0, .ref (ad 0)), (1, .int i), (2, .int x), (3, .int y), (4, .int s)] [] 0
  obtain ⟨hT, hS, hz, hn, hd, hr, hk, hu⟩ := hF
  refine s_iload_n (k := 1) hX dX9_stone_0 rfl rfl ?_
  refine s_callSi hX (c_X9_isStone i M) mX9_isStone lX9_82 (by decide) (by decide) rfl rfl (by decide) dX9_stone_1 (fun r1 M_1 hp1 => ?_)
  obtain ⟨rfl, h2⟩ := hp1
  subst h2
  refine s_if_eq (tgt := 27) hX dX9_stone_4 (by decide) (fun c4 => ?_) (fun c4 => ?_)
  · replace c4 := bI_eq c4
    refine s_iconst (v := (nI 0)) hX dX9_stone_27 (by decide) ?_
    exact s_zret hX hR dX9_stone_28 (by first | decide | assumption) (bI_f (by omega))
  · replace c4 := bI_ne c4
    refine s_iload_n (k := 2) hX dX9_stone_7 rfl rfl ?_
    refine s_iload_n (k := 3) hX dX9_stone_8 rfl rfl ?_
    refine s_callSi hX (c_X9_isPlace x y M) mX9_isPlace lX9_86 (by decide) (by decide) rfl rfl (by decide) dX9_stone_9 (fun r9 M_2 hp9 => ?_)
    obtain ⟨rfl, h2⟩ := hp9
    subst h2
    refine s_if_eq (tgt := 27) hX dX9_stone_12 (by decide) (fun c12 => ?_) (fun c12 => ?_)
    · replace c12 := bI_eq c12
      refine s_iconst (v := (nI 0)) hX dX9_stone_27 (by decide) ?_
      exact s_zret hX hR dX9_stone_28 (by first | decide | assumption) (bI_f (by omega))
    · replace c12 := bI_ne c12
      refine s_iload (k := 4) hX dX9_stone_15 rfl ?_
      refine s_if_lt (tgt := 27) hX dX9_stone_17 (by decide) (fun c17 => ?_) (fun c17 => ?_)
      · replace c17 := z_lt.mp c17
        refine s_iconst (v := (nI 0)) hX dX9_stone_27 (by decide) ?_
        exact s_zret hX hR dX9_stone_28 (by first | decide | assumption) (bI_f (by omega))
      · replace c17 := mt z_lt.mpr c17
        refine s_iload (k := 4) hX dX9_stone_20 rfl ?_
        refine s_bipush (v := (nI 9)) hX dX9_stone_22 (by decide) ?_
        refine s_icmp_le (tgt := 29) hX dX9_stone_24 (by decide) (fun c24 => ?_) (fun c24 => ?_)
        · replace c24 := (q_le (by omega)).mp c24
          refine s_aload_n (k := 0) hX dX9_stone_29 rfl rfl ?_
          refine s_get hX fX9_10 oC0 rfl dX9_stone_30 ?_
          refine s_iload_n (k := 2) hX dX9_stone_33 rfl rfl ?_
          refine s_iload_n (k := 3) hX dX9_stone_34 rfl rfl ?_
          refine s_callVi hX (c_X2_stoneAt 1 (Or.inl rfl) x y M hT) mX2_stoneAt lX9_90 (by decide) (by decide) oC1 rfl rfl rfl rfl rfl (by decide) dX9_stone_35 (fun r35 M_3 hp35 => ?_)
          obtain ⟨rfl, h2⟩ := hp35
          subst h2
          refine s_istore (lv' := [(0, .ref (ad 0)), (1, .int i), (2, .int x), (3, .int y), (4, .int s), (5, .int (-1))]) hX dX9_stone_38 (by decide) rfl ?_
          refine s_iload (k := 5) hX dX9_stone_40 rfl ?_
          refine s_iconst (v := (-1)) hX dX9_stone_42 (by decide) ?_
          refine s_icmp_eq (tgt := 54) hX dX9_stone_43 (by decide) (fun c43 => ?_) (fun c43 => ?_)
          · refine s_aload_n (k := 0) hX dX9_stone_54 rfl rfl ?_
            refine s_get hX fX9_10 oC0 rfl dX9_stone_55 ?_
            refine s_iload_n (k := 1) hX dX9_stone_58 rfl rfl ?_
            refine s_iload_n (k := 2) hX dX9_stone_59 rfl rfl ?_
            refine s_iload_n (k := 3) hX dX9_stone_60 rfl rfl ?_
            refine s_iload (k := 4) hX dX9_stone_61 rfl ?_
            refine s_iconst (v := (nI 0)) hX dX9_stone_63 (by decide) ?_
            refine s_callVv hX (c_X2_lay 1 (Or.inl rfl) i x y s (nI 0) M) mX2_lay lX9_94 (by decide) (by decide) oC1 rfl rfl rfl rfl rfl (by decide) dX9_stone_64 (fun M_5 hp64 => ?_)
            refine s_iconst (v := (nI 1)) hX dX9_stone_67 (by decide) ?_
            exact s_zret hX hR dX9_stone_68 (by first | decide | assumption) (bI_t (by omega))
          · first | exact absurd (by decide) c43 | exact absurd c43 (by decide)
        · replace c24 := mt (q_le (by omega)).mpr c24
          refine s_iconst (v := (nI 0)) hX dX9_stone_27 (by decide) ?_
          exact s_zret hX hR dX9_stone_28 (by first | decide | assumption) (bI_f (by omega))
set_option maxHeartbeats 4000000 in
theorem c_X9_take (i : Int32) (M : Mem) (hF : FrC M) : AM yX9_take cX9_take 2 (some .boolean) 1 60 glC (fun ad => [.ref (ad 0), .int i]) M (PI (fun r _ => r = nI 0)) := by
  refine AM.of (by decide) (fun _ => Nat.le_of_ble_eq_true rfl) (fun X ad cI cZ cB hX hR => ?_)
  show V X M [(0, .ref (ad 0)), (1, .int i)] [] 0
  obtain ⟨hT, hS, hz, hn, hd, hr, hk, hu⟩ := hF
  refine s_aload_n (k := 0) hX dX9_take_0 rfl rfl ?_
  refine s_get hX fX9_10 oC0 rfl dX9_take_1 ?_
  refine s_iload_n (k := 1) hX dX9_take_4 rfl rfl ?_
  refine s_callVi hX (c_X2_isTold 1 (Or.inl rfl) i M hT) mX2_isTold lX9_98 (by decide) (by decide) oC1 rfl rfl rfl rfl rfl (by decide) dX9_take_5 (fun r5 M_1 hp5 => ?_)
  obtain ⟨rfl, h2⟩ := hp5
  subst h2
  refine s_if_ne (tgt := 13) hX dX9_take_8 (by decide) (fun c8 => ?_) (fun c8 => ?_)
  · first | exact absurd (by decide) c8 | exact absurd c8 (by decide)
  · refine s_iconst (v := (nI 0)) hX dX9_take_11 (by decide) ?_
    exact s_zret hX hR dX9_take_12 (by first | decide | assumption) rfl
set_option maxHeartbeats 4000000 in
theorem c_X9_under (i u : Int32) (M : Mem) (hF : FrC M) : AM yX9_under cX9_under 3 (some .boolean) 1 60 glC (fun ad => [.ref (ad 0), .int i, .int u]) M (PI (fun r _ => r = nI 0)) := by
  refine AM.of (by decide) (fun _ => Nat.le_of_ble_eq_true rfl) (fun X ad cI cZ cB hX hR => ?_)
  show V X M [(0, .ref (ad 0)), (1, .int i), (2, .int u)] [] 0
  obtain ⟨hT, hS, hz, hn, hd, hr, hk, hu⟩ := hF
  refine s_aload_n (k := 0) hX dX9_under_0 rfl rfl ?_
  refine s_get hX fX9_10 oC0 rfl dX9_under_1 ?_
  refine s_iload_n (k := 1) hX dX9_under_4 rfl rfl ?_
  refine s_callVi hX (c_X2_isTold 1 (Or.inl rfl) i M hT) mX2_isTold lX9_98 (by decide) (by decide) oC1 rfl rfl rfl rfl rfl (by decide) dX9_under_5 (fun r5 M_1 hp5 => ?_)
  obtain ⟨rfl, h2⟩ := hp5
  subst h2
  refine s_if_ne (tgt := 13) hX dX9_under_8 (by decide) (fun c8 => ?_) (fun c8 => ?_)
  · first | exact absurd (by decide) c8 | exact absurd c8 (by decide)
  · refine s_iconst (v := (nI 0)) hX dX9_under_11 (by decide) ?_
    exact s_zret hX hR dX9_under_12 (by first | decide | assumption) rfl
set_option maxHeartbeats 4000000 in
theorem c_X9_person (p s : Int32) (M : Mem) (hF : FrC M) : AM yX9_person cX9_person 3 (some .boolean) 1 60 glC (fun ad => [.ref (ad 0), .int p, .int s]) M (PI (fun r _ => r = bI (0 ≤ p.toInt ∧ p.toInt < 8 ∧ 1 ≤ s.toInt ∧ s.toInt ≤ 30))) := by
  refine AM.of (by decide) (fun _ => Nat.le_of_ble_eq_true rfl) (fun X ad cI cZ cB hX hR => ?_)
  show V X M [(0, .ref (ad 0)), (1, .int p), (2, .int s)] [] 0
  obtain ⟨hT, hS, hz, hn, hd, hr, hk, hu⟩ := hF
  refine s_iload_n (k := 1) hX dX9_person_0 rfl rfl ?_
  refine s_if_lt (tgt := 17) hX dX9_person_1 (by decide) (fun c1 => ?_) (fun c1 => ?_)
  · replace c1 := z_lt.mp c1
    refine s_iconst (v := (nI 0)) hX dX9_person_17 (by decide) ?_
    exact s_zret hX hR dX9_person_18 (by first | decide | assumption) (bI_f (by omega))
  · replace c1 := mt z_lt.mpr c1
    refine s_iload_n (k := 1) hX dX9_person_4 rfl rfl ?_
    refine s_bipush (v := (nI 8)) hX dX9_person_5 (by decide) ?_
    refine s_icmp_ge (tgt := 17) hX dX9_person_7 (by decide) (fun c7 => ?_) (fun c7 => ?_)
    · replace c7 := (q_ge (by omega)).mp c7
      refine s_iconst (v := (nI 0)) hX dX9_person_17 (by decide) ?_
      exact s_zret hX hR dX9_person_18 (by first | decide | assumption) (bI_f (by omega))
    · replace c7 := mt (q_ge (by omega)).mpr c7
      refine s_iload_n (k := 2) hX dX9_person_10 rfl rfl ?_
      refine s_callSi hX (c_X9_isStride s M) mX9_isStride lX9_108 (by decide) (by decide) rfl rfl (by decide) dX9_person_11 (fun r11 M_1 hp11 => ?_)
      obtain ⟨rfl, h2⟩ := hp11
      subst h2
      refine s_if_ne (tgt := 19) hX dX9_person_14 (by decide) (fun c14 => ?_) (fun c14 => ?_)
      · replace c14 := bI_ne c14
        refine s_aload_n (k := 0) hX dX9_person_19 rfl rfl ?_
        refine s_get hX fX9_64 oC0 rfl dX9_person_20 ?_
        refine s_iload_n (k := 1) hX dX9_person_23 rfl rfl ?_
        refine s_iload_n (k := 2) hX dX9_person_24 rfl rfl ?_
        refine s_iast hX aC43 (vp_in_iff.mpr (by omega)) dX9_person_25 ?_
        refine s_mem (fun M_2 eM_2 => ?_)
        refine s_iconst (v := (nI 1)) hX dX9_person_26 (by decide) ?_
        exact s_zret hX hR dX9_person_27 (by first | decide | assumption) (bI_t (by omega))
      · replace c14 := bI_eq c14
        refine s_iconst (v := (nI 0)) hX dX9_person_17 (by decide) ?_
        exact s_zret hX hR dX9_person_18 (by first | decide | assumption) (bI_f (by omega))
set_option maxHeartbeats 4000000 in
theorem c_X9_feed (a b c d e : Int32) (M : Mem) (hF : FrC M) : AM yX9_feed cX9_feed 6 (some .int) 1 60 glC (fun ad => [.ref (ad 0), .int a, .int b, .int c, .int d, .int e]) M (PI (fun r _ => r = nI 20)) := by
  refine AM.of (by decide) (fun _ => Nat.le_of_ble_eq_true rfl) (fun X ad cI cZ cB hX hR => ?_)
  show V X M [(0, .ref (ad 0)), (1, .int a), (2, .int b), (3, .int c), (4, .int d), (5, .int e)] [] 0
  obtain ⟨hT, hS, hz, hn, hd, hr, hk, hu⟩ := hF
  refine s_aload_n (k := 0) hX dX9_feed_0 rfl rfl ?_
  refine s_get hX fX9_25 oC0 rfl dX9_feed_1 ?_
  refine s_get hX fX9_111 oC19 rfl dX9_feed_4 ?_
  refine s_top (y := nI 0) (hz) ?_
  refine s_bipush (v := (nI 20)) hX dX9_feed_7 (by decide) ?_
  refine s_iadd hX dX9_feed_9 ?_
  refine s_top (y := nI 20) (by decide) ?_
  refine s_sipush (v := (nI 260)) hX dX9_feed_10 (by decide) ?_
  refine s_icmp_le (tgt := 18) hX dX9_feed_13 (by decide) (fun c13 => ?_) (fun c13 => ?_)
  · refine s_aload_n (k := 0) hX dX9_feed_18 rfl rfl ?_
    refine s_get hX fX9_25 oC0 rfl dX9_feed_19 ?_
    refine s_iload_n (k := 1) hX dX9_feed_22 rfl rfl ?_
    refine s_callVv hX (c_X7_append a M 0 hz (by decide)) mX7_append lX9_115 (by decide) (by decide) oC19 rfl rfl rfl rfl rfl (by decide) dX9_feed_23 (fun M_1 hp23 => ?_)
    have hz4 := hp23
    refine s_aload_n (k := 0) hX dX9_feed_26 rfl rfl ?_
    refine s_get hX fX9_25 oC0 rfl dX9_feed_27 ?_
    refine s_iload_n (k := 2) hX dX9_feed_30 rfl rfl ?_
    refine s_callVv hX (c_X7_append b M_1 4 hz4 (by decide)) mX7_append lX9_115 (by decide) (by decide) oC19 rfl rfl rfl rfl rfl (by decide) dX9_feed_31 (fun M_2 hp31 => ?_)
    have hz8 := hp31
    refine s_aload_n (k := 0) hX dX9_feed_34 rfl rfl ?_
    refine s_get hX fX9_25 oC0 rfl dX9_feed_35 ?_
    refine s_iload_n (k := 3) hX dX9_feed_38 rfl rfl ?_
    refine s_callVv hX (c_X7_append c M_2 8 hz8 (by decide)) mX7_append lX9_115 (by decide) (by decide) oC19 rfl rfl rfl rfl rfl (by decide) dX9_feed_39 (fun M_3 hp39 => ?_)
    have hz12 := hp39
    refine s_aload_n (k := 0) hX dX9_feed_42 rfl rfl ?_
    refine s_get hX fX9_25 oC0 rfl dX9_feed_43 ?_
    refine s_iload (k := 4) hX dX9_feed_46 rfl ?_
    refine s_callVv hX (c_X7_append d M_3 12 hz12 (by decide)) mX7_append lX9_115 (by decide) (by decide) oC19 rfl rfl rfl rfl rfl (by decide) dX9_feed_48 (fun M_4 hp48 => ?_)
    have hz16 := hp48
    refine s_aload_n (k := 0) hX dX9_feed_51 rfl rfl ?_
    refine s_get hX fX9_25 oC0 rfl dX9_feed_52 ?_
    refine s_iload (k := 5) hX dX9_feed_55 rfl ?_
    refine s_callVv hX (c_X7_append e M_4 16 hz16 (by decide)) mX7_append lX9_115 (by decide) (by decide) oC19 rfl rfl rfl rfl rfl (by decide) dX9_feed_57 (fun M_5 hp57 => ?_)
    have hz20 := hp57
    refine s_aload_n (k := 0) hX dX9_feed_60 rfl rfl ?_
    refine s_get hX fX9_25 oC0 rfl dX9_feed_61 ?_
    refine s_get hX fX9_111 oC19 rfl dX9_feed_64 ?_
    exact s_iret hX hR dX9_feed_67 hz20
  · first | exact absurd (by decide) c13 | exact absurd c13 (by decide)
set_option maxHeartbeats 4000000 in
theorem c_X9_law (n : Int32) (M : Mem) (hF : FrC M) : AM yX9_law cX9_law 4 (some .int) 1 60 glC (fun ad => [.ref (ad 0), .int n]) M (PI (fun r _ => r = -1)) := by
  refine AM.of (by decide) (fun _ => Nat.le_of_ble_eq_true rfl) (fun X ad cI cZ cB hX hR => ?_)
  show V X M [(0, .ref (ad 0)), (1, .int n)] [] 0
  obtain ⟨hT, hS, hz, hn, hd, hr, hk, hu⟩ := hF
  have hz0 : (M 19 1).toInt = 0 := by rw [hz]; decide
  refine s_aload_n (k := 0) hX dX9_law_0 rfl rfl ?_
  refine s_get hX fX9_25 oC0 rfl dX9_law_1 ?_
  refine s_iload_n (k := 1) hX dX9_law_4 rfl rfl ?_
  refine s_iconst (v := (nI 1)) hX dX9_law_5 (by decide) ?_
  refine s_sipush (v := (nI 240)) hX dX9_law_6 (by decide) ?_
  refine s_callVi hX (c_X7_holds n (nI 1) (nI 240) M) mX7_holds lX9_119 (by decide) (by decide) oC19 rfl rfl rfl rfl rfl (by decide) dX9_law_9 (fun r9 M_1 hp9 => ?_)
  obtain ⟨rfl, h2⟩ := hp9
  subst h2
  refine s_if_ne (tgt := 17) hX dX9_law_12 (by decide) (fun c12 => ?_) (fun c12 => ?_)
  · replace c12 := bI_ne c12
    rw [hz0] at c12; have := nI1; omega
  · replace c12 := bI_eq c12
    refine s_iconst (v := (-1)) hX dX9_law_15 (by decide) ?_
    exact s_iret hX hR dX9_law_16 rfl
set_option maxHeartbeats 4000000 in
theorem c_X9_notebook (n : Int32) (M : Mem) (hF : FrC M) : AM yX9_notebook cX9_notebook 3 (some .int) 1 60 glC (fun ad => [.ref (ad 0), .int n]) M (PI (fun r _ => r = -1)) := by
  refine AM.of (by decide) (fun _ => Nat.le_of_ble_eq_true rfl) (fun X ad cI cZ cB hX hR => ?_)
  show V X M [(0, .ref (ad 0)), (1, .int n)] [] 0
  obtain ⟨hT, hS, hz, hn, hd, hr, hk, hu⟩ := hF
  have hz0 : (M 19 1).toInt = 0 := by rw [hz]; decide
  refine s_aload_n (k := 0) hX dX9_notebook_0 rfl rfl ?_
  refine s_get hX fX9_25 oC0 rfl dX9_notebook_1 ?_
  refine s_iload_n (k := 1) hX dX9_notebook_4 rfl rfl ?_
  refine s_iconst (v := (nI 1)) hX dX9_notebook_5 (by decide) ?_
  refine s_sipush (v := (nI 200)) hX dX9_notebook_6 (by decide) ?_
  refine s_callVi hX (c_X7_holds n (nI 1) (nI 200) M) mX7_holds lX9_119 (by decide) (by decide) oC19 rfl rfl rfl rfl rfl (by decide) dX9_notebook_9 (fun r9 M_1 hp9 => ?_)
  obtain ⟨rfl, h2⟩ := hp9
  subst h2
  refine s_if_ne (tgt := 17) hX dX9_notebook_12 (by decide) (fun c12 => ?_) (fun c12 => ?_)
  · replace c12 := bI_ne c12
    rw [hz0] at c12; have := nI1; omega
  · replace c12 := bI_eq c12
    refine s_iconst (v := (-1)) hX dX9_notebook_15 (by decide) ?_
    exact s_iret hX hR dX9_notebook_16 rfl
set_option maxHeartbeats 4000000 in
theorem c_X9_nights (n : Int32) (M : Mem) (hF : FrC M) : AM yX9_nights cX9_nights 2 (some .int) 1 60 glC (fun ad => [.ref (ad 0), .int n]) M (PI (fun r _ => r = if 1 ≤ n.toInt ∧ n.toInt ≤ 60 then nI 0 else -1)) := by
  refine AM.of (by decide) (fun _ => Nat.le_of_ble_eq_true rfl) (fun X ad cI cZ cB hX hR => ?_)
  show V X M [(0, .ref (ad 0)), (1, .int n)] [] 0
  obtain ⟨hT, hS, hz, hn, hd, hr, hk, hu⟩ := hF
  refine s_iload_n (k := 1) hX dX9_nights_0 rfl rfl ?_
  refine s_callSi hX (c_X9_isNights n M) mX9_isNights lX9_138 (by decide) (by decide) rfl rfl (by decide) dX9_nights_1 (fun r1 M_1 hp1 => ?_)
  obtain ⟨rfl, h2⟩ := hp1
  subst h2
  refine s_if_ne (tgt := 9) hX dX9_nights_4 (by decide) (fun c4 => ?_) (fun c4 => ?_)
  · replace c4 := bI_ne c4
    obtain ⟨m, hm, rfl⟩ := ixi (x := n) (n := 61) (by omega) (by omega)
    refine s_aload_n (k := 0) hX dX9_nights_9 rfl rfl ?_
    refine s_get hX fX9_32 oC0 rfl dX9_nights_10 ?_
    refine s_aload_n (k := 0) hX dX9_nights_13 rfl rfl ?_
    refine s_get hX fX9_10 oC0 rfl dX9_nights_14 ?_
    refine s_aload_n (k := 0) hX dX9_nights_17 rfl rfl ?_
    refine s_get hX fX9_71 oC0 rfl dX9_nights_18 ?_
    refine s_topr (b := ad 44) (by rw [hr]; rfl) ?_
    refine s_iload_n (k := 1) hX dX9_nights_21 rfl rfl ?_
    refine s_callVv hX (c_X5_pass 1 (Or.inl rfl) m (by omega) M hT) mX5_pass lX9_141 (by decide) (by decide) oC21 rfl rfl rfl rfl rfl (by decide) dX9_nights_22 (fun M_2 hp22 => ?_)
    obtain ⟨hfp, hp1, hp2⟩ := hp22
    refine s_aload_n (k := 0) hX dX9_nights_25 rfl rfl ?_
    refine s_get hX fX9_32 oC0 rfl dX9_nights_26 ?_
    refine s_get hX fX9_145 oC21 rfl dX9_nights_29 ?_
    exact s_iret hX hR dX9_nights_32 (by rw [if_pos (by omega)]; exact hp1)
  · replace c4 := bI_eq c4
    refine s_iconst (v := (-1)) hX dX9_nights_7 (by decide) ?_
    exact s_iret hX hR dX9_nights_8 (by rw [if_neg (by omega)])
set_option maxHeartbeats 4000000 in
theorem c_X9_tried (n what : Int32) (M : Mem) (hF : FrC M) : AM yX9_tried cX9_tried 5 (some .int) 2 60 glC (fun ad => [.ref (ad 0), .int n, .int what]) M (PI (fun r _ => r = if (1 ≤ n.toInt ∧ n.toInt ≤ 60) ∧ 0 ≤ what.toInt ∧ what.toInt ≤ 3 then nI 0 else -100000)) := by
  refine AM.of (by decide) (fun _ => Nat.le_of_ble_eq_true rfl) (fun X ad cI cZ cB hX hR => ?_)
  show V X M [(0, .ref (ad 0)), (1, .int n), (2, .int what)] [] 0
  obtain ⟨hT, hS, hz, hn, hd, hr, hk, hu⟩ := hF
  have jn55 : V X M [(0, .ref (ad 0)), (1, .int n), (2, .int what), (3, .int (nI 0)), (4, .int (nI 0))] [] 55 := by
    refine s_iload_n (k := 1) hX dX9_tried_55 rfl rfl ?_
    refine s_callSi hX (c_X9_isNights n M) mX9_isNights lX9_138 (by decide) (by decide) rfl rfl (by decide) dX9_tried_56 (fun r56 M_1 hp56 => ?_)
    obtain ⟨rfl, h2⟩ := hp56
    subst h2
    refine s_if_eq (tgt := 80) hX dX9_tried_59 (by decide) (fun c59 => ?_) (fun c59 => ?_)
    · replace c59 := bI_eq c59
      refine s_ldc (v := (-100000)) hX kX9_148 dX9_tried_80 ?_
      exact s_iret hX hR dX9_tried_82 (by rw [if_neg (by omega)])
    · replace c59 := bI_ne c59
      refine s_iload_n (k := 2) hX dX9_tried_62 rfl rfl ?_
      refine s_if_lt (tgt := 71) hX dX9_tried_63 (by decide) (fun c63 => ?_) (fun c63 => ?_)
      · replace c63 := z_lt.mp c63
        refine s_iload_n (k := 3) hX dX9_tried_71 rfl rfl ?_
        refine s_if_ne (tgt := 83) hX dX9_tried_72 (by decide) (fun c72 => ?_) (fun c72 => ?_)
        · first | exact absurd (by decide) c72 | exact absurd c72 (by decide)
        · refine s_iload (k := 4) hX dX9_tried_75 rfl ?_
          refine s_if_ne (tgt := 83) hX dX9_tried_77 (by decide) (fun c77 => ?_) (fun c77 => ?_)
          · first | exact absurd (by decide) c77 | exact absurd c77 (by decide)
          · refine s_ldc (v := (-100000)) hX kX9_148 dX9_tried_80 ?_
            exact s_iret hX hR dX9_tried_82 (by rw [if_neg (by omega)])
      · replace c63 := mt z_lt.mpr c63
        refine s_iload_n (k := 2) hX dX9_tried_66 rfl rfl ?_
        refine s_iconst (v := (nI 3)) hX dX9_tried_67 (by decide) ?_
        refine s_icmp_le (tgt := 83) hX dX9_tried_68 (by decide) (fun c68 => ?_) (fun c68 => ?_)
        · replace c68 := (q_le (by omega)).mp c68
          obtain ⟨m, hm, rfl⟩ := ixi (x := n) (n := 61) (by omega) (by omega)
          refine s_aload_n (k := 0) hX dX9_tried_83 rfl rfl ?_
          refine s_get hX fX9_19 oC0 rfl dX9_tried_84 ?_
          refine s_aload_n (k := 0) hX dX9_tried_87 rfl rfl ?_
          refine s_get hX fX9_10 oC0 rfl dX9_tried_88 ?_
          refine s_callVv hX (c_X2_copyAll 13 (Or.inr (Or.inr rfl)) 1 (Or.inl rfl) M (by decide)) mX2_copyAll lX9_149 (by decide) (by decide) oC13 rfl rfl rfl rfl rfl (by decide) dX9_tried_91 (fun M_2 hp91 => ?_)
          obtain ⟨hfc, htc⟩ := hp91
          refine s_aload_n (k := 0) hX dX9_tried_94 rfl rfl ?_
          refine s_get hX fX9_32 oC0 rfl dX9_tried_95 ?_
          refine s_aload_n (k := 0) hX dX9_tried_98 rfl rfl ?_
          refine s_get hX fX9_19 oC0 rfl dX9_tried_99 ?_
          refine s_aload_n (k := 0) hX dX9_tried_102 rfl rfl ?_
          refine s_get hX fX9_71 oC0 rfl dX9_tried_103 ?_
          refine s_topr (b := ad 44) (by rw [hfc _ _ (by decide), hr]; rfl) ?_
          refine s_iload_n (k := 1) hX dX9_tried_106 rfl rfl ?_
          refine s_callVv hX (c_X5_pass 13 (Or.inr (Or.inr rfl)) m (by omega) M_2 (fun j hj => (htc j hj).trans (by rw [hT j hj]; exact bool0))) mX5_pass lX9_141 (by decide) (by decide) oC21 rfl rfl rfl rfl rfl (by decide) dX9_tried_107 (fun M_3 hp107 => ?_)
          obtain ⟨hfp, hp1, hp2⟩ := hp107
          have hT13 : ∀ j, j < 40 → M_3 (13 + 4) j = 0 := fun j hj => (hfp _ j (by decide) (by decide)).trans ((htc j hj).trans (by rw [hT j hj]; exact bool0))
          have hT1 : ∀ j, j < 40 → M_3 (1 + 4) j = 0 := fun j hj => (hfp _ j (by decide) (by decide)).trans ((hfc _ j (by decide)).trans (hT j hj))
          refine s_iload_n (k := 3) hX dX9_tried_110 rfl rfl ?_
          refine s_if_eq (tgt := 127) hX dX9_tried_111 (by decide) (fun c111 => ?_) (fun c111 => ?_)
          · refine s_iload (k := 4) hX dX9_tried_127 rfl ?_
            refine s_if_eq (tgt := 146) hX dX9_tried_129 (by decide) (fun c129 => ?_) (fun c129 => ?_)
            · refine s_iload_n (k := 2) hX dX9_tried_146 rfl rfl ?_
              by_cases sw147 : what.toInt < 0 ∨ 2 < what.toInt
              · refine s_tabOut (tgt := 196) hX dX9_tried_147 sw147 (by decide) ?_
                refine s_aload_n (k := 0) hX dX9_tried_196 rfl rfl ?_
                refine s_get hX fX9_19 oC0 rfl dX9_tried_197 ?_
                refine s_callVi hX (c_X2_sumOfX 13 (Or.inr (Or.inr rfl)) M_3 hT13) mX2_sumOfX lX9_165 (by decide) (by decide) oC13 rfl rfl rfl rfl rfl (by decide) dX9_tried_200 (fun r200 M_4 hp200 => ?_)
                obtain ⟨rfl, h2⟩ := hp200
                subst h2
                refine s_aload_n (k := 0) hX dX9_tried_203 rfl rfl ?_
                refine s_get hX fX9_10 oC0 rfl dX9_tried_204 ?_
                refine s_callVi hX (c_X2_sumOfX 1 (Or.inl rfl) M_3 hT1) mX2_sumOfX lX9_165 (by decide) (by decide) oC1 rfl rfl rfl rfl rfl (by decide) dX9_tried_207 (fun r207 M_5 hp207 => ?_)
                obtain ⟨rfl, h2⟩ := hp207
                subst h2
                refine s_isub hX dX9_tried_210 ?_
                exact s_iret hX hR dX9_tried_211 (by rw [if_pos (by omega)]; decide)
              · obtain ⟨tv, htv, rfl⟩ := ixi (x := what) (n := 3) (by omega) (by omega)
                have htw : tv = 0 ∨ tv = 1 ∨ tv = 2 := by omega
                rcases htw with rfl | rfl | rfl
                · refine s_tabIn (tgt := 172) (off := 25) hX dX9_tried_147 (by decide) (by decide) (by decide) (by decide) ?_
                  refine s_aload_n (k := 0) hX dX9_tried_172 rfl rfl ?_
                  refine s_get hX fX9_32 oC0 rfl dX9_tried_173 ?_
                  refine s_get hX fX9_145 oC21 rfl dX9_tried_176 ?_
                  exact s_iret hX hR dX9_tried_179 (by rw [if_pos (by omega)]; exact hp1)
                · refine s_tabIn (tgt := 180) (off := 33) hX dX9_tried_147 (by decide) (by decide) (by decide) (by decide) ?_
                  refine s_aload_n (k := 0) hX dX9_tried_180 rfl rfl ?_
                  refine s_get hX fX9_32 oC0 rfl dX9_tried_181 ?_
                  refine s_get hX fX9_158 oC21 rfl dX9_tried_184 ?_
                  exact s_iret hX hR dX9_tried_187 (by rw [if_pos (by omega)]; exact hp2)
                · refine s_tabIn (tgt := 188) (off := 41) hX dX9_tried_147 (by decide) (by decide) (by decide) (by decide) ?_
                  refine s_aload_n (k := 0) hX dX9_tried_188 rfl rfl ?_
                  refine s_get hX fX9_19 oC0 rfl dX9_tried_189 ?_
                  refine s_callVi hX (c_X2_countSunk 13 (Or.inr (Or.inr rfl)) M_3 hT13) mX2_countSunk lX9_161 (by decide) (by decide) oC13 rfl rfl rfl rfl rfl (by decide) dX9_tried_192 (fun r192 M_6 hp192 => ?_)
                  obtain ⟨rfl, h2⟩ := hp192
                  subst h2
                  exact s_iret hX hR dX9_tried_195 (by rw [if_pos (by omega)]; rfl)
            · first | exact absurd (by decide) c129 | exact absurd c129 (by decide)
          · first | exact absurd (by decide) c111 | exact absurd c111 (by decide)
        · replace c68 := mt (q_le (by omega)).mpr c68
          refine s_iload_n (k := 3) hX dX9_tried_71 rfl rfl ?_
          refine s_if_ne (tgt := 83) hX dX9_tried_72 (by decide) (fun c72 => ?_) (fun c72 => ?_)
          · first | exact absurd (by decide) c72 | exact absurd c72 (by decide)
          · refine s_iload (k := 4) hX dX9_tried_75 rfl ?_
            refine s_if_ne (tgt := 83) hX dX9_tried_77 (by decide) (fun c77 => ?_) (fun c77 => ?_)
            · first | exact absurd (by decide) c77 | exact absurd c77 (by decide)
            · refine s_ldc (v := (-100000)) hX kX9_148 dX9_tried_80 ?_
              exact s_iret hX hR dX9_tried_82 (by rw [if_neg (by omega)])
  have jn26 : V X M [(0, .ref (ad 0)), (1, .int n), (2, .int what), (3, .int (nI 0))] [] 26 := by
    refine s_iload_n (k := 2) hX dX9_tried_26 rfl rfl ?_
    refine s_sipush (v := (nI 200)) hX dX9_tried_27 (by decide) ?_
    refine s_icmp_lt (tgt := 52) hX dX9_tried_30 (by decide) (fun c30 => ?_) (fun c30 => ?_)
    · replace c30 := (q_lt (by omega)).mp c30
      refine s_iconst (v := (nI 0)) hX dX9_tried_52 (by decide) ?_
      refine s_istore (lv' := [(0, .ref (ad 0)), (1, .int n), (2, .int what), (3, .int (nI 0)), (4, .int (nI 0))]) hX dX9_tried_53 (by decide) rfl ?_
      exact jn55
    · replace c30 := mt (q_lt (by omega)).mpr c30
      refine s_aload_n (k := 0) hX dX9_tried_33 rfl rfl ?_
      refine s_get hX fX9_10 oC0 rfl dX9_tried_34 ?_
      refine s_iload_n (k := 2) hX dX9_tried_37 rfl rfl ?_
      refine s_sipush (v := (nI 200)) hX dX9_tried_38 (by decide) ?_
      refine s_isub hX dX9_tried_41 ?_
      refine s_callVi hX (c_X2_isTold 1 (Or.inl rfl) (what - nI 200) M hT) mX2_isTold lX9_98 (by decide) (by decide) oC1 rfl rfl rfl rfl rfl (by decide) dX9_tried_42 (fun r42 M_8 hp42 => ?_)
      obtain ⟨rfl, h2⟩ := hp42
      subst h2
      refine s_if_eq (tgt := 52) hX dX9_tried_45 (by decide) (fun c45 => ?_) (fun c45 => ?_)
      · refine s_iconst (v := (nI 0)) hX dX9_tried_52 (by decide) ?_
        refine s_istore (lv' := [(0, .ref (ad 0)), (1, .int n), (2, .int what), (3, .int (nI 0)), (4, .int (nI 0))]) hX dX9_tried_53 (by decide) rfl ?_
        exact jn55
      · first | exact absurd (by decide) c45 | exact absurd c45 (by decide)
  refine s_iload_n (k := 2) hX dX9_tried_0 rfl rfl ?_
  refine s_bipush (v := (nI 100)) hX dX9_tried_1 (by decide) ?_
  refine s_icmp_lt (tgt := 24) hX dX9_tried_3 (by decide) (fun c3 => ?_) (fun c3 => ?_)
  · replace c3 := (q_lt (by omega)).mp c3
    refine s_iconst (v := (nI 0)) hX dX9_tried_24 (by decide) ?_
    refine s_istore_n (lv' := [(0, .ref (ad 0)), (1, .int n), (2, .int what), (3, .int (nI 0))]) hX dX9_tried_25 rfl (by decide) rfl ?_
    exact jn26
  · replace c3 := mt (q_lt (by omega)).mpr c3
    refine s_aload_n (k := 0) hX dX9_tried_6 rfl rfl ?_
    refine s_get hX fX9_10 oC0 rfl dX9_tried_7 ?_
    refine s_iload_n (k := 2) hX dX9_tried_10 rfl rfl ?_
    refine s_bipush (v := (nI 100)) hX dX9_tried_11 (by decide) ?_
    refine s_isub hX dX9_tried_13 ?_
    refine s_callVi hX (c_X2_isTold 1 (Or.inl rfl) (what - nI 100) M hT) mX2_isTold lX9_98 (by decide) (by decide) oC1 rfl rfl rfl rfl rfl (by decide) dX9_tried_14 (fun r14 M_11 hp14 => ?_)
    obtain ⟨rfl, h2⟩ := hp14
    subst h2
    refine s_if_eq (tgt := 24) hX dX9_tried_17 (by decide) (fun c17 => ?_) (fun c17 => ?_)
    · refine s_iconst (v := (nI 0)) hX dX9_tried_24 (by decide) ?_
      refine s_istore_n (lv' := [(0, .ref (ad 0)), (1, .int n), (2, .int what), (3, .int (nI 0))]) hX dX9_tried_25 rfl (by decide) rfl ?_
      exact jn26
    · first | exact absurd (by decide) c17 | exact absurd c17 (by decide)
set_option maxHeartbeats 4000000 in
theorem c_X9_stoneIs (i w : Int32) (M : Mem) (hF : FrC M) : AM yX9_stoneIs cX9_stoneIs 3 (some .int) 1 60 glC (fun ad => [.ref (ad 0), .int i, .int w]) M (PI (fun r _ => r = -1)) := by
  refine AM.of (by decide) (fun _ => Nat.le_of_ble_eq_true rfl) (fun X ad cI cZ cB hX hR => ?_)
  show V X M [(0, .ref (ad 0)), (1, .int i), (2, .int w)] [] 0
  obtain ⟨hT, hS, hz, hn, hd, hr, hk, hu⟩ := hF
  refine s_aload_n (k := 0) hX dX9_stoneIs_0 rfl rfl ?_
  refine s_get hX fX9_10 oC0 rfl dX9_stoneIs_1 ?_
  refine s_iload_n (k := 1) hX dX9_stoneIs_4 rfl rfl ?_
  refine s_callVi hX (c_X2_isTold 1 (Or.inl rfl) i M hT) mX2_isTold lX9_98 (by decide) (by decide) oC1 rfl rfl rfl rfl rfl (by decide) dX9_stoneIs_5 (fun r5 M_1 hp5 => ?_)
  obtain ⟨rfl, h2⟩ := hp5
  subst h2
  refine s_if_ne (tgt := 13) hX dX9_stoneIs_8 (by decide) (fun c8 => ?_) (fun c8 => ?_)
  · first | exact absurd (by decide) c8 | exact absurd c8 (by decide)
  · refine s_iconst (v := (-1)) hX dX9_stoneIs_11 (by decide) ?_
    exact s_iret hX hR dX9_stoneIs_12 rfl
set_option maxHeartbeats 4000000 in
theorem c_X9_at (x y : Int32) (M : Mem) (hF : FrC M) : AM yX9_at cX9_at 4 (some .int) 1 60 glC (fun ad => [.ref (ad 0), .int x, .int y]) M (PI (fun r _ => r = if 0 ≤ x.toInt ∧ x.toInt ≤ 39 ∧ 1 ≤ y.toInt ∧ y.toInt ≤ 20 then -2 else -1)) := by
  refine AM.of (by decide) (fun _ => Nat.le_of_ble_eq_true rfl) (fun X ad cI cZ cB hX hR => ?_)
  show V X M [(0, .ref (ad 0)), (1, .int x), (2, .int y)] [] 0
  obtain ⟨hT, hS, hz, hn, hd, hr, hk, hu⟩ := hF
  refine s_iload_n (k := 1) hX dX9_at_0 rfl rfl ?_
  refine s_iload_n (k := 2) hX dX9_at_1 rfl rfl ?_
  refine s_callSi hX (c_X9_isPlace x y M) mX9_isPlace lX9_86 (by decide) (by decide) rfl rfl (by decide) dX9_at_2 (fun r2 M_1 hp2 => ?_)
  obtain ⟨rfl, h2⟩ := hp2
  subst h2
  refine s_if_ne (tgt := 10) hX dX9_at_5 (by decide) (fun c5 => ?_) (fun c5 => ?_)
  · replace c5 := bI_ne c5
    refine s_aload_n (k := 0) hX dX9_at_10 rfl rfl ?_
    refine s_get hX fX9_10 oC0 rfl dX9_at_11 ?_
    refine s_iload_n (k := 1) hX dX9_at_14 rfl rfl ?_
    refine s_iload_n (k := 2) hX dX9_at_15 rfl rfl ?_
    refine s_callVi hX (c_X2_stoneAt 1 (Or.inl rfl) x y M hT) mX2_stoneAt lX9_90 (by decide) (by decide) oC1 rfl rfl rfl rfl rfl (by decide) dX9_at_16 (fun r16 M_2 hp16 => ?_)
    obtain ⟨rfl, h2⟩ := hp16
    subst h2
    refine s_istore_n (lv' := [(0, .ref (ad 0)), (1, .int x), (2, .int y), (3, .int (-1))]) hX dX9_at_19 rfl (by decide) rfl ?_
    refine s_iload_n (k := 3) hX dX9_at_20 rfl rfl ?_
    refine s_iconst (v := (-1)) hX dX9_at_21 (by decide) ?_
    refine s_icmp_ne (tgt := 30) hX dX9_at_22 (by decide) (fun c22 => ?_) (fun c22 => ?_)
    · first | exact absurd (by decide) c22 | exact absurd c22 (by decide)
    · refine s_bipush (v := (-2)) hX dX9_at_25 (by decide) ?_
      refine s_goto (tgt := 31) hX dX9_at_27 (by decide) ?_
      exact s_iret hX hR dX9_at_31 (by rw [if_pos (by omega)])
  · replace c5 := bI_eq c5
    refine s_iconst (v := (-1)) hX dX9_at_8 (by decide) ?_
    exact s_iret hX hR dX9_at_9 (by rw [if_neg (by omega)])
set_option maxHeartbeats 4000000 in
theorem c_X9_cross (p w : Int32) (M : Mem) (hF : FrC M) : AM yX9_cross cX9_cross 4 (some .int) 1 60 glC (fun ad => [.ref (ad 0), .int p, .int w]) M (PI (fun r _ => r = -1)) := by
  refine AM.of (by decide) (fun _ => Nat.le_of_ble_eq_true rfl) (fun X ad cI cZ cB hX hR => ?_)
  show V X M [(0, .ref (ad 0)), (1, .int p), (2, .int w)] [] 0
  obtain ⟨hT, hS, hz, hn, hd, hr, hk, hu⟩ := hF
  refine s_aload_n (k := 0) hX dX9_cross_0 rfl rfl ?_
  refine s_iload_n (k := 1) hX dX9_cross_1 rfl rfl ?_
  refine s_callVi hX (c_X9_strideOf p M hS) mX9_strideOf lX9_175 (by decide) (by decide) oC0 rfl rfl rfl rfl rfl (by decide) dX9_cross_2 (fun r2 M_1 hp2 => ?_)
  obtain ⟨rfl, h2⟩ := hp2
  subst h2
  refine s_istore_n (lv' := [(0, .ref (ad 0)), (1, .int p), (2, .int w), (3, .int (nI 0))]) hX dX9_cross_5 rfl (by decide) rfl ?_
  refine s_iload_n (k := 3) hX dX9_cross_6 rfl rfl ?_
  refine s_if_eq (tgt := 29) hX dX9_cross_7 (by decide) (fun c7 => ?_) (fun c7 => ?_)
  · refine s_iconst (v := (-1)) hX dX9_cross_29 (by decide) ?_
    exact s_iret hX hR dX9_cross_30 rfl
  · first | exact absurd (by decide) c7 | exact absurd c7 (by decide)
set_option maxHeartbeats 4000000 in
theorem c_X9_driest (p w : Int32) (M : Mem) (hF : FrC M) : AM yX9_driest cX9_driest 4 (some .int) 1 60 glC (fun ad => [.ref (ad 0), .int p, .int w]) M (PI (fun r _ => r = -1)) := by
  refine AM.of (by decide) (fun _ => Nat.le_of_ble_eq_true rfl) (fun X ad cI cZ cB hX hR => ?_)
  show V X M [(0, .ref (ad 0)), (1, .int p), (2, .int w)] [] 0
  obtain ⟨hT, hS, hz, hn, hd, hr, hk, hu⟩ := hF
  refine s_aload_n (k := 0) hX dX9_driest_0 rfl rfl ?_
  refine s_iload_n (k := 1) hX dX9_driest_1 rfl rfl ?_
  refine s_callVi hX (c_X9_strideOf p M hS) mX9_strideOf lX9_175 (by decide) (by decide) oC0 rfl rfl rfl rfl rfl (by decide) dX9_driest_2 (fun r2 M_1 hp2 => ?_)
  obtain ⟨rfl, h2⟩ := hp2
  subst h2
  refine s_istore_n (lv' := [(0, .ref (ad 0)), (1, .int p), (2, .int w), (3, .int (nI 0))]) hX dX9_driest_5 rfl (by decide) rfl ?_
  refine s_iload_n (k := 3) hX dX9_driest_6 rfl rfl ?_
  refine s_if_eq (tgt := 17) hX dX9_driest_7 (by decide) (fun c7 => ?_) (fun c7 => ?_)
  · refine s_iconst (v := (-1)) hX dX9_driest_17 (by decide) ?_
    exact s_iret hX hR dX9_driest_18 rfl
  · first | exact absurd (by decide) c7 | exact absurd c7 (by decide)
set_option maxHeartbeats 4000000 in
theorem c_X9_howFar (p : Int32) (M : Mem) (hF : FrC M) : AM yX9_howFar cX9_howFar 3 (some .int) 1 60 glC (fun ad => [.ref (ad 0), .int p]) M (PI (fun r _ => r = -1)) := by
  refine AM.of (by decide) (fun _ => Nat.le_of_ble_eq_true rfl) (fun X ad cI cZ cB hX hR => ?_)
  show V X M [(0, .ref (ad 0)), (1, .int p)] [] 0
  obtain ⟨hT, hS, hz, hn, hd, hr, hk, hu⟩ := hF
  refine s_aload_n (k := 0) hX dX9_howFar_0 rfl rfl ?_
  refine s_iload_n (k := 1) hX dX9_howFar_1 rfl rfl ?_
  refine s_callVi hX (c_X9_strideOf p M hS) mX9_strideOf lX9_175 (by decide) (by decide) oC0 rfl rfl rfl rfl rfl (by decide) dX9_howFar_2 (fun r2 M_1 hp2 => ?_)
  obtain ⟨rfl, h2⟩ := hp2
  subst h2
  refine s_istore_n (lv' := [(0, .ref (ad 0)), (1, .int p), (2, .int (nI 0))]) hX dX9_howFar_5 rfl (by decide) rfl ?_
  refine s_iload_n (k := 2) hX dX9_howFar_6 rfl rfl ?_
  refine s_if_ne (tgt := 14) hX dX9_howFar_7 (by decide) (fun c7 => ?_) (fun c7 => ?_)
  · first | exact absurd (by decide) c7 | exact absurd c7 (by decide)
  · refine s_iconst (v := (-1)) hX dX9_howFar_10 (by decide) ?_
    refine s_goto (tgt := 26) hX dX9_howFar_11 (by decide) ?_
    exact s_iret hX hR dX9_howFar_26 rfl
set_option maxHeartbeats 4000000 in
theorem c_X9_hold (p : Int32) (M : Mem) (hF : FrC M) : AM yX9_hold cX9_hold 3 (some .int) 1 60 glC (fun ad => [.ref (ad 0), .int p]) M (PI (fun r _ => r = -1)) := by
  refine AM.of (by decide) (fun _ => Nat.le_of_ble_eq_true rfl) (fun X ad cI cZ cB hX hR => ?_)
  show V X M [(0, .ref (ad 0)), (1, .int p)] [] 0
  obtain ⟨hT, hS, hz, hn, hd, hr, hk, hu⟩ := hF
  refine s_aload_n (k := 0) hX dX9_hold_0 rfl rfl ?_
  refine s_iload_n (k := 1) hX dX9_hold_1 rfl rfl ?_
  refine s_callVi hX (c_X9_strideOf p M hS) mX9_strideOf lX9_175 (by decide) (by decide) oC0 rfl rfl rfl rfl rfl (by decide) dX9_hold_2 (fun r2 M_1 hp2 => ?_)
  obtain ⟨rfl, h2⟩ := hp2
  subst h2
  refine s_istore_n (lv' := [(0, .ref (ad 0)), (1, .int p), (2, .int (nI 0))]) hX dX9_hold_5 rfl (by decide) rfl ?_
  refine s_iload_n (k := 2) hX dX9_hold_6 rfl rfl ?_
  refine s_if_ne (tgt := 12) hX dX9_hold_7 (by decide) (fun c7 => ?_) (fun c7 => ?_)
  · first | exact absurd (by decide) c7 | exact absurd c7 (by decide)
  · refine s_iconst (v := (-1)) hX dX9_hold_10 (by decide) ?_
    exact s_iret hX hR dX9_hold_11 rfl
set_option maxHeartbeats 4000000 in
theorem c_X9_oneMore (p w : Int32) (M : Mem) (hF : FrC M) : AM yX9_oneMore cX9_oneMore 4 (some .int) 1 60 glC (fun ad => [.ref (ad 0), .int p, .int w]) M (PI (fun r _ => r = -1)) := by
  refine AM.of (by decide) (fun _ => Nat.le_of_ble_eq_true rfl) (fun X ad cI cZ cB hX hR => ?_)
  show V X M [(0, .ref (ad 0)), (1, .int p), (2, .int w)] [] 0
  obtain ⟨hT, hS, hz, hn, hd, hr, hk, hu⟩ := hF
  refine s_aload_n (k := 0) hX dX9_oneMore_0 rfl rfl ?_
  refine s_iload_n (k := 1) hX dX9_oneMore_1 rfl rfl ?_
  refine s_callVi hX (c_X9_strideOf p M hS) mX9_strideOf lX9_175 (by decide) (by decide) oC0 rfl rfl rfl rfl rfl (by decide) dX9_oneMore_2 (fun r2 M_1 hp2 => ?_)
  obtain ⟨rfl, h2⟩ := hp2
  subst h2
  refine s_istore_n (lv' := [(0, .ref (ad 0)), (1, .int p), (2, .int w), (3, .int (nI 0))]) hX dX9_oneMore_5 rfl (by decide) rfl ?_
  refine s_iload_n (k := 3) hX dX9_oneMore_6 rfl rfl ?_
  refine s_if_eq (tgt := 17) hX dX9_oneMore_7 (by decide) (fun c7 => ?_) (fun c7 => ?_)
  · refine s_iconst (v := (-1)) hX dX9_oneMore_17 (by decide) ?_
    exact s_iret hX hR dX9_oneMore_18 rfl
  · first | exact absurd (by decide) c7 | exact absurd c7 (by decide)
set_option maxHeartbeats 4000000 in
theorem c_X9_key (p w : Int32) (M : Mem) (hF : FrC M) : AM yX9_key cX9_key 7 (some .int) 1 60 glC (fun ad => [.ref (ad 0), .int p, .int w]) M (PI (fun r _ => r = -1)) := by
  refine AM.of (by decide) (fun _ => Nat.le_of_ble_eq_true rfl) (fun X ad cI cZ cB hX hR => ?_)
  show V X M [(0, .ref (ad 0)), (1, .int p), (2, .int w)] [] 0
  obtain ⟨hT, hS, hz, hn, hd, hr, hk, hu⟩ := hF
  refine s_aload_n (k := 0) hX dX9_key_0 rfl rfl ?_
  refine s_iload_n (k := 1) hX dX9_key_1 rfl rfl ?_
  refine s_callVi hX (c_X9_strideOf p M hS) mX9_strideOf lX9_175 (by decide) (by decide) oC0 rfl rfl rfl rfl rfl (by decide) dX9_key_2 (fun r2 M_1 hp2 => ?_)
  obtain ⟨rfl, h2⟩ := hp2
  subst h2
  refine s_istore_n (lv' := [(0, .ref (ad 0)), (1, .int p), (2, .int w), (3, .int (nI 0))]) hX dX9_key_5 rfl (by decide) rfl ?_
  refine s_iload_n (k := 3) hX dX9_key_6 rfl rfl ?_
  refine s_if_eq (tgt := 17) hX dX9_key_7 (by decide) (fun c7 => ?_) (fun c7 => ?_)
  · refine s_iconst (v := (-1)) hX dX9_key_17 (by decide) ?_
    exact s_iret hX hR dX9_key_18 rfl
  · first | exact absurd (by decide) c7 | exact absurd c7 (by decide)
set_option maxHeartbeats 4000000 in
theorem c_X9_firstNight (p : Int32) (M : Mem) (hF : FrC M) : AM yX9_firstNight cX9_firstNight 4 (some .int) 1 60 glC (fun ad => [.ref (ad 0), .int p]) M (PI (fun r _ => r = -1)) := by
  refine AM.of (by decide) (fun _ => Nat.le_of_ble_eq_true rfl) (fun X ad cI cZ cB hX hR => ?_)
  show V X M [(0, .ref (ad 0)), (1, .int p)] [] 0
  obtain ⟨hT, hS, hz, hn, hd, hr, hk, hu⟩ := hF
  refine s_aload_n (k := 0) hX dX9_firstNight_0 rfl rfl ?_
  refine s_iload_n (k := 1) hX dX9_firstNight_1 rfl rfl ?_
  refine s_callVi hX (c_X9_strideOf p M hS) mX9_strideOf lX9_175 (by decide) (by decide) oC0 rfl rfl rfl rfl rfl (by decide) dX9_firstNight_2 (fun r2 M_1 hp2 => ?_)
  obtain ⟨rfl, h2⟩ := hp2
  subst h2
  refine s_istore_n (lv' := [(0, .ref (ad 0)), (1, .int p), (2, .int (nI 0))]) hX dX9_firstNight_5 rfl (by decide) rfl ?_
  refine s_iload_n (k := 2) hX dX9_firstNight_6 rfl rfl ?_
  refine s_if_ne (tgt := 12) hX dX9_firstNight_7 (by decide) (fun c7 => ?_) (fun c7 => ?_)
  · first | exact absurd (by decide) c7 | exact absurd c7 (by decide)
  · refine s_iconst (v := (-1)) hX dX9_firstNight_10 (by decide) ?_
    exact s_iret hX hR dX9_firstNight_11 rfl
set_option maxHeartbeats 4000000 in
theorem c_X9_walk (p x n w : Int32) (M : Mem) (hF : FrC M) : AM yX9_walk cX9_walk 6 (some .int) 1 60 glC (fun ad => [.ref (ad 0), .int p, .int x, .int n, .int w]) M (PI (fun r _ => r = -1)) := by
  refine AM.of (by decide) (fun _ => Nat.le_of_ble_eq_true rfl) (fun X ad cI cZ cB hX hR => ?_)
  show V X M [(0, .ref (ad 0)), (1, .int p), (2, .int x), (3, .int n), (4, .int w)] [] 0
  obtain ⟨hT, hS, hz, hn, hd, hr, hk, hu⟩ := hF
  refine s_aload_n (k := 0) hX dX9_walk_0 rfl rfl ?_
  refine s_iload_n (k := 1) hX dX9_walk_1 rfl rfl ?_
  refine s_callVi hX (c_X9_strideOf p M hS) mX9_strideOf lX9_175 (by decide) (by decide) oC0 rfl rfl rfl rfl rfl (by decide) dX9_walk_2 (fun r2 M_1 hp2 => ?_)
  obtain ⟨rfl, h2⟩ := hp2
  subst h2
  refine s_istore (lv' := [(0, .ref (ad 0)), (1, .int p), (2, .int x), (3, .int n), (4, .int w), (5, .int (nI 0))]) hX dX9_walk_5 (by decide) rfl ?_
  refine s_iload (k := 5) hX dX9_walk_7 rfl ?_
  refine s_if_eq (tgt := 47) hX dX9_walk_9 (by decide) (fun c9 => ?_) (fun c9 => ?_)
  · refine s_iconst (v := (-1)) hX dX9_walk_47 (by decide) ?_
    exact s_iret hX hR dX9_walk_48 rfl
  · first | exact absurd (by decide) c9 | exact absurd c9 (by decide)
set_option maxHeartbeats 4000000 in
theorem c_X9_meet (p q w : Int32) (M : Mem) (hF : FrC M) : AM yX9_meet cX9_meet 6 (some .int) 1 60 glC (fun ad => [.ref (ad 0), .int p, .int q, .int w]) M (PI (fun r _ => r = -1)) := by
  refine AM.of (by decide) (fun _ => Nat.le_of_ble_eq_true rfl) (fun X ad cI cZ cB hX hR => ?_)
  show V X M [(0, .ref (ad 0)), (1, .int p), (2, .int q), (3, .int w)] [] 0
  obtain ⟨hT, hS, hz, hn, hd, hr, hk, hu⟩ := hF
  refine s_aload_n (k := 0) hX dX9_meet_0 rfl rfl ?_
  refine s_iload_n (k := 1) hX dX9_meet_1 rfl rfl ?_
  refine s_callVi hX (c_X9_strideOf p M hS) mX9_strideOf lX9_175 (by decide) (by decide) oC0 rfl rfl rfl rfl rfl (by decide) dX9_meet_2 (fun r2 M_1 hp2 => ?_)
  obtain ⟨rfl, h2⟩ := hp2
  subst h2
  refine s_istore (lv' := [(0, .ref (ad 0)), (1, .int p), (2, .int q), (3, .int w), (4, .int (nI 0))]) hX dX9_meet_5 (by decide) rfl ?_
  refine s_aload_n (k := 0) hX dX9_meet_7 rfl rfl ?_
  refine s_iload_n (k := 2) hX dX9_meet_8 rfl rfl ?_
  refine s_callVi hX (c_X9_strideOf q M hS) mX9_strideOf lX9_175 (by decide) (by decide) oC0 rfl rfl rfl rfl rfl (by decide) dX9_meet_9 (fun r9 M_3 hp9 => ?_)
  obtain ⟨rfl, h2⟩ := hp9
  subst h2
  refine s_istore (lv' := [(0, .ref (ad 0)), (1, .int p), (2, .int q), (3, .int w), (4, .int (nI 0)), (5, .int (nI 0))]) hX dX9_meet_12 (by decide) rfl ?_
  refine s_iload (k := 4) hX dX9_meet_14 rfl ?_
  refine s_if_eq (tgt := 31) hX dX9_meet_16 (by decide) (fun c16 => ?_) (fun c16 => ?_)
  · refine s_iconst (v := (-1)) hX dX9_meet_31 (by decide) ?_
    exact s_iret hX hR dX9_meet_32 rfl
  · first | exact absurd (by decide) c16 | exact absurd c16 (by decide)
set_option maxHeartbeats 4000000 in
theorem c_X9_leastStride (M : Mem) (hF : FrC M) : AM yX9_leastStride cX9_leastStride 2 (some .int) 5 60 glC (fun ad => [.ref (ad 0)]) M (PI (fun r _ => r = nI 21)) := by
  refine AM.of (by decide) (fun _ => Nat.le_of_ble_eq_true rfl) (fun X ad cI cZ cB hX hR => ?_)
  show V X M [(0, .ref (ad 0))] [] 0
  obtain ⟨hT, hS, hz, hn, hd, hr, hk, hu⟩ := hF
  refine s_iconst (v := (nI 1)) hX dX9_leastStride_0 (by decide) ?_
  refine s_istore_n (lv' := [(0, .ref (ad 0)), (1, .int (nI 1))]) hX dX9_leastStride_1 rfl (by decide) rfl ?_
  have lp2 : ∀ (N2 : Nat) (i : Nat) (Mi : Mem), (1 ≤ i) → (i ≤ 21) → (21 < i + N2) → (∀ j, j < 40 → Mi 5 j = 0) → V X Mi [(0, .ref (ad 0)), (1, .int (nI i))] [] 2 := by
    intro N2
    induction N2 with
    | zero => intro i Mi hi1 hi hN2 hTi; exact absurd hN2 (by omega)
    | succ N2 ih2 =>
      intro i Mi hi1 hi hN2 hTi
      refine s_iload_n (k := 1) hX dX9_leastStride_2 rfl rfl ?_
      refine s_bipush (v := (nI 30)) hX dX9_leastStride_3 (by decide) ?_
      refine s_icmp_gt (tgt := 31) hX dX9_leastStride_5 (by decide) (fun c5 => ?_) (fun c5 => ?_)
      · replace c5 := (nI_ltI (by omega) (by omega)).mp c5
        omega
      · replace c5 := mt (nI_ltI (by omega) (by omega)).mpr c5
        refine s_aload_n (k := 0) hX dX9_leastStride_8 rfl rfl ?_
        refine s_get hX fX9_39 oC0 rfl dX9_leastStride_9 ?_
        refine s_aload_n (k := 0) hX dX9_leastStride_12 rfl rfl ?_
        refine s_get hX fX9_10 oC0 rfl dX9_leastStride_13 ?_
        refine s_iload_n (k := 1) hX dX9_leastStride_16 rfl rfl ?_
        refine s_callVi hX (c_X8_canCross 1 (Or.inl rfl) (nI i) Mi hTi) mX8_canCross lX9_188 (by decide) (by decide) oC23 rfl rfl rfl rfl rfl (by decide) dX9_leastStride_17 (fun r17 M_2 hp17 => ?_)
        obtain ⟨rfl, hfq⟩ := hp17
        refine s_if_eq (tgt := 25) hX dX9_leastStride_20 (by decide) (fun c20 => ?_) (fun c20 => ?_)
        · replace c20 := bI_eq c20; rw [nI_toInt (by omega)] at c20
          refine s_iinc (k := 1) (v := nI (i + 1)) (lv' := [(0, .ref (ad 0)), (1, .int (nI (i + 1)))]) hX dX9_leastStride_25 (nI_1 _) (by decide) rfl rfl ?_
          refine s_goto (tgt := 2) hX dX9_leastStride_28 (by decide) ?_
          exact ih2 (i + 1) _ (by omega) (by omega) (by omega) (fun j hj => (hfq 5 j (by decide) (by decide)).trans (hTi j hj))
        · replace c20 := bI_ne c20; rw [nI_toInt (by omega)] at c20
          refine s_iload_n (k := 1) hX dX9_leastStride_23 rfl rfl ?_
          exact s_iret hX hR dX9_leastStride_24 (by rw [show i = 21 by omega])
  exact lp2 22 1 M (by omega) (by omega) (by omega) hT
set_option maxHeartbeats 4000000 in
theorem c_X9_islands (s what : Int32) (M : Mem) (hF : FrC M) : AM yX9_islands cX9_islands 3 (some .int) 2 60 glC (fun ad => [.ref (ad 0), .int s, .int what]) M (PI (fun r _ => r = if (1 ≤ s.toInt ∧ s.toInt ≤ 30) ∧ what.toInt = 100 then nI 0 else -1)) := by
  refine AM.of (by decide) (fun _ => Nat.le_of_ble_eq_true rfl) (fun X ad cI cZ cB hX hR => ?_)
  show V X M [(0, .ref (ad 0)), (1, .int s), (2, .int what)] [] 0
  obtain ⟨hT, hS, hz, hn, hd, hr, hk, hu⟩ := hF
  refine s_iload_n (k := 1) hX dX9_islands_0 rfl rfl ?_
  refine s_callSi hX (c_X9_isStride s M) mX9_isStride lX9_108 (by decide) (by decide) rfl rfl (by decide) dX9_islands_1 (fun r1 M_1 hp1 => ?_)
  obtain ⟨rfl, h2⟩ := hp1
  subst h2
  refine s_if_ne (tgt := 9) hX dX9_islands_4 (by decide) (fun c4 => ?_) (fun c4 => ?_)
  · replace c4 := bI_ne c4
    refine s_iload_n (k := 2) hX dX9_islands_9 rfl rfl ?_
    refine s_bipush (v := (nI 100)) hX dX9_islands_10 (by decide) ?_
    refine s_icmp_ne (tgt := 28) hX dX9_islands_12 (by decide) (fun c12 => ?_) (fun c12 => ?_)
    · replace c12 := mt (q_eq (by omega)).mpr c12
      refine s_aload_n (k := 0) hX dX9_islands_28 rfl rfl ?_
      refine s_get hX fX9_10 oC0 rfl dX9_islands_29 ?_
      refine s_iload_n (k := 2) hX dX9_islands_32 rfl rfl ?_
      refine s_callVi hX (c_X2_isTold 1 (Or.inl rfl) what M hT) mX2_isTold lX9_98 (by decide) (by decide) oC1 rfl rfl rfl rfl rfl (by decide) dX9_islands_33 (fun r33 M_2 hp33 => ?_)
      obtain ⟨rfl, h2⟩ := hp33
      subst h2
      refine s_if_eq (tgt := 55) hX dX9_islands_36 (by decide) (fun c36 => ?_) (fun c36 => ?_)
      · refine s_iconst (v := (-1)) hX dX9_islands_55 (by decide) ?_
        exact s_iret hX hR dX9_islands_56 (by rw [if_neg (by omega)])
      · first | exact absurd (by decide) c36 | exact absurd c36 (by decide)
    · replace c12 := (q_eq (by omega)).mp c12
      refine s_aload_n (k := 0) hX dX9_islands_15 rfl rfl ?_
      refine s_get hX fX9_39 oC0 rfl dX9_islands_16 ?_
      refine s_aload_n (k := 0) hX dX9_islands_19 rfl rfl ?_
      refine s_get hX fX9_10 oC0 rfl dX9_islands_20 ?_
      refine s_iload_n (k := 1) hX dX9_islands_23 rfl rfl ?_
      refine s_callVi hX (c_X8_countIslands 1 (Or.inl rfl) s M hT) mX8_countIslands lX9_202 (by decide) (by decide) oC23 rfl rfl rfl rfl rfl (by decide) dX9_islands_24 (fun r24 M_3 hp24 => ?_)
      have hri := hp24
      exact s_iret hX hR dX9_islands_27 (by rw [if_pos (by omega)]; exact hri)
  · replace c4 := bI_eq c4
    refine s_iconst (v := (-1)) hX dX9_islands_7 (by decide) ?_
    exact s_iret hX hR dX9_islands_8 (by rw [if_neg (by omega)])
set_option maxHeartbeats 4000000 in
theorem c_X9_market (M : Mem) (hF : FrC M) : AM yX9_market cX9_market 3 (some .int) 5 60 glC (fun ad => [.ref (ad 0)]) M (PI (fun r _ => r = nI 0)) := by
  refine AM.of (by decide) (fun _ => Nat.le_of_ble_eq_true rfl) (fun X ad cI cZ cB hX hR => ?_)
  show V X M [(0, .ref (ad 0))] [] 0
  obtain ⟨hT, hS, hz, hn, hd, hr, hk, hu⟩ := hF
  refine s_iconst (v := (nI 0)) hX dX9_market_0 (by decide) ?_
  refine s_istore_n (lv' := [(0, .ref (ad 0)), (1, .int (nI 0))]) hX dX9_market_1 rfl (by decide) rfl ?_
  refine s_iconst (v := (nI 0)) hX dX9_market_2 (by decide) ?_
  refine s_istore_n (lv' := [(0, .ref (ad 0)), (1, .int (nI 0)), (2, .int (nI 0))]) hX dX9_market_3 rfl (by decide) rfl ?_
  have lp4 : ∀ (N4 : Nat) (i : Nat), (i ≤ 8) → (8 < i + N4) → V X M [(0, .ref (ad 0)), (1, .int (nI 0)), (2, .int (nI i))] [] 4 := by
    intro N4
    induction N4 with
    | zero => intro i hi hN4; exact absurd hN4 (by omega)
    | succ N4 ih4 =>
      intro i hi hN4
      refine s_iload_n (k := 2) hX dX9_market_4 rfl rfl ?_
      refine s_bipush (v := (nI 8)) hX dX9_market_5 (by decide) ?_
      refine s_icmp_ge (tgt := 51) hX dX9_market_7 (by decide) (fun c7 => ?_) (fun c7 => ?_)
      · replace c7 := (nI_leI (by omega) (by omega)).mp c7
        refine s_iload_n (k := 1) hX dX9_market_51 rfl rfl ?_
        exact s_iret hX hR dX9_market_52 rfl
      · replace c7 := mt (nI_leI (by omega) (by omega)).mpr c7
        refine s_aload_n (k := 0) hX dX9_market_10 rfl rfl ?_
        refine s_get hX fX9_64 oC0 rfl dX9_market_11 ?_
        refine s_iload_n (k := 2) hX dX9_market_14 rfl rfl ?_
        refine s_ialdN hX aC43 (by omega) dX9_market_15 ?_
        refine s_if_eq (tgt := 45) hX dX9_market_16 (by decide) (fun c16 => ?_) (fun c16 => ?_)
        · refine s_iinc (k := 2) (v := nI (i + 1)) (lv' := [(0, .ref (ad 0)), (1, .int (nI 0)), (2, .int (nI (i + 1)))]) hX dX9_market_45 (nI_1 _) (by decide) rfl rfl ?_
          refine s_goto (tgt := 4) hX dX9_market_48 (by decide) ?_
          exact ih4 (i + 1) (by omega) (by omega)
        · exact absurd (hS i (by omega)) c16
  exact lp4 9 0 (by omega) (by omega)
set_option maxHeartbeats 4000000 in
theorem c_X9_chalk (n w : Int32) (M : Mem) (hF : FrC M) : AM yX9_chalk cX9_chalk 3 (some .int) 1 60 glC (fun ad => [.ref (ad 0), .int n, .int w]) M (PI (fun r _ => r = -1)) := by
  refine AM.of (by decide) (fun _ => Nat.le_of_ble_eq_true rfl) (fun X ad cI cZ cB hX hR => ?_)
  show V X M [(0, .ref (ad 0)), (1, .int n), (2, .int w)] [] 0
  obtain ⟨hT, hS, hz, hn, hd, hr, hk, hu⟩ := hF
  have hz0 : (M 19 1).toInt = 0 := by rw [hz]; decide
  refine s_iload_n (k := 1) hX dX9_chalk_0 rfl rfl ?_
  refine s_iconst (v := (nI 1)) hX dX9_chalk_1 (by decide) ?_
  refine s_icmp_lt (tgt := 27) hX dX9_chalk_2 (by decide) (fun c2 => ?_) (fun c2 => ?_)
  · replace c2 := (q_lt (by omega)).mp c2
    refine s_iconst (v := (-1)) hX dX9_chalk_27 (by decide) ?_
    exact s_iret hX hR dX9_chalk_28 rfl
  · replace c2 := mt (q_lt (by omega)).mpr c2
    refine s_iload_n (k := 1) hX dX9_chalk_5 rfl rfl ?_
    refine s_bipush (v := (nI 7)) hX dX9_chalk_6 (by decide) ?_
    refine s_icmp_gt (tgt := 27) hX dX9_chalk_8 (by decide) (fun c8 => ?_) (fun c8 => ?_)
    · replace c8 := (q_gt (by omega)).mp c8
      refine s_iconst (v := (-1)) hX dX9_chalk_27 (by decide) ?_
      exact s_iret hX hR dX9_chalk_28 rfl
    · replace c8 := mt (q_gt (by omega)).mpr c8
      refine s_aload_n (k := 0) hX dX9_chalk_11 rfl rfl ?_
      refine s_get hX fX9_25 oC0 rfl dX9_chalk_12 ?_
      refine s_iconst (v := (nI 2)) hX dX9_chalk_15 (by decide) ?_
      refine s_iload_n (k := 1) hX dX9_chalk_16 rfl rfl ?_
      refine s_imul hX dX9_chalk_17 ?_
      refine s_iconst (v := (nI 2)) hX dX9_chalk_18 (by decide) ?_
      refine s_bipush (v := (nI 14)) hX dX9_chalk_19 (by decide) ?_
      refine s_callVi hX (c_X7_holds (nI 2 * n) (nI 2) (nI 14) M) mX7_holds lX9_119 (by decide) (by decide) oC19 rfl rfl rfl rfl rfl (by decide) dX9_chalk_21 (fun r21 M_1 hp21 => ?_)
      obtain ⟨rfl, h2⟩ := hp21
      subst h2
      refine s_if_ne (tgt := 29) hX dX9_chalk_24 (by decide) (fun c24 => ?_) (fun c24 => ?_)
      · replace c24 := bI_ne c24
        rw [hz0] at c24; have := nI2; omega
      · replace c24 := bI_eq c24
        refine s_iconst (v := (-1)) hX dX9_chalk_27 (by decide) ?_
        exact s_iret hX hR dX9_chalk_28 rfl
set_option maxHeartbeats 4000000 in
theorem c_X9_shape (what : Int32) (M : Mem) (hF : FrC M) : AM yX9_shape cX9_shape 2 (some .int) 3 60 glC (fun ad => [.ref (ad 0), .int what]) M (PI (fun r _ => r = if what.toInt = 0 ∨ what.toInt = 1 ∨ what.toInt = 2 then nI 0 else if what.toInt = 3 then -2 else -1)) := by
  refine AM.of (by decide) (fun _ => Nat.le_of_ble_eq_true rfl) (fun X ad cI cZ cB hX hR => ?_)
  show V X M [(0, .ref (ad 0)), (1, .int what)] [] 0
  obtain ⟨hT, hS, hz, hn, hd, hr, hk, hu⟩ := hF
  refine s_iload_n (k := 1) hX dX9_shape_0 rfl rfl ?_
  by_cases sw1 : what.toInt < 0 ∨ 3 < what.toInt
  · refine s_tabOut (tgt := 64) hX dX9_shape_1 sw1 (by decide) ?_
    refine s_iconst (v := (-1)) hX dX9_shape_64 (by decide) ?_
    exact s_iret hX hR dX9_shape_65 (by rw [if_neg (by omega), if_neg (by omega)])
  · obtain ⟨tv, htv, rfl⟩ := ixi (x := what) (n := 4) (by omega) (by omega)
    have htw : tv = 0 ∨ tv = 1 ∨ tv = 2 ∨ tv = 3 := by omega
    rcases htw with rfl | rfl | rfl | rfl
    · refine s_tabIn (tgt := 32) (off := 31) hX dX9_shape_1 (by decide) (by decide) (by decide) (by decide) ?_
      refine s_aload_n (k := 0) hX dX9_shape_32 rfl rfl ?_
      refine s_get hX fX9_10 oC0 rfl dX9_shape_33 ?_
      refine s_callSi hX (c_X6_line 1 (Or.inl rfl) M hT) mX6_line lX9_250 (by decide) (by decide) rfl rfl (by decide) dX9_shape_36 (fun r36 M_1 hp36 => ?_)
      have hrs := hp36
      exact s_iret hX hR dX9_shape_39 (by rw [if_pos (by decide)]; exact hrs)
    · refine s_tabIn (tgt := 40) (off := 39) hX dX9_shape_1 (by decide) (by decide) (by decide) (by decide) ?_
      refine s_aload_n (k := 0) hX dX9_shape_40 rfl rfl ?_
      refine s_get hX fX9_10 oC0 rfl dX9_shape_41 ?_
      refine s_callSi hX (c_X6_yardApart 1 (Or.inl rfl) M hT) mX6_yardApart lX9_256 (by decide) (by decide) rfl rfl (by decide) dX9_shape_44 (fun r44 M_2 hp44 => ?_)
      have hrs := hp44
      exact s_iret hX hR dX9_shape_47 (by rw [if_pos (by decide)]; exact hrs)
    · refine s_tabIn (tgt := 48) (off := 47) hX dX9_shape_1 (by decide) (by decide) (by decide) (by decide) ?_
      refine s_aload_n (k := 0) hX dX9_shape_48 rfl rfl ?_
      refine s_get hX fX9_10 oC0 rfl dX9_shape_49 ?_
      refine s_callSi hX (c_X6_pairs 1 (Or.inl rfl) M hT) mX6_pairs lX9_259 (by decide) (by decide) rfl rfl (by decide) dX9_shape_52 (fun r52 M_3 hp52 => ?_)
      have hrs := hp52
      exact s_iret hX hR dX9_shape_55 (by rw [if_pos (by decide)]; exact hrs)
    · refine s_tabIn (tgt := 56) (off := 55) hX dX9_shape_1 (by decide) (by decide) (by decide) (by decide) ?_
      refine s_aload_n (k := 0) hX dX9_shape_56 rfl rfl ?_
      refine s_get hX fX9_10 oC0 rfl dX9_shape_57 ?_
      refine s_callSi hX (c_X6_closest 1 (Or.inl rfl) M hT) mX6_closest lX9_262 (by decide) (by decide) rfl rfl (by decide) dX9_shape_60 (fun r60 M_4 hp60 => ?_)
      have hrs := hp60
      exact s_iret hX hR dX9_shape_63 (by rw [if_neg (by decide), if_pos (by decide)]; exact hrs)
set_option maxHeartbeats 4000000 in
theorem c_X9_letters (n w : Int32) (M : Mem) (hF : FrC M) : AM yX9_letters cX9_letters 4 (some .int) 1 60 glC (fun ad => [.ref (ad 0), .int n, .int w]) M (PI (fun r _ => r = -1)) := by
  refine AM.of (by decide) (fun _ => Nat.le_of_ble_eq_true rfl) (fun X ad cI cZ cB hX hR => ?_)
  show V X M [(0, .ref (ad 0)), (1, .int n), (2, .int w)] [] 0
  obtain ⟨hT, hS, hz, hn, hd, hr, hk, hu⟩ := hF
  have hz0 : (M 19 1).toInt = 0 := by rw [hz]; decide
  refine s_iload_n (k := 2) hX dX9_letters_0 rfl rfl ?_
  refine s_callSi hX (c_X9_isEither w M) mX9_isEither lX9_182 (by decide) (by decide) rfl rfl (by decide) dX9_letters_1 (fun r1 M_1 hp1 => ?_)
  obtain ⟨rfl, h2⟩ := hp1
  subst h2
  refine s_if_eq (tgt := 21) hX dX9_letters_4 (by decide) (fun c4 => ?_) (fun c4 => ?_)
  · replace c4 := bI_eq c4
    refine s_iconst (v := (-1)) hX dX9_letters_21 (by decide) ?_
    exact s_iret hX hR dX9_letters_22 rfl
  · replace c4 := bI_ne c4
    refine s_aload_n (k := 0) hX dX9_letters_7 rfl rfl ?_
    refine s_get hX fX9_25 oC0 rfl dX9_letters_8 ?_
    refine s_iload_n (k := 1) hX dX9_letters_11 rfl rfl ?_
    refine s_iconst (v := (nI 1)) hX dX9_letters_12 (by decide) ?_
    refine s_bipush (v := (nI 8)) hX dX9_letters_13 (by decide) ?_
    refine s_callVi hX (c_X7_holds n (nI 1) (nI 8) M) mX7_holds lX9_119 (by decide) (by decide) oC19 rfl rfl rfl rfl rfl (by decide) dX9_letters_15 (fun r15 M_2 hp15 => ?_)
    obtain ⟨rfl, h2⟩ := hp15
    subst h2
    refine s_if_ne (tgt := 23) hX dX9_letters_18 (by decide) (fun c18 => ?_) (fun c18 => ?_)
    · replace c18 := bI_ne c18
      rw [hz0] at c18; have := nI1; omega
    · replace c18 := bI_eq c18
      refine s_iconst (v := (-1)) hX dX9_letters_21 (by decide) ?_
      exact s_iret hX hR dX9_letters_22 rfl
set_option maxHeartbeats 4000000 in
theorem c_X9_thrown (n : Int32) (M : Mem) (hF : FrC M) : AM yX9_thrown cX9_thrown 5 (some .int) 2 60 glC (fun ad => [.ref (ad 0), .int n]) M (PI (fun r _ => r = if 1 ≤ n.toInt ∧ n.toInt ≤ 6 then -2 else -1)) := by
  refine AM.of (by decide) (fun _ => Nat.le_of_ble_eq_true rfl) (fun X ad cI cZ cB hX hR => ?_)
  show V X M [(0, .ref (ad 0)), (1, .int n)] [] 0
  obtain ⟨hT, hS, hz, hn, hd, hr, hk, hu⟩ := hF
  refine s_iload_n (k := 1) hX dX9_thrown_0 rfl rfl ?_
  refine s_iconst (v := (nI 1)) hX dX9_thrown_1 (by decide) ?_
  refine s_icmp_lt (tgt := 11) hX dX9_thrown_2 (by decide) (fun c2 => ?_) (fun c2 => ?_)
  · replace c2 := (q_lt (by omega)).mp c2
    refine s_iconst (v := (-1)) hX dX9_thrown_11 (by decide) ?_
    exact s_iret hX hR dX9_thrown_12 (by rw [if_neg (by omega)])
  · replace c2 := mt (q_lt (by omega)).mpr c2
    refine s_iload_n (k := 1) hX dX9_thrown_5 rfl rfl ?_
    refine s_bipush (v := (nI 6)) hX dX9_thrown_6 (by decide) ?_
    refine s_icmp_le (tgt := 13) hX dX9_thrown_8 (by decide) (fun c8 => ?_) (fun c8 => ?_)
    · replace c8 := (q_le (by omega)).mp c8
      refine s_aload_n (k := 0) hX dX9_thrown_13 rfl rfl ?_
      refine s_get hX fX9_10 oC0 rfl dX9_thrown_14 ?_
      refine s_iconst (v := (nI 0)) hX dX9_thrown_17 (by decide) ?_
      refine s_callVi hX (c_X2_nextDry 1 (Or.inl rfl) M hT) mX2_nextDry lX9_274 (by decide) (by decide) oC1 rfl rfl rfl rfl rfl (by decide) dX9_thrown_18 (fun r18 M_1 hp18 => ?_)
      obtain ⟨rfl, h2⟩ := hp18
      subst h2
      refine s_istore_n (lv' := [(0, .ref (ad 0)), (1, .int n), (2, .int (-1))]) hX dX9_thrown_21 rfl (by decide) rfl ?_
      refine s_iload_n (k := 2) hX dX9_thrown_22 rfl rfl ?_
      refine s_istore_n (lv' := [(0, .ref (ad 0)), (1, .int n), (2, .int (-1)), (3, .int (-1))]) hX dX9_thrown_23 rfl (by decide) rfl ?_
      refine s_iconst (v := (nI 1)) hX dX9_thrown_24 (by decide) ?_
      refine s_istore (lv' := [(0, .ref (ad 0)), (1, .int n), (2, .int (-1)), (3, .int (-1)), (4, .int (nI 1))]) hX dX9_thrown_25 (by decide) rfl ?_
      refine s_iload (k := 4) hX dX9_thrown_27 rfl ?_
      refine s_iload_n (k := 1) hX dX9_thrown_29 rfl rfl ?_
      refine s_icmp_ge (tgt := 55) hX dX9_thrown_30 (by decide) (fun c30 => ?_) (fun c30 => ?_)
      · skip
        refine s_iload_n (k := 3) hX dX9_thrown_55 rfl rfl ?_
        refine s_iconst (v := (-1)) hX dX9_thrown_56 (by decide) ?_
        refine s_icmp_ne (tgt := 63) hX dX9_thrown_57 (by decide) (fun c57 => ?_) (fun c57 => ?_)
        · first | exact absurd (by decide) c57 | exact absurd c57 (by decide)
        · refine s_bipush (v := (-2)) hX dX9_thrown_60 (by decide) ?_
          exact s_iret hX hR dX9_thrown_62 (by rw [if_pos (by omega)])
      · skip
        refine s_iload_n (k := 3) hX dX9_thrown_33 rfl rfl ?_
        refine s_iconst (v := (-1)) hX dX9_thrown_34 (by decide) ?_
        refine s_icmp_eq (tgt := 55) hX dX9_thrown_35 (by decide) (fun c35 => ?_) (fun c35 => ?_)
        · refine s_iload_n (k := 3) hX dX9_thrown_55 rfl rfl ?_
          refine s_iconst (v := (-1)) hX dX9_thrown_56 (by decide) ?_
          refine s_icmp_ne (tgt := 63) hX dX9_thrown_57 (by decide) (fun c57 => ?_) (fun c57 => ?_)
          · first | exact absurd (by decide) c57 | exact absurd c57 (by decide)
          · refine s_bipush (v := (-2)) hX dX9_thrown_60 (by decide) ?_
            exact s_iret hX hR dX9_thrown_62 (by rw [if_pos (by omega)])
        · first | exact absurd (by decide) c35 | exact absurd c35 (by decide)
    · replace c8 := mt (q_le (by omega)).mpr c8
      refine s_iconst (v := (-1)) hX dX9_thrown_11 (by decide) ?_
      exact s_iret hX hR dX9_thrown_12 (by rw [if_neg (by omega)])
set_option maxHeartbeats 4000000 in
theorem c_X9_seed (x : Int32) (M : Mem) (hF : FrC M) : AM yX9_seed cX9_seed 2 (some .boolean) 0 60 glC (fun ad => [.ref (ad 0), .int x]) M (PI (fun r _ => r = bI (0 ≤ x.toInt ∧ x.toInt ≤ 65535))) := by
  refine AM.of (by decide) (fun _ => Nat.le_of_ble_eq_true rfl) (fun X ad cI cZ cB hX hR => ?_)
  show V X M [(0, .ref (ad 0)), (1, .int x)] [] 0
  obtain ⟨hT, hS, hz, hn, hd, hr, hk, hu⟩ := hF
  refine s_iload_n (k := 1) hX dX9_seed_0 rfl rfl ?_
  refine s_if_lt (tgt := 11) hX dX9_seed_1 (by decide) (fun c1 => ?_) (fun c1 => ?_)
  · replace c1 := z_lt.mp c1
    refine s_iconst (v := (nI 0)) hX dX9_seed_11 (by decide) ?_
    exact s_zret hX hR dX9_seed_12 (by first | decide | assumption) (bI_f (by omega))
  · replace c1 := mt z_lt.mpr c1
    refine s_iload_n (k := 1) hX dX9_seed_4 rfl rfl ?_
    refine s_ldcw (v := (nI 65535)) hX kX9_281 dX9_seed_5 ?_
    refine s_icmp_le (tgt := 13) hX dX9_seed_8 (by decide) (fun c8 => ?_) (fun c8 => ?_)
    · replace c8 := (q_le (by omega)).mp c8
      refine s_aload_n (k := 0) hX dX9_seed_13 rfl rfl ?_
      refine s_get hX fX9_10 oC0 rfl dX9_seed_14 ?_
      refine s_iload_n (k := 1) hX dX9_seed_17 rfl rfl ?_
      refine s_put (ty := .int) hX fX9_282 oC1 rfl (Nat.le_of_ble_eq_true rfl) ty_2_6 rfl rfl dX9_seed_18 ?_
      refine s_mem (fun M_1 eM_1 => ?_)
      refine s_iconst (v := (nI 1)) hX dX9_seed_21 (by decide) ?_
      exact s_zret hX hR dX9_seed_22 (by first | decide | assumption) (bI_t (by omega))
    · replace c8 := mt (q_le (by omega)).mpr c8
      refine s_iconst (v := (nI 0)) hX dX9_seed_11 (by decide) ?_
      exact s_zret hX hR dX9_seed_12 (by first | decide | assumption) (bI_f (by omega))
set_option maxHeartbeats 4000000 in
theorem c_X9_keep (M : Mem) (hF : FrC M) : AM yX9_keep cX9_keep 1 (some .int) 2 60 glC (fun ad => [.ref (ad 0)]) M (PI (fun r _ => r = nI 0)) := by
  refine AM.of (by decide) (fun _ => Nat.le_of_ble_eq_true rfl) (fun X ad cI cZ cB hX hR => ?_)
  show V X M [(0, .ref (ad 0))] [] 0
  obtain ⟨hT, hS, hz, hn, hd, hr, hk, hu⟩ := hF
  refine s_aload_n (k := 0) hX dX9_keep_0 rfl rfl ?_
  refine s_get hX fX9_16 oC0 rfl dX9_keep_1 ?_
  refine s_aload_n (k := 0) hX dX9_keep_4 rfl rfl ?_
  refine s_get hX fX9_10 oC0 rfl dX9_keep_5 ?_
  refine s_callVv hX (c_X2_copyAll 7 (Or.inr (Or.inl rfl)) 1 (Or.inl rfl) M (by decide)) mX2_copyAll lX9_149 (by decide) (by decide) oC7 rfl rfl rfl rfl rfl (by decide) dX9_keep_8 (fun M_1 hp8 => ?_)
  obtain ⟨hfc, htc⟩ := hp8
  refine s_aload_n (k := 0) hX dX9_keep_11 rfl rfl ?_
  refine s_iconst (v := (nI 1)) hX dX9_keep_12 (by decide) ?_
  refine s_put (ty := .boolean) hX fX9_78 oC0 rfl (Nat.le_of_ble_eq_true rfl) ty_9_12 rfl rfl dX9_keep_13 ?_
  refine s_mem (fun M_2 eM_2 => ?_)
  refine s_aload_n (k := 0) hX dX9_keep_16 rfl rfl ?_
  refine s_get hX fX9_10 oC0 rfl dX9_keep_17 ?_
  refine s_get hX fX9_285 oC1 rfl dX9_keep_20 ?_
  exact s_iret hX hR dX9_keep_23 (by rw [eM_2, mset_get, if_neg (by decide), hfc _ _ (by decide)]; exact hn)
set_option maxHeartbeats 4000000 in
theorem c_X9_undo (M : Mem) (hF : FrC M) : AM yX9_undo cX9_undo 1 (some .boolean) 2 60 glC (fun ad => [.ref (ad 0)]) M (PI (fun r _ => r = nI 0)) := by
  refine AM.of (by decide) (fun _ => Nat.le_of_ble_eq_true rfl) (fun X ad cI cZ cB hX hR => ?_)
  show V X M [(0, .ref (ad 0))] [] 0
  obtain ⟨hT, hS, hz, hn, hd, hr, hk, hu⟩ := hF
  refine s_aload_n (k := 0) hX dX9_undo_0 rfl rfl ?_
  refine s_get hX fX9_78 oC0 rfl dX9_undo_1 ?_
  refine s_top (y := nI 0) (hk) ?_
  refine s_if_eq (tgt := 18) hX dX9_undo_4 (by decide) (fun c4 => ?_) (fun c4 => ?_)
  · refine s_aload_n (k := 0) hX dX9_undo_18 rfl rfl ?_
    refine s_get hX fX9_78 oC0 rfl dX9_undo_19 ?_
    refine s_top (y := nI 0) (hk) ?_
    exact s_zret hX hR dX9_undo_22 (by first | decide | assumption) rfl
  · first | exact absurd (by decide) c4 | exact absurd c4 (by decide)
set_option maxHeartbeats 4000000 in
theorem c_X9_check (n : Int32) (M : Mem) (hF : FrC M) : AM yX9_check cX9_check 4 (some .int) 1 60 glC (fun ad => [.ref (ad 0), .int n]) M (PI (fun r _ => r = if n.toInt = 0 then -1 else -2)) := by
  refine AM.of (by decide) (fun _ => Nat.le_of_ble_eq_true rfl) (fun X ad cI cZ cB hX hR => ?_)
  show V X M [(0, .ref (ad 0)), (1, .int n)] [] 0
  obtain ⟨hT, hS, hz, hn, hd, hr, hk, hu⟩ := hF
  have hz0 : (M 19 1).toInt = 0 := by rw [hz]; decide
  refine s_aload_n (k := 0) hX dX9_check_0 rfl rfl ?_
  refine s_get hX fX9_25 oC0 rfl dX9_check_1 ?_
  refine s_iload_n (k := 1) hX dX9_check_4 rfl rfl ?_
  refine s_iconst (v := (nI 0)) hX dX9_check_5 (by decide) ?_
  refine s_bipush (v := (nI 40)) hX dX9_check_6 (by decide) ?_
  refine s_callVi hX (c_X7_holds n (nI 0) (nI 40) M) mX7_holds lX9_119 (by decide) (by decide) oC19 rfl rfl rfl rfl rfl (by decide) dX9_check_8 (fun r8 M_1 hp8 => ?_)
  obtain ⟨rfl, h2⟩ := hp8
  subst h2
  refine s_if_ne (tgt := 17) hX dX9_check_11 (by decide) (fun c11 => ?_) (fun c11 => ?_)
  · replace c11 := bI_ne c11; rw [hz0] at c11; have hn0 := nI0
    obtain rfl : n = nI 0 := (q_eq (by decide)).mpr (by omega)
    refine s_aload_n (k := 0) hX dX9_check_17 rfl rfl ?_
    refine s_get hX fX9_25 oC0 rfl dX9_check_18 ?_
    refine s_iload_n (k := 1) hX dX9_check_21 rfl rfl ?_
    refine s_callVv hX (c_X7_open (nI 0) M) mX7_open lX9_123 (by decide) (by decide) oC19 rfl rfl rfl rfl rfl (by decide) dX9_check_22 (fun M_2 hp22 => ?_)
    refine s_iconst (v := (nI 0)) hX dX9_check_25 (by decide) ?_
    refine s_istore_n (lv' := [(0, .ref (ad 0)), (1, .int (nI 0)), (2, .int (nI 0))]) hX dX9_check_26 rfl (by decide) rfl ?_
    refine s_iload_n (k := 2) hX dX9_check_27 rfl rfl ?_
    refine s_iload_n (k := 1) hX dX9_check_28 rfl rfl ?_
    refine s_icmp_ge (tgt := 79) hX dX9_check_29 (by decide) (fun c29 => ?_) (fun c29 => ?_)
    · refine s_iconst (v := (-1)) hX dX9_check_79 (by decide) ?_
      exact s_iret hX hR dX9_check_80 (by rw [if_pos (by decide)])
    · first | exact absurd (by decide) c29 | exact absurd c29 (by decide)
  · replace c11 := bI_eq c11; rw [hz0] at c11; have hn0 := nI0; have hn4 := nI40
    refine s_bipush (v := (-2)) hX dX9_check_14 (by decide) ?_
    exact s_iret hX hR dX9_check_16 (by rw [if_neg (by omega)])
set_option maxHeartbeats 4000000 in
theorem c_X9_count (what : Int32) (M : Mem) (hF : FrC M) : AM yX9_count cX9_count 2 (some .int) 1 60 glC (fun ad => [.ref (ad 0), .int what]) M (PI (fun r _ => r = if what.toInt = 6 then 1 else if 0 ≤ what.toInt ∧ what.toInt ≤ 5 then nI 0 else -1)) := by
  refine AM.of (by decide) (fun _ => Nat.le_of_ble_eq_true rfl) (fun X ad cI cZ cB hX hR => ?_)
  show V X M [(0, .ref (ad 0)), (1, .int what)] [] 0
  obtain ⟨hT, hS, hz, hn, hd, hr, hk, hu⟩ := hF
  refine s_iload_n (k := 1) hX dX9_count_0 rfl rfl ?_
  by_cases sw1 : what.toInt < 0 ∨ 6 < what.toInt
  · refine s_tabOut (tgt := 97) hX dX9_count_1 sw1 (by decide) ?_
    refine s_iload_n (k := 1) hX dX9_count_97 rfl rfl ?_
    refine s_bipush (v := (nI 10)) hX dX9_count_98 (by decide) ?_
    refine s_icmp_lt (tgt := 125) hX dX9_count_100 (by decide) (fun c100 => ?_) (fun c100 => ?_)
    · replace c100 := (q_lt (by omega)).mp c100
      refine s_iconst (v := (-1)) hX dX9_count_125 (by decide) ?_
      exact s_iret hX hR dX9_count_126 (by rw [if_neg (by omega), if_neg (by omega)])
    · replace c100 := mt (q_lt (by omega)).mpr c100
      refine s_aload_n (k := 0) hX dX9_count_103 rfl rfl ?_
      refine s_iload_n (k := 1) hX dX9_count_104 rfl rfl ?_
      refine s_bipush (v := (nI 10)) hX dX9_count_105 (by decide) ?_
      refine s_isub hX dX9_count_107 ?_
      refine s_callVi hX (c_X9_strideOf (what - nI 10) M hS) mX9_strideOf lX9_175 (by decide) (by decide) oC0 rfl rfl rfl rfl rfl (by decide) dX9_count_108 (fun r108 M_1 hp108 => ?_)
      obtain ⟨rfl, h2⟩ := hp108
      subst h2
      refine s_if_eq (tgt := 125) hX dX9_count_111 (by decide) (fun c111 => ?_) (fun c111 => ?_)
      · refine s_iconst (v := (-1)) hX dX9_count_125 (by decide) ?_
        exact s_iret hX hR dX9_count_126 (by rw [if_neg (by omega), if_neg (by omega)])
      · first | exact absurd (by decide) c111 | exact absurd c111 (by decide)
  · obtain ⟨tv, htv, rfl⟩ := ixi (x := what) (n := 7) (by omega) (by omega)
    have htw : tv = 0 ∨ tv = 1 ∨ tv = 2 ∨ tv = 3 ∨ tv = 4 ∨ tv = 5 ∨ tv = 6 := by omega
    rcases htw with rfl | rfl | rfl | rfl | rfl | rfl | rfl
    · refine s_tabIn (tgt := 44) (off := 43) hX dX9_count_1 (by decide) (by decide) (by decide) (by decide) ?_
      refine s_aload_n (k := 0) hX dX9_count_44 rfl rfl ?_
      refine s_get hX fX9_10 oC0 rfl dX9_count_45 ?_
      refine s_get hX fX9_285 oC1 rfl dX9_count_48 ?_
      exact s_iret hX hR dX9_count_51 (by rw [if_neg (by decide), if_pos (by decide)]; exact hn)
    · refine s_tabIn (tgt := 52) (off := 51) hX dX9_count_1 (by decide) (by decide) (by decide) (by decide) ?_
      refine s_aload_n (k := 0) hX dX9_count_52 rfl rfl ?_
      refine s_get hX fX9_10 oC0 rfl dX9_count_53 ?_
      refine s_callVi hX (c_X2_countTold 1 (Or.inl rfl) M hT) mX2_countTold lX9_234 (by decide) (by decide) oC1 rfl rfl rfl rfl rfl (by decide) dX9_count_56 (fun r56 M_2 hp56 => ?_)
      obtain ⟨rfl, h2⟩ := hp56
      subst h2
      exact s_iret hX hR dX9_count_59 (by rw [if_neg (by decide), if_pos (by decide)])
    · refine s_tabIn (tgt := 60) (off := 59) hX dX9_count_1 (by decide) (by decide) (by decide) (by decide) ?_
      refine s_aload_n (k := 0) hX dX9_count_60 rfl rfl ?_
      refine s_get hX fX9_10 oC0 rfl dX9_count_61 ?_
      refine s_callVi hX (c_X2_countSunk 1 (Or.inl rfl) M hT) mX2_countSunk lX9_161 (by decide) (by decide) oC1 rfl rfl rfl rfl rfl (by decide) dX9_count_64 (fun r64 M_3 hp64 => ?_)
      obtain ⟨rfl, h2⟩ := hp64
      subst h2
      exact s_iret hX hR dX9_count_67 (by rw [if_neg (by decide), if_pos (by decide)])
    · refine s_tabIn (tgt := 68) (off := 67) hX dX9_count_1 (by decide) (by decide) (by decide) (by decide) ?_
      refine s_aload_n (k := 0) hX dX9_count_68 rfl rfl ?_
      refine s_callVi hX (c_X9_toldPeople M hS) mX9_toldPeople lX9_288 (by decide) (by decide) oC0 rfl rfl rfl rfl rfl (by decide) dX9_count_69 (fun r69 M_4 hp69 => ?_)
      obtain ⟨rfl, h2⟩ := hp69
      subst h2
      exact s_iret hX hR dX9_count_72 (by rw [if_neg (by decide), if_pos (by decide)])
    · refine s_tabIn (tgt := 73) (off := 72) hX dX9_count_1 (by decide) (by decide) (by decide) (by decide) ?_
      refine s_aload_n (k := 0) hX dX9_count_73 rfl rfl ?_
      refine s_get hX fX9_71 oC0 rfl dX9_count_74 ?_
      refine s_topr (b := ad 44) (by rw [hr]; rfl) ?_
      refine s_get hX fX9_291 oC44 rfl dX9_count_77 ?_
      exact s_iret hX hR dX9_count_80 (by rw [if_neg (by decide), if_pos (by decide)]; exact hu)
    · refine s_tabIn (tgt := 81) (off := 80) hX dX9_count_1 (by decide) (by decide) (by decide) (by decide) ?_
      refine s_aload_n (k := 0) hX dX9_count_81 rfl rfl ?_
      refine s_get hX fX9_25 oC0 rfl dX9_count_82 ?_
      refine s_get hX fX9_111 oC19 rfl dX9_count_85 ?_
      exact s_iret hX hR dX9_count_88 (by rw [if_neg (by decide), if_pos (by decide)]; exact hz)
    · refine s_tabIn (tgt := 89) (off := 88) hX dX9_count_1 (by decide) (by decide) (by decide) (by decide) ?_
      refine s_aload_n (k := 0) hX dX9_count_89 rfl rfl ?_
      refine s_get hX fX9_10 oC0 rfl dX9_count_90 ?_
      refine s_get hX fX9_282 oC1 rfl dX9_count_93 ?_
      exact s_iret hX hR dX9_count_96 (by rw [if_pos (by decide)]; exact hd)
end
