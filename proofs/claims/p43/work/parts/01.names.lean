-- ===== PART A: goes FIRST, ahead of the names: the tables' words, and 'selects' of the private methods out of them =====
/-- a private method of a class that the tables say can be made, by its rows of tables_1 -/
def lw_okq (q : MethodName × Nat) : Prop := (q.1.cls ≠ "java/lang/invoke/MethodHandle" ∧ q.1.cls ≠ "java/lang/invoke/VarHandle") ∧ Cond.instantiable q.1.cls q.2 ∈ tables_1 ∧ Cond.privateMethod q.1 ∈ tables_1 ∧ Cond.instanceMethod q.1 ∈ tables_1
theorem lw_p0 : lw_okq (⟨"SixDew$Tape", "takeWordOrNumber", "()V"⟩, 9) := ⟨⟨by decide +kernel, by decide +kernel⟩, List.mem_of_getElem? (i := 34) (by decide +kernel), List.mem_of_getElem? (i := 453) (by decide +kernel), List.mem_of_getElem? (i := 454) (by decide +kernel)⟩
theorem lw_p1 : lw_okq (⟨"SixDew$GroundReader", "setSky", "()V"⟩, 5) := ⟨⟨by decide +kernel, by decide +kernel⟩, List.mem_of_getElem? (i := 264) (by decide +kernel), List.mem_of_getElem? (i := 457) (by decide +kernel), List.mem_of_getElem? (i := 458) (by decide +kernel)⟩
theorem lw_p2 : lw_okq (⟨"SixDew$GroundReader", "hiddenAt", "(II)I"⟩, 5) := ⟨⟨by decide +kernel, by decide +kernel⟩, List.mem_of_getElem? (i := 264) (by decide +kernel), List.mem_of_getElem? (i := 461) (by decide +kernel), List.mem_of_getElem? (i := 462) (by decide +kernel)⟩
theorem lw_p3 : lw_okq (⟨"SixDew$GroundReader", "readLine", "(LSixDew$Tape;)Z"⟩, 5) := ⟨⟨by decide +kernel, by decide +kernel⟩, List.mem_of_getElem? (i := 264) (by decide +kernel), List.mem_of_getElem? (i := 471) (by decide +kernel), List.mem_of_getElem? (i := 472) (by decide +kernel)⟩
theorem lw_p4 : lw_okq (⟨"SixDew$GroundReader", "readKind", "(LSixDew$Tape;)Z"⟩, 5) := ⟨⟨by decide +kernel, by decide +kernel⟩, List.mem_of_getElem? (i := 264) (by decide +kernel), List.mem_of_getElem? (i := 532) (by decide +kernel), List.mem_of_getElem? (i := 533) (by decide +kernel)⟩
theorem lw_p5 : lw_okq (⟨"SixDew$GroundReader", "isNewName", "(LSixDew$Tape;I)Z"⟩, 5) := ⟨⟨by decide +kernel, by decide +kernel⟩, List.mem_of_getElem? (i := 264) (by decide +kernel), List.mem_of_getElem? (i := 546) (by decide +kernel), List.mem_of_getElem? (i := 547) (by decide +kernel)⟩
theorem lw_p6 : lw_okq (⟨"SixDew$GroundReader", "readRow", "(LSixDew$Tape;)Z"⟩, 5) := ⟨⟨by decide +kernel, by decide +kernel⟩, List.mem_of_getElem? (i := 264) (by decide +kernel), List.mem_of_getElem? (i := 579) (by decide +kernel), List.mem_of_getElem? (i := 580) (by decide +kernel)⟩
theorem lw_p7 : lw_okq (⟨"SixDew$GroundReader", "readShade", "(LSixDew$Tape;)Z"⟩, 5) := ⟨⟨by decide +kernel, by decide +kernel⟩, List.mem_of_getElem? (i := 264) (by decide +kernel), List.mem_of_getElem? (i := 589) (by decide +kernel), List.mem_of_getElem? (i := 590) (by decide +kernel)⟩
theorem lw_p8 : lw_okq (⟨"SixDew$GroundReader", "readStock", "(LSixDew$Tape;)Z"⟩, 5) := ⟨⟨by decide +kernel, by decide +kernel⟩, List.mem_of_getElem? (i := 264) (by decide +kernel), List.mem_of_getElem? (i := 594) (by decide +kernel), List.mem_of_getElem? (i := 595) (by decide +kernel)⟩
theorem lw_p9 : lw_okq (⟨"SixDew$NightReader", "readLine", "(LSixDew$Tape;I)Z"⟩, 2) := ⟨⟨by decide +kernel, by decide +kernel⟩, List.mem_of_getElem? (i := 290) (by decide +kernel), List.mem_of_getElem? (i := 638) (by decide +kernel), List.mem_of_getElem? (i := 639) (by decide +kernel)⟩
theorem lw_p10 : lw_okq (⟨"SixDew", "start", "(LSixDew$Run;I)Z"⟩, 18) := ⟨⟨by decide +kernel, by decide +kernel⟩, List.mem_of_getElem? (i := 26) (by decide +kernel), List.mem_of_getElem? (i := 678) (by decide +kernel), List.mem_of_getElem? (i := 679) (by decide +kernel)⟩
theorem lw_p11 : lw_okq (⟨"SixDew$Run", "warmer", "(IIIII)I"⟩, 15) := ⟨⟨by decide +kernel, by decide +kernel⟩, List.mem_of_getElem? (i := 166) (by decide +kernel), List.mem_of_getElem? (i := 720) (by decide +kernel), List.mem_of_getElem? (i := 721) (by decide +kernel)⟩
theorem lw_p12 : lw_okq (⟨"SixDew$Run", "comeOn", "(III)V"⟩, 15) := ⟨⟨by decide +kernel, by decide +kernel⟩, List.mem_of_getElem? (i := 166) (by decide +kernel), List.mem_of_getElem? (i := 725) (by decide +kernel), List.mem_of_getElem? (i := 726) (by decide +kernel)⟩
theorem lw_p13 : lw_okq (⟨"SixDew$Run", "dryOff", "(III)V"⟩, 15) := ⟨⟨by decide +kernel, by decide +kernel⟩, List.mem_of_getElem? (i := 166) (by decide +kernel), List.mem_of_getElem? (i := 729) (by decide +kernel), List.mem_of_getElem? (i := 730) (by decide +kernel)⟩
theorem lw_p14 : lw_okq (⟨"SixDew$PlanReader", "readLine", "(LSixDew$Tape;LSixDew$Ground;I)Z"⟩, 1) := ⟨⟨by decide +kernel, by decide +kernel⟩, List.mem_of_getElem? (i := 306) (by decide +kernel), List.mem_of_getElem? (i := 755) (by decide +kernel), List.mem_of_getElem? (i := 756) (by decide +kernel)⟩
theorem lw_p15 : lw_okq (⟨"SixDew", "doLine", "(LSixDew$Run;I)I"⟩, 18) := ⟨⟨by decide +kernel, by decide +kernel⟩, List.mem_of_getElem? (i := 26) (by decide +kernel), List.mem_of_getElem? (i := 788) (by decide +kernel), List.mem_of_getElem? (i := 789) (by decide +kernel)⟩
def lw_privs_1 : List (MethodName × Nat) := [(⟨"SixDew$Tape", "takeWordOrNumber", "()V"⟩, 9), (⟨"SixDew$GroundReader", "setSky", "()V"⟩, 5), (⟨"SixDew$GroundReader", "hiddenAt", "(II)I"⟩, 5), (⟨"SixDew$GroundReader", "readLine", "(LSixDew$Tape;)Z"⟩, 5), (⟨"SixDew$GroundReader", "readKind", "(LSixDew$Tape;)Z"⟩, 5), (⟨"SixDew$GroundReader", "isNewName", "(LSixDew$Tape;I)Z"⟩, 5), (⟨"SixDew$GroundReader", "readRow", "(LSixDew$Tape;)Z"⟩, 5), (⟨"SixDew$GroundReader", "readShade", "(LSixDew$Tape;)Z"⟩, 5), (⟨"SixDew$GroundReader", "readStock", "(LSixDew$Tape;)Z"⟩, 5), (⟨"SixDew$NightReader", "readLine", "(LSixDew$Tape;I)Z"⟩, 2), (⟨"SixDew", "start", "(LSixDew$Run;I)Z"⟩, 18), (⟨"SixDew$Run", "warmer", "(IIIII)I"⟩, 15), (⟨"SixDew$Run", "comeOn", "(III)V"⟩, 15), (⟨"SixDew$Run", "dryOff", "(III)V"⟩, 15), (⟨"SixDew$PlanReader", "readLine", "(LSixDew$Tape;LSixDew$Ground;I)Z"⟩, 1), (⟨"SixDew", "doLine", "(LSixDew$Run;I)I"⟩, 18)]
theorem lw_r1 : ∀ q ∈ lw_privs_1, lw_okq q := List.forall_mem_cons.mpr ⟨lw_p0, List.forall_mem_cons.mpr ⟨lw_p1, List.forall_mem_cons.mpr ⟨lw_p2, List.forall_mem_cons.mpr ⟨lw_p3, List.forall_mem_cons.mpr ⟨lw_p4, List.forall_mem_cons.mpr ⟨lw_p5, List.forall_mem_cons.mpr ⟨lw_p6, List.forall_mem_cons.mpr ⟨lw_p7, List.forall_mem_cons.mpr ⟨lw_p8, List.forall_mem_cons.mpr ⟨lw_p9, List.forall_mem_cons.mpr ⟨lw_p10, List.forall_mem_cons.mpr ⟨lw_p11, List.forall_mem_cons.mpr ⟨lw_p12, List.forall_mem_cons.mpr ⟨lw_p13, List.forall_mem_cons.mpr ⟨lw_p14, List.forall_mem_cons.mpr ⟨lw_p15, fun _ h => absurd h List.not_mem_nil⟩⟩⟩⟩⟩⟩⟩⟩⟩⟩⟩⟩⟩⟩⟩⟩
theorem lw_p16 : lw_okq (⟨"SixDew", "runBehind", "(II)Z"⟩, 18) := ⟨⟨by decide +kernel, by decide +kernel⟩, List.mem_of_getElem? (i := 26) (by decide +kernel), List.mem_of_getElem? (i := 838) (by decide +kernel), List.mem_of_getElem? (i := 839) (by decide +kernel)⟩
theorem lw_p17 : lw_okq (⟨"SixDew", "watched", "(I)Z"⟩, 18) := ⟨⟨by decide +kernel, by decide +kernel⟩, List.mem_of_getElem? (i := 26) (by decide +kernel), List.mem_of_getElem? (i := 851) (by decide +kernel), List.mem_of_getElem? (i := 852) (by decide +kernel)⟩
theorem lw_p18 : lw_okq (⟨"SixDew$Watch", "seeWet", "(IIZ)V"⟩, 6) := ⟨⟨by decide +kernel, by decide +kernel⟩, List.mem_of_getElem? (i := 321) (by decide +kernel), List.mem_of_getElem? (i := 869) (by decide +kernel), List.mem_of_getElem? (i := 870) (by decide +kernel)⟩
theorem lw_p19 : lw_okq (⟨"SixDew$Paths", "spread", "(LSixDew$Run;LSixDew$Ground;IZ)V"⟩, 1) := ⟨⟨by decide +kernel, by decide +kernel⟩, List.mem_of_getElem? (i := 351) (by decide +kernel), List.mem_of_getElem? (i := 912) (by decide +kernel), List.mem_of_getElem? (i := 913) (by decide +kernel)⟩
theorem lw_p20 : lw_okq (⟨"SixDew$Paths", "leastBeside", "(LSixDew$Ground;I)I"⟩, 1) := ⟨⟨by decide +kernel, by decide +kernel⟩, List.mem_of_getElem? (i := 351) (by decide +kernel), List.mem_of_getElem? (i := 918) (by decide +kernel), List.mem_of_getElem? (i := 919) (by decide +kernel)⟩
theorem lw_p21 : lw_okq (⟨"SixDew$Paths", "costAt", "(LSixDew$Ground;II)I"⟩, 1) := ⟨⟨by decide +kernel, by decide +kernel⟩, List.mem_of_getElem? (i := 351) (by decide +kernel), List.mem_of_getElem? (i := 922) (by decide +kernel), List.mem_of_getElem? (i := 923) (by decide +kernel)⟩
theorem lw_p22 : lw_okq (⟨"SixDew", "isLawn", "(I)Z"⟩, 18) := ⟨⟨by decide +kernel, by decide +kernel⟩, List.mem_of_getElem? (i := 26) (by decide +kernel), List.mem_of_getElem? (i := 964) (by decide +kernel), List.mem_of_getElem? (i := 965) (by decide +kernel)⟩
theorem lw_p23 : lw_okq (⟨"SixDew", "looksSo", "(LSixDew$Run;)Z"⟩, 18) := ⟨⟨by decide +kernel, by decide +kernel⟩, List.mem_of_getElem? (i := 26) (by decide +kernel), List.mem_of_getElem? (i := 969) (by decide +kernel), List.mem_of_getElem? (i := 970) (by decide +kernel)⟩
theorem lw_p24 : lw_okq (⟨"SixDew", "waterOfSquare", "(III)I"⟩, 18) := ⟨⟨by decide +kernel, by decide +kernel⟩, List.mem_of_getElem? (i := 26) (by decide +kernel), List.mem_of_getElem? (i := 993) (by decide +kernel), List.mem_of_getElem? (i := 994) (by decide +kernel)⟩
theorem lw_p25 : lw_okq (⟨"SixDew", "areTriedCells", "(I)Z"⟩, 18) := ⟨⟨by decide +kernel, by decide +kernel⟩, List.mem_of_getElem? (i := 26) (by decide +kernel), List.mem_of_getElem? (i := 1017) (by decide +kernel), List.mem_of_getElem? (i := 1018) (by decide +kernel)⟩
theorem lw_p26 : lw_okq (⟨"SixDew", "fewestParting", "(I)I"⟩, 18) := ⟨⟨by decide +kernel, by decide +kernel⟩, List.mem_of_getElem? (i := 26) (by decide +kernel), List.mem_of_getElem? (i := 1021) (by decide +kernel), List.mem_of_getElem? (i := 1022) (by decide +kernel)⟩
theorem lw_p27 : lw_okq (⟨"SixDew", "parts", "(III)Z"⟩, 18) := ⟨⟨by decide +kernel, by decide +kernel⟩, List.mem_of_getElem? (i := 26) (by decide +kernel), List.mem_of_getElem? (i := 1025) (by decide +kernel), List.mem_of_getElem? (i := 1026) (by decide +kernel)⟩
theorem lw_p28 : lw_okq (⟨"java/lang/Throwable", "fillInStackTrace", "(I)Ljava/lang/Throwable;"⟩, 6) := ⟨⟨by decide +kernel, by decide +kernel⟩, List.mem_of_getElem? (i := 1117) (by decide +kernel), List.mem_of_getElem? (i := 1115) (by decide +kernel), List.mem_of_getElem? (i := 1116) (by decide +kernel)⟩
theorem lw_p29 : lw_okq (⟨"SixDewModel", "four", "(I)V"⟩, 57) := ⟨⟨by decide +kernel, by decide +kernel⟩, List.mem_of_getElem? (i := 1161) (by decide +kernel), List.mem_of_getElem? (i := 1159) (by decide +kernel), List.mem_of_getElem? (i := 1160) (by decide +kernel)⟩
theorem lw_p30 : lw_okq (⟨"SixDewModel", "taken", "(I)V"⟩, 57) := ⟨⟨by decide +kernel, by decide +kernel⟩, List.mem_of_getElem? (i := 1161) (by decide +kernel), List.mem_of_getElem? (i := 1364) (by decide +kernel), List.mem_of_getElem? (i := 1365) (by decide +kernel)⟩
theorem lw_p31 : lw_okq (⟨"SixDewModel", "next", "()V"⟩, 57) := ⟨⟨by decide +kernel, by decide +kernel⟩, List.mem_of_getElem? (i := 1161) (by decide +kernel), List.mem_of_getElem? (i := 1368) (by decide +kernel), List.mem_of_getElem? (i := 1369) (by decide +kernel)⟩
def lw_privs_2 : List (MethodName × Nat) := [(⟨"SixDew", "runBehind", "(II)Z"⟩, 18), (⟨"SixDew", "watched", "(I)Z"⟩, 18), (⟨"SixDew$Watch", "seeWet", "(IIZ)V"⟩, 6), (⟨"SixDew$Paths", "spread", "(LSixDew$Run;LSixDew$Ground;IZ)V"⟩, 1), (⟨"SixDew$Paths", "leastBeside", "(LSixDew$Ground;I)I"⟩, 1), (⟨"SixDew$Paths", "costAt", "(LSixDew$Ground;II)I"⟩, 1), (⟨"SixDew", "isLawn", "(I)Z"⟩, 18), (⟨"SixDew", "looksSo", "(LSixDew$Run;)Z"⟩, 18), (⟨"SixDew", "waterOfSquare", "(III)I"⟩, 18), (⟨"SixDew", "areTriedCells", "(I)Z"⟩, 18), (⟨"SixDew", "fewestParting", "(I)I"⟩, 18), (⟨"SixDew", "parts", "(III)Z"⟩, 18), (⟨"java/lang/Throwable", "fillInStackTrace", "(I)Ljava/lang/Throwable;"⟩, 6), (⟨"SixDewModel", "four", "(I)V"⟩, 57), (⟨"SixDewModel", "taken", "(I)V"⟩, 57), (⟨"SixDewModel", "next", "()V"⟩, 57)]
theorem lw_r2 : ∀ q ∈ lw_privs_2, lw_okq q := List.forall_mem_cons.mpr ⟨lw_p16, List.forall_mem_cons.mpr ⟨lw_p17, List.forall_mem_cons.mpr ⟨lw_p18, List.forall_mem_cons.mpr ⟨lw_p19, List.forall_mem_cons.mpr ⟨lw_p20, List.forall_mem_cons.mpr ⟨lw_p21, List.forall_mem_cons.mpr ⟨lw_p22, List.forall_mem_cons.mpr ⟨lw_p23, List.forall_mem_cons.mpr ⟨lw_p24, List.forall_mem_cons.mpr ⟨lw_p25, List.forall_mem_cons.mpr ⟨lw_p26, List.forall_mem_cons.mpr ⟨lw_p27, List.forall_mem_cons.mpr ⟨lw_p28, List.forall_mem_cons.mpr ⟨lw_p29, List.forall_mem_cons.mpr ⟨lw_p30, List.forall_mem_cons.mpr ⟨lw_p31, fun _ h => absurd h List.not_mem_nil⟩⟩⟩⟩⟩⟩⟩⟩⟩⟩⟩⟩⟩⟩⟩⟩
theorem lw_p32 : lw_okq (⟨"SixDewModel", "peek", "()I"⟩, 57) := ⟨⟨by decide +kernel, by decide +kernel⟩, List.mem_of_getElem? (i := 1161) (by decide +kernel), List.mem_of_getElem? (i := 1372) (by decide +kernel), List.mem_of_getElem? (i := 1373) (by decide +kernel)⟩
theorem lw_p33 : lw_okq (⟨"SixDewModel", "groundLine", "()Z"⟩, 57) := ⟨⟨by decide +kernel, by decide +kernel⟩, List.mem_of_getElem? (i := 1161) (by decide +kernel), List.mem_of_getElem? (i := 1382) (by decide +kernel), List.mem_of_getElem? (i := 1383) (by decide +kernel)⟩
theorem lw_p34 : lw_okq (⟨"SixDewModel", "isWord", "(J)Z"⟩, 57) := ⟨⟨by decide +kernel, by decide +kernel⟩, List.mem_of_getElem? (i := 1161) (by decide +kernel), List.mem_of_getElem? (i := 1386) (by decide +kernel), List.mem_of_getElem? (i := 1387) (by decide +kernel)⟩
theorem lw_p35 : lw_okq (⟨"SixDewModel", "readKind", "()Z"⟩, 57) := ⟨⟨by decide +kernel, by decide +kernel⟩, List.mem_of_getElem? (i := 1161) (by decide +kernel), List.mem_of_getElem? (i := 1390) (by decide +kernel), List.mem_of_getElem? (i := 1391) (by decide +kernel)⟩
theorem lw_p36 : lw_okq (⟨"SixDewModel", "bad", "(I)Z"⟩, 57) := ⟨⟨by decide +kernel, by decide +kernel⟩, List.mem_of_getElem? (i := 1161) (by decide +kernel), List.mem_of_getElem? (i := 1394) (by decide +kernel), List.mem_of_getElem? (i := 1395) (by decide +kernel)⟩
theorem lw_p37 : lw_okq (⟨"SixDewModel", "isName", "()Z"⟩, 57) := ⟨⟨by decide +kernel, by decide +kernel⟩, List.mem_of_getElem? (i := 1161) (by decide +kernel), List.mem_of_getElem? (i := 1398) (by decide +kernel), List.mem_of_getElem? (i := 1399) (by decide +kernel)⟩
theorem lw_p38 : lw_okq (⟨"SixDewModel", "takes", "(II)Z"⟩, 57) := ⟨⟨by decide +kernel, by decide +kernel⟩, List.mem_of_getElem? (i := 1161) (by decide +kernel), List.mem_of_getElem? (i := 1402) (by decide +kernel), List.mem_of_getElem? (i := 1403) (by decide +kernel)⟩
theorem lw_p39 : lw_okq (⟨"SixDewModel", "readRow", "()Z"⟩, 57) := ⟨⟨by decide +kernel, by decide +kernel⟩, List.mem_of_getElem? (i := 1161) (by decide +kernel), List.mem_of_getElem? (i := 1409) (by decide +kernel), List.mem_of_getElem? (i := 1410) (by decide +kernel)⟩
theorem lw_p40 : lw_okq (⟨"SixDewModel", "octet", "(I)I"⟩, 57) := ⟨⟨by decide +kernel, by decide +kernel⟩, List.mem_of_getElem? (i := 1161) (by decide +kernel), List.mem_of_getElem? (i := 1413) (by decide +kernel), List.mem_of_getElem? (i := 1414) (by decide +kernel)⟩
theorem lw_p41 : lw_okq (⟨"SixDewModel", "sign", "(I)Z"⟩, 57) := ⟨⟨by decide +kernel, by decide +kernel⟩, List.mem_of_getElem? (i := 1161) (by decide +kernel), List.mem_of_getElem? (i := 1417) (by decide +kernel), List.mem_of_getElem? (i := 1418) (by decide +kernel)⟩
theorem lw_p42 : lw_okq (⟨"SixDewModel", "isSign", "(I)Z"⟩, 57) := ⟨⟨by decide +kernel, by decide +kernel⟩, List.mem_of_getElem? (i := 1161) (by decide +kernel), List.mem_of_getElem? (i := 1421) (by decide +kernel), List.mem_of_getElem? (i := 1422) (by decide +kernel)⟩
theorem lw_p43 : lw_okq (⟨"SixDewModel", "isCell", "(II)Z"⟩, 57) := ⟨⟨by decide +kernel, by decide +kernel⟩, List.mem_of_getElem? (i := 1161) (by decide +kernel), List.mem_of_getElem? (i := 1433) (by decide +kernel), List.mem_of_getElem? (i := 1434) (by decide +kernel)⟩
theorem lw_p44 : lw_okq (⟨"SixDewModel", "throwsIf", "(Z)Z"⟩, 57) := ⟨⟨by decide +kernel, by decide +kernel⟩, List.mem_of_getElem? (i := 1161) (by decide +kernel), List.mem_of_getElem? (i := 1437) (by decide +kernel), List.mem_of_getElem? (i := 1438) (by decide +kernel)⟩
theorem lw_p45 : lw_okq (⟨"SixDewModel", "numberOf", "(II)I"⟩, 57) := ⟨⟨by decide +kernel, by decide +kernel⟩, List.mem_of_getElem? (i := 1161) (by decide +kernel), List.mem_of_getElem? (i := 1441) (by decide +kernel), List.mem_of_getElem? (i := 1442) (by decide +kernel)⟩
theorem lw_p46 : lw_okq (⟨"SixDewModel", "skyOf", "(I)I"⟩, 57) := ⟨⟨by decide +kernel, by decide +kernel⟩, List.mem_of_getElem? (i := 1161) (by decide +kernel), List.mem_of_getElem? (i := 1445) (by decide +kernel), List.mem_of_getElem? (i := 1446) (by decide +kernel)⟩
theorem lw_p47 : lw_okq (⟨"SixDewModel", "nightLine", "()Z"⟩, 57) := ⟨⟨by decide +kernel, by decide +kernel⟩, List.mem_of_getElem? (i := 1161) (by decide +kernel), List.mem_of_getElem? (i := 1453) (by decide +kernel), List.mem_of_getElem? (i := 1454) (by decide +kernel)⟩
def lw_privs_3 : List (MethodName × Nat) := [(⟨"SixDewModel", "peek", "()I"⟩, 57), (⟨"SixDewModel", "groundLine", "()Z"⟩, 57), (⟨"SixDewModel", "isWord", "(J)Z"⟩, 57), (⟨"SixDewModel", "readKind", "()Z"⟩, 57), (⟨"SixDewModel", "bad", "(I)Z"⟩, 57), (⟨"SixDewModel", "isName", "()Z"⟩, 57), (⟨"SixDewModel", "takes", "(II)Z"⟩, 57), (⟨"SixDewModel", "readRow", "()Z"⟩, 57), (⟨"SixDewModel", "octet", "(I)I"⟩, 57), (⟨"SixDewModel", "sign", "(I)Z"⟩, 57), (⟨"SixDewModel", "isSign", "(I)Z"⟩, 57), (⟨"SixDewModel", "isCell", "(II)Z"⟩, 57), (⟨"SixDewModel", "throwsIf", "(Z)Z"⟩, 57), (⟨"SixDewModel", "numberOf", "(II)I"⟩, 57), (⟨"SixDewModel", "skyOf", "(I)I"⟩, 57), (⟨"SixDewModel", "nightLine", "()Z"⟩, 57)]
theorem lw_r3 : ∀ q ∈ lw_privs_3, lw_okq q := List.forall_mem_cons.mpr ⟨lw_p32, List.forall_mem_cons.mpr ⟨lw_p33, List.forall_mem_cons.mpr ⟨lw_p34, List.forall_mem_cons.mpr ⟨lw_p35, List.forall_mem_cons.mpr ⟨lw_p36, List.forall_mem_cons.mpr ⟨lw_p37, List.forall_mem_cons.mpr ⟨lw_p38, List.forall_mem_cons.mpr ⟨lw_p39, List.forall_mem_cons.mpr ⟨lw_p40, List.forall_mem_cons.mpr ⟨lw_p41, List.forall_mem_cons.mpr ⟨lw_p42, List.forall_mem_cons.mpr ⟨lw_p43, List.forall_mem_cons.mpr ⟨lw_p44, List.forall_mem_cons.mpr ⟨lw_p45, List.forall_mem_cons.mpr ⟨lw_p46, List.forall_mem_cons.mpr ⟨lw_p47, fun _ h => absurd h List.not_mem_nil⟩⟩⟩⟩⟩⟩⟩⟩⟩⟩⟩⟩⟩⟩⟩⟩
theorem lw_p48 : lw_okq (⟨"SixDewModel", "isNight", "(I)Z"⟩, 57) := ⟨⟨by decide +kernel, by decide +kernel⟩, List.mem_of_getElem? (i := 1161) (by decide +kernel), List.mem_of_getElem? (i := 1461) (by decide +kernel), List.mem_of_getElem? (i := 1462) (by decide +kernel)⟩
theorem lw_p49 : lw_okq (⟨"SixDewModel", "nightAt", "(I)I"⟩, 57) := ⟨⟨by decide +kernel, by decide +kernel⟩, List.mem_of_getElem? (i := 1161) (by decide +kernel), List.mem_of_getElem? (i := 1465) (by decide +kernel), List.mem_of_getElem? (i := 1466) (by decide +kernel)⟩
theorem lw_p50 : lw_okq (⟨"SixDewModel", "sees", "(I)V"⟩, 57) := ⟨⟨by decide +kernel, by decide +kernel⟩, List.mem_of_getElem? (i := 1161) (by decide +kernel), List.mem_of_getElem? (i := 1469) (by decide +kernel), List.mem_of_getElem? (i := 1470) (by decide +kernel)⟩
theorem lw_p51 : lw_okq (⟨"SixDewModel", "start", "(II)V"⟩, 57) := ⟨⟨by decide +kernel, by decide +kernel⟩, List.mem_of_getElem? (i := 1161) (by decide +kernel), List.mem_of_getElem? (i := 1477) (by decide +kernel), List.mem_of_getElem? (i := 1478) (by decide +kernel)⟩
theorem lw_p52 : lw_okq (⟨"SixDewModel", "cells", "()I"⟩, 57) := ⟨⟨by decide +kernel, by decide +kernel⟩, List.mem_of_getElem? (i := 1161) (by decide +kernel), List.mem_of_getElem? (i := 1481) (by decide +kernel), List.mem_of_getElem? (i := 1482) (by decide +kernel)⟩
theorem lw_p53 : lw_okq (⟨"SixDewModel", "loads", "()V"⟩, 57) := ⟨⟨by decide +kernel, by decide +kernel⟩, List.mem_of_getElem? (i := 1161) (by decide +kernel), List.mem_of_getElem? (i := 1489) (by decide +kernel), List.mem_of_getElem? (i := 1490) (by decide +kernel)⟩
theorem lw_p54 : lw_okq (⟨"SixDewModel", "step", "(I)V"⟩, 57) := ⟨⟨by decide +kernel, by decide +kernel⟩, List.mem_of_getElem? (i := 1161) (by decide +kernel), List.mem_of_getElem? (i := 1493) (by decide +kernel), List.mem_of_getElem? (i := 1494) (by decide +kernel)⟩
theorem lw_p55 : lw_okq (⟨"SixDewModel", "wets", "(IIII)V"⟩, 57) := ⟨⟨by decide +kernel, by decide +kernel⟩, List.mem_of_getElem? (i := 1161) (by decide +kernel), List.mem_of_getElem? (i := 1497) (by decide +kernel), List.mem_of_getElem? (i := 1498) (by decide +kernel)⟩
theorem lw_p56 : lw_okq (⟨"SixDewModel", "keeps", "()V"⟩, 57) := ⟨⟨by decide +kernel, by decide +kernel⟩, List.mem_of_getElem? (i := 1161) (by decide +kernel), List.mem_of_getElem? (i := 1501) (by decide +kernel), List.mem_of_getElem? (i := 1502) (by decide +kernel)⟩
theorem lw_p57 : lw_okq (⟨"SixDewModel", "planLine", "()Z"⟩, 57) := ⟨⟨by decide +kernel, by decide +kernel⟩, List.mem_of_getElem? (i := 1161) (by decide +kernel), List.mem_of_getElem? (i := 1517) (by decide +kernel), List.mem_of_getElem? (i := 1518) (by decide +kernel)⟩
theorem lw_p58 : lw_okq (⟨"SixDewModel", "does", "(II)I"⟩, 57) := ⟨⟨by decide +kernel, by decide +kernel⟩, List.mem_of_getElem? (i := 1161) (by decide +kernel), List.mem_of_getElem? (i := 1525) (by decide +kernel), List.mem_of_getElem? (i := 1526) (by decide +kernel)⟩
theorem lw_p59 : lw_okq (⟨"SixDewModel", "through", "(III)V"⟩, 57) := ⟨⟨by decide +kernel, by decide +kernel⟩, List.mem_of_getElem? (i := 1161) (by decide +kernel), List.mem_of_getElem? (i := 1540) (by decide +kernel), List.mem_of_getElem? (i := 1541) (by decide +kernel)⟩
theorem lw_p60 : lw_okq (⟨"SixDewModel", "asks", "(III)Z"⟩, 57) := ⟨⟨by decide +kernel, by decide +kernel⟩, List.mem_of_getElem? (i := 1161) (by decide +kernel), List.mem_of_getElem? (i := 1552) (by decide +kernel), List.mem_of_getElem? (i := 1553) (by decide +kernel)⟩
theorem lw_p61 : lw_okq (⟨"SixDewModel", "timesOf", "(III)V"⟩, 57) := ⟨⟨by decide +kernel, by decide +kernel⟩, List.mem_of_getElem? (i := 1161) (by decide +kernel), List.mem_of_getElem? (i := 1556) (by decide +kernel), List.mem_of_getElem? (i := 1557) (by decide +kernel)⟩
theorem lw_p62 : lw_okq (⟨"SixDewModel", "beside", "(II)I"⟩, 57) := ⟨⟨by decide +kernel, by decide +kernel⟩, List.mem_of_getElem? (i := 1161) (by decide +kernel), List.mem_of_getElem? (i := 1584) (by decide +kernel), List.mem_of_getElem? (i := 1585) (by decide +kernel)⟩
theorem lw_p63 : lw_okq (⟨"SixDewModel", "isDry", "(III)Z"⟩, 57) := ⟨⟨by decide +kernel, by decide +kernel⟩, List.mem_of_getElem? (i := 1161) (by decide +kernel), List.mem_of_getElem? (i := 1601) (by decide +kernel), List.mem_of_getElem? (i := 1602) (by decide +kernel)⟩
def lw_privs_4 : List (MethodName × Nat) := [(⟨"SixDewModel", "isNight", "(I)Z"⟩, 57), (⟨"SixDewModel", "nightAt", "(I)I"⟩, 57), (⟨"SixDewModel", "sees", "(I)V"⟩, 57), (⟨"SixDewModel", "start", "(II)V"⟩, 57), (⟨"SixDewModel", "cells", "()I"⟩, 57), (⟨"SixDewModel", "loads", "()V"⟩, 57), (⟨"SixDewModel", "step", "(I)V"⟩, 57), (⟨"SixDewModel", "wets", "(IIII)V"⟩, 57), (⟨"SixDewModel", "keeps", "()V"⟩, 57), (⟨"SixDewModel", "planLine", "()Z"⟩, 57), (⟨"SixDewModel", "does", "(II)I"⟩, 57), (⟨"SixDewModel", "through", "(III)V"⟩, 57), (⟨"SixDewModel", "asks", "(III)Z"⟩, 57), (⟨"SixDewModel", "timesOf", "(III)V"⟩, 57), (⟨"SixDewModel", "beside", "(II)I"⟩, 57), (⟨"SixDewModel", "isDry", "(III)Z"⟩, 57)]
theorem lw_r4 : ∀ q ∈ lw_privs_4, lw_okq q := List.forall_mem_cons.mpr ⟨lw_p48, List.forall_mem_cons.mpr ⟨lw_p49, List.forall_mem_cons.mpr ⟨lw_p50, List.forall_mem_cons.mpr ⟨lw_p51, List.forall_mem_cons.mpr ⟨lw_p52, List.forall_mem_cons.mpr ⟨lw_p53, List.forall_mem_cons.mpr ⟨lw_p54, List.forall_mem_cons.mpr ⟨lw_p55, List.forall_mem_cons.mpr ⟨lw_p56, List.forall_mem_cons.mpr ⟨lw_p57, List.forall_mem_cons.mpr ⟨lw_p58, List.forall_mem_cons.mpr ⟨lw_p59, List.forall_mem_cons.mpr ⟨lw_p60, List.forall_mem_cons.mpr ⟨lw_p61, List.forall_mem_cons.mpr ⟨lw_p62, List.forall_mem_cons.mpr ⟨lw_p63, fun _ h => absurd h List.not_mem_nil⟩⟩⟩⟩⟩⟩⟩⟩⟩⟩⟩⟩⟩⟩⟩⟩
theorem lw_p64 : lw_okq (⟨"SixDewModel", "takesLawn", "()Z"⟩, 57) := ⟨⟨by decide +kernel, by decide +kernel⟩, List.mem_of_getElem? (i := 1161) (by decide +kernel), List.mem_of_getElem? (i := 1613) (by decide +kernel), List.mem_of_getElem? (i := 1614) (by decide +kernel)⟩
theorem lw_p65 : lw_okq (⟨"SixDewModel", "isLawn", "()Z"⟩, 57) := ⟨⟨by decide +kernel, by decide +kernel⟩, List.mem_of_getElem? (i := 1161) (by decide +kernel), List.mem_of_getElem? (i := 1617) (by decide +kernel), List.mem_of_getElem? (i := 1618) (by decide +kernel)⟩
theorem lw_p66 : lw_okq (⟨"SixDewModel", "clouds", "(I)V"⟩, 57) := ⟨⟨by decide +kernel, by decide +kernel⟩, List.mem_of_getElem? (i := 1161) (by decide +kernel), List.mem_of_getElem? (i := 1625) (by decide +kernel), List.mem_of_getElem? (i := 1626) (by decide +kernel)⟩
theorem lw_p67 : lw_okq (⟨"SixDewModel", "draw", "(I)I"⟩, 57) := ⟨⟨by decide +kernel, by decide +kernel⟩, List.mem_of_getElem? (i := 1161) (by decide +kernel), List.mem_of_getElem? (i := 1668) (by decide +kernel), List.mem_of_getElem? (i := 1669) (by decide +kernel)⟩
def lw_privs_5 : List (MethodName × Nat) := [(⟨"SixDewModel", "takesLawn", "()Z"⟩, 57), (⟨"SixDewModel", "isLawn", "()Z"⟩, 57), (⟨"SixDewModel", "clouds", "(I)V"⟩, 57), (⟨"SixDewModel", "draw", "(I)I"⟩, 57)]
theorem lw_r5 : ∀ q ∈ lw_privs_5, lw_okq q := List.forall_mem_cons.mpr ⟨lw_p64, List.forall_mem_cons.mpr ⟨lw_p65, List.forall_mem_cons.mpr ⟨lw_p66, List.forall_mem_cons.mpr ⟨lw_p67, fun _ h => absurd h List.not_mem_nil⟩⟩⟩⟩
def lw_privs : List (MethodName × Nat) := lw_privs_1 ++ (lw_privs_2 ++ (lw_privs_3 ++ (lw_privs_4 ++ (lw_privs_5))))
def lw_tbl : List Cond := k2_sels lw_privs ++ tables_1
theorem lw_privs_ok : ∀ q ∈ lw_privs, lw_okq q := by
  show ∀ q ∈ lw_privs_1 ++ (lw_privs_2 ++ (lw_privs_3 ++ (lw_privs_4 ++ (lw_privs_5)))), lw_okq q
  exact List.forall_mem_append.mpr ⟨lw_r1, List.forall_mem_append.mpr ⟨lw_r2, List.forall_mem_append.mpr ⟨lw_r3, List.forall_mem_append.mpr ⟨lw_r4, lw_r5⟩⟩⟩⟩

def RX0 : String := "SixDew$Ground"
def TX0 : u_T := fun k => match k with
  | 0 => ("SixDew$Ground", "columns", "I", false)
  | 1 => ("SixDew$Ground", "rows", "I", false)
  | 2 => ("SixDew$Ground", "kinds", "I", false)
  | 3 => ("SixDew$Ground", "shades", "I", false)
  | 4 => ("SixDew$Ground", "stock", "I", false)
  | 5 => ("SixDew$Ground", "hold", "[I", true)
  | 6 => ("SixDew$Ground", "give", "[I", true)
  | 7 => ("SixDew$Ground", "gift", "[I", true)
  | 8 => ("SixDew$Ground", "kindOf", "[I", true)
  | _ => ("SixDew$Ground", "skyOf", "[I", true)
def tyX0 : Nat → FieldType := fun k => match k with
  | 0 => .int
  | 1 => .int
  | 2 => .int
  | 3 => .int
  | 4 => .int
  | 5 => .array .int
  | 6 => .array .int
  | 7 => .array .int
  | 8 => .array .int
  | _ => .array .int
abbrev wsX00 : List Cond := u_ws RX0 TX0 10
theorem nmX0 : ∀ a, a < 10 → ∀ b, b < 10 → a ≠ b → (TX0 a).2.1 ≠ (TX0 b).2.1 := by decide +kernel
theorem tyX0_ok : ∀ k, k < 10 → parseFieldDescriptor (TX0 k).2.2.1 = some (tyX0 k) := by decide +kernel
abbrev cX0_init : ByteArray := prog_2_method_1_code
def yX0_init : MethodName := ⟨RX0, "<init>", "()V"⟩
abbrev cX0_size : ByteArray := prog_2_method_2_code
def yX0_size : MethodName := ⟨RX0, "size", "()I"⟩
abbrev cX0_cellAt : ByteArray := prog_2_method_3_code
def yX0_cellAt : MethodName := ⟨RX0, "cellAt", "(II)I"⟩
abbrev cX0_placeOf : ByteArray := prog_2_method_4_code
def yX0_placeOf : MethodName := ⟨RX0, "placeOf", "(I)I"⟩
abbrev cX0_tell : ByteArray := prog_2_method_5_code
def yX0_tell : MethodName := ⟨RX0, "tell", "(II)I"⟩
abbrev cX0_ofKind : ByteArray := prog_2_method_6_code
def yX0_ofKind : MethodName := ⟨RX0, "ofKind", "([II)I"⟩
abbrev cX0_clear : ByteArray := prog_2_method_7_code
def yX0_clear : MethodName := ⟨RX0, "clear", "()V"⟩
abbrev cX0_copyFrom : ByteArray := prog_2_method_8_code
def yX0_copyFrom : MethodName := ⟨RX0, "copyFrom", "(LSixDew$Ground;)V"⟩
def RX1 : String := "SixDew$GroundReader"
def TX1 : u_T := fun k => match k with
  | 0 => ("SixDew$GroundReader", "read", "LSixDew$Ground;", true)
  | 1 => ("SixDew$GroundReader", "nameFrom", "[I", true)
  | 2 => ("SixDew$GroundReader", "nameSize", "[I", true)
  | 3 => ("SixDew$GroundReader", "shade", "[[I", true)
  | _ => ("SixDew$GroundReader", "stockTold", "Z", false)
def tyX1 : Nat → FieldType := fun k => match k with
  | 0 => .object "SixDew$Ground"
  | 1 => .array .int
  | 2 => .array .int
  | 3 => .array (.array .int)
  | _ => .boolean
abbrev wsX10 : List Cond := u_ws RX1 TX1 5
theorem nmX1 : ∀ a, a < 5 → ∀ b, b < 5 → a ≠ b → (TX1 a).2.1 ≠ (TX1 b).2.1 := by decide +kernel
theorem tyX1_ok : ∀ k, k < 5 → parseFieldDescriptor (TX1 k).2.2.1 = some (tyX1 k) := by decide +kernel
abbrev cX1_init : ByteArray := prog_3_method_1_code
def yX1_init : MethodName := ⟨RX1, "<init>", "()V"⟩
abbrev cX1_readText : ByteArray := prog_3_method_2_code
def yX1_readText : MethodName := ⟨RX1, "readText", "(LSixDew$Tape;)I"⟩
abbrev cX1_readLine : ByteArray := prog_3_method_3_code
def yX1_readLine : MethodName := ⟨RX1, "readLine", "(LSixDew$Tape;)Z"⟩
abbrev cX1_readKind : ByteArray := prog_3_method_4_code
def yX1_readKind : MethodName := ⟨RX1, "readKind", "(LSixDew$Tape;)Z"⟩
abbrev cX1_isNewName : ByteArray := prog_3_method_5_code
def yX1_isNewName : MethodName := ⟨RX1, "isNewName", "(LSixDew$Tape;I)Z"⟩
abbrev cX1_readRow : ByteArray := prog_3_method_6_code
def yX1_readRow : MethodName := ⟨RX1, "readRow", "(LSixDew$Tape;)Z"⟩
abbrev cX1_readShade : ByteArray := prog_3_method_7_code
def yX1_readShade : MethodName := ⟨RX1, "readShade", "(LSixDew$Tape;)Z"⟩
abbrev cX1_readStock : ByteArray := prog_3_method_8_code
def yX1_readStock : MethodName := ⟨RX1, "readStock", "(LSixDew$Tape;)Z"⟩
abbrev cX1_setSky : ByteArray := prog_3_method_9_code
def yX1_setSky : MethodName := ⟨RX1, "setSky", "()V"⟩
abbrev cX1_hiddenAt : ByteArray := prog_3_method_10_code
def yX1_hiddenAt : MethodName := ⟨RX1, "hiddenAt", "(II)I"⟩
def RX2 : String := "SixDew$Night"
def TX2 : u_T := fun k => match k with
  | 0 => ("SixDew$Night", "there", "Z", false)
  | _ => ("SixDew$Night", "told", "[[I", true)
def tyX2 : Nat → FieldType := fun k => match k with
  | 0 => .boolean
  | _ => .array (.array .int)
abbrev wsX20 : List Cond := u_ws RX2 TX2 2
theorem nmX2 : ∀ a, a < 2 → ∀ b, b < 2 → a ≠ b → (TX2 a).2.1 ≠ (TX2 b).2.1 := by decide +kernel
theorem tyX2_ok : ∀ k, k < 2 → parseFieldDescriptor (TX2 k).2.2.1 = some (tyX2 k) := by decide +kernel
abbrev cX2_init : ByteArray := prog_4_method_1_code
def yX2_init : MethodName := ⟨RX2, "<init>", "()V"⟩
abbrev cX2_tell : ByteArray := prog_4_method_2_code
def yX2_tell : MethodName := ⟨RX2, "tell", "(II)I"⟩
abbrev cX2_set : ByteArray := prog_4_method_3_code
def yX2_set : MethodName := ⟨RX2, "set", "(III)V"⟩
abbrev cX2_clear : ByteArray := prog_4_method_4_code
def yX2_clear : MethodName := ⟨RX2, "clear", "()V"⟩
abbrev cX2_copyFrom : ByteArray := prog_4_method_5_code
def yX2_copyFrom : MethodName := ⟨RX2, "copyFrom", "(LSixDew$Night;)V"⟩
def RX3 : String := "SixDew$NightReader"
def TX3 : u_T := fun k => match k with
  | 0 => ("SixDew$NightReader", "read", "LSixDew$Night;", true)
  | _ => ("SixDew$NightReader", "latest", "I", false)
def tyX3 : Nat → FieldType := fun k => match k with
  | 0 => .object "SixDew$Night"
  | _ => .int
abbrev wsX30 : List Cond := u_ws RX3 TX3 2
theorem nmX3 : ∀ a, a < 2 → ∀ b, b < 2 → a ≠ b → (TX3 a).2.1 ≠ (TX3 b).2.1 := by decide +kernel
theorem tyX3_ok : ∀ k, k < 2 → parseFieldDescriptor (TX3 k).2.2.1 = some (tyX3 k) := by decide +kernel
abbrev cX3_init : ByteArray := prog_5_method_1_code
def yX3_init : MethodName := ⟨RX3, "<init>", "()V"⟩
abbrev cX3_readText : ByteArray := prog_5_method_2_code
def yX3_readText : MethodName := ⟨RX3, "readText", "(LSixDew$Tape;)I"⟩
abbrev cX3_readLine : ByteArray := prog_5_method_3_code
def yX3_readLine : MethodName := ⟨RX3, "readLine", "(LSixDew$Tape;I)Z"⟩
abbrev cX3_whatIsTold : ByteArray := prog_5_method_4_code
def yX3_whatIsTold : MethodName := ⟨RX3, "whatIsTold", "(LSixDew$Tape;)I"⟩
abbrev cX3_mostOf : ByteArray := prog_5_method_5_code
def yX3_mostOf : MethodName := ⟨RX3, "mostOf", "(I)I"⟩
def RX4 : String := "SixDew$Paths"
def TX4 : u_T := fun k => match k with
  | _ => ("SixDew$Paths", "cost", "[I", true)
def tyX4 : Nat → FieldType := fun k => match k with
  | _ => .array .int
abbrev wsX40 : List Cond := u_ws RX4 TX4 1
theorem nmX4 : ∀ a, a < 1 → ∀ b, b < 1 → a ≠ b → (TX4 a).2.1 ≠ (TX4 b).2.1 := by decide +kernel
theorem tyX4_ok : ∀ k, k < 1 → parseFieldDescriptor (TX4 k).2.2.1 = some (tyX4 k) := by decide +kernel
abbrev cX4_init : ByteArray := prog_6_method_1_code
def yX4_init : MethodName := ⟨RX4, "<init>", "()V"⟩
abbrev cX4_wetAround : ByteArray := prog_6_method_2_code
def yX4_wetAround : MethodName := ⟨RX4, "wetAround", "(LSixDew$Run;LSixDew$Ground;I)I"⟩
abbrev cX4_leastWater : ByteArray := prog_6_method_3_code
def yX4_leastWater : MethodName := ⟨RX4, "leastWater", "(LSixDew$Run;LSixDew$Ground;II)I"⟩
abbrev cX4_spread : ByteArray := prog_6_method_4_code
def yX4_spread : MethodName := ⟨RX4, "spread", "(LSixDew$Run;LSixDew$Ground;IZ)V"⟩
abbrev cX4_leastBeside : ByteArray := prog_6_method_5_code
def yX4_leastBeside : MethodName := ⟨RX4, "leastBeside", "(LSixDew$Ground;I)I"⟩
abbrev cX4_costAt : ByteArray := prog_6_method_6_code
def yX4_costAt : MethodName := ⟨RX4, "costAt", "(LSixDew$Ground;II)I"⟩
def RX5 : String := "SixDew$Plan"
def TX5 : u_T := fun k => match k with
  | 0 => ("SixDew$Plan", "lines", "I", false)
  | _ => ("SixDew$Plan", "line", "[[I", true)
def tyX5 : Nat → FieldType := fun k => match k with
  | 0 => .int
  | _ => .array (.array .int)
abbrev wsX50 : List Cond := u_ws RX5 TX5 2
theorem nmX5 : ∀ a, a < 2 → ∀ b, b < 2 → a ≠ b → (TX5 a).2.1 ≠ (TX5 b).2.1 := by decide +kernel
theorem tyX5_ok : ∀ k, k < 2 → parseFieldDescriptor (TX5 k).2.2.1 = some (tyX5 k) := by decide +kernel
abbrev cX5_init : ByteArray := prog_7_method_1_code
def yX5_init : MethodName := ⟨RX5, "<init>", "()V"⟩
abbrev cX5_tell : ByteArray := prog_7_method_2_code
def yX5_tell : MethodName := ⟨RX5, "tell", "(II)I"⟩
abbrev cX5_set : ByteArray := prog_7_method_3_code
def yX5_set : MethodName := ⟨RX5, "set", "(III)V"⟩
abbrev cX5_copyFrom : ByteArray := prog_7_method_4_code
def yX5_copyFrom : MethodName := ⟨RX5, "copyFrom", "(LSixDew$Plan;)V"⟩
def RX6 : String := "SixDew$PlanReader"
def TX6 : u_T := fun k => match k with
  | _ => ("SixDew$PlanReader", "read", "LSixDew$Plan;", true)
def tyX6 : Nat → FieldType := fun k => match k with
  | _ => .object "SixDew$Plan"
abbrev wsX60 : List Cond := u_ws RX6 TX6 1
theorem nmX6 : ∀ a, a < 1 → ∀ b, b < 1 → a ≠ b → (TX6 a).2.1 ≠ (TX6 b).2.1 := by decide +kernel
theorem tyX6_ok : ∀ k, k < 1 → parseFieldDescriptor (TX6 k).2.2.1 = some (tyX6 k) := by decide +kernel
abbrev cX6_init : ByteArray := prog_8_method_1_code
def yX6_init : MethodName := ⟨RX6, "<init>", "()V"⟩
abbrev cX6_readText : ByteArray := prog_8_method_2_code
def yX6_readText : MethodName := ⟨RX6, "readText", "(LSixDew$Tape;LSixDew$Ground;)I"⟩
abbrev cX6_readLine : ByteArray := prog_8_method_3_code
def yX6_readLine : MethodName := ⟨RX6, "readLine", "(LSixDew$Tape;LSixDew$Ground;I)Z"⟩
abbrev cX6_whatIsDone : ByteArray := prog_8_method_4_code
def yX6_whatIsDone : MethodName := ⟨RX6, "whatIsDone", "(LSixDew$Tape;)I"⟩
def RX7 : String := "SixDew$Run"
def TX7 : u_T := fun k => match k with
  | 0 => ("SixDew$Run", "going", "Z", false)
  | 1 => ("SixDew$Run", "cells", "I", false)
  | 2 => ("SixDew$Run", "done", "I", false)
  | 3 => ("SixDew$Run", "stock", "I", false)
  | 4 => ("SixDew$Run", "given", "I", false)
  | 5 => ("SixDew$Run", "story", "I", false)
  | 6 => ("SixDew$Run", "clouded", "I", false)
  | 7 => ("SixDew$Run", "night", "LSixDew$Night;", true)
  | 8 => ("SixDew$Run", "hold", "[I", true)
  | 9 => ("SixDew$Run", "give", "[I", true)
  | 10 => ("SixDew$Run", "gift", "[I", true)
  | 11 => ("SixDew$Run", "skyOf", "[I", true)
  | 12 => ("SixDew$Run", "covered", "[I", true)
  | 13 => ("SixDew$Run", "warmth", "[I", true)
  | _ => ("SixDew$Run", "water", "[I", true)
def tyX7 : Nat → FieldType := fun k => match k with
  | 0 => .boolean
  | 1 => .int
  | 2 => .int
  | 3 => .int
  | 4 => .int
  | 5 => .int
  | 6 => .int
  | 7 => .object "SixDew$Night"
  | 8 => .array .int
  | 9 => .array .int
  | 10 => .array .int
  | 11 => .array .int
  | 12 => .array .int
  | 13 => .array .int
  | _ => .array .int
abbrev wsX70 : List Cond := u_ws RX7 TX7 15
theorem nmX7 : ∀ a, a < 15 → ∀ b, b < 15 → a ≠ b → (TX7 a).2.1 ≠ (TX7 b).2.1 := by decide +kernel
theorem tyX7_ok : ∀ k, k < 15 → parseFieldDescriptor (TX7 k).2.2.1 = some (tyX7 k) := by decide +kernel
abbrev cX7_init : ByteArray := prog_9_method_1_code
def yX7_init : MethodName := ⟨RX7, "<init>", "()V"⟩
abbrev cX7_start : ByteArray := prog_9_method_2_code
def yX7_start : MethodName := ⟨RX7, "start", "(LSixDew$Ground;LSixDew$Night;)V"⟩
abbrev cX7_has : ByteArray := prog_9_method_3_code
def yX7_has : MethodName := ⟨RX7, "has", "(I)Z"⟩
abbrev cX7_setKind : ByteArray := prog_9_method_4_code
def yX7_setKind : MethodName := ⟨RX7, "setKind", "(ILSixDew$Ground;I)V"⟩
abbrev cX7_hideSky : ByteArray := prog_9_method_5_code
def yX7_hideSky : MethodName := ⟨RX7, "hideSky", "(II)V"⟩
abbrev cX7_warmthOf : ByteArray := prog_9_method_6_code
def yX7_warmthOf : MethodName := ⟨RX7, "warmthOf", "(I)I"⟩
abbrev cX7_waterOf : ByteArray := prog_9_method_7_code
def yX7_waterOf : MethodName := ⟨RX7, "waterOf", "(I)I"⟩
abbrev cX7_wetCells : ByteArray := prog_9_method_8_code
def yX7_wetCells : MethodName := ⟨RX7, "wetCells", "(I)I"⟩
abbrev cX7_waterOfAll : ByteArray := prog_9_method_9_code
def yX7_waterOfAll : MethodName := ⟨RX7, "waterOfAll", "()I"⟩
abbrev cX7_coveredCells : ByteArray := prog_9_method_10_code
def yX7_coveredCells : MethodName := ⟨RX7, "coveredCells", "()I"⟩
abbrev cX7_isUnlike : ByteArray := prog_9_method_11_code
def yX7_isUnlike : MethodName := ⟨RX7, "isUnlike", "(LSixDew$Run;)Z"⟩
abbrev cX7_goBy : ByteArray := prog_9_method_12_code
def yX7_goBy : MethodName := ⟨RX7, "goBy", "(I)Z"⟩
abbrev cX7_wipe : ByteArray := prog_9_method_13_code
def yX7_wipe : MethodName := ⟨RX7, "wipe", "(I)I"⟩
abbrev cX7_cover : ByteArray := prog_9_method_14_code
def yX7_cover : MethodName := ⟨RX7, "cover", "(I)Z"⟩
abbrev cX7_bare : ByteArray := prog_9_method_15_code
def yX7_bare : MethodName := ⟨RX7, "bare", "(II)Z"⟩
abbrev cX7_until : ByteArray := prog_9_method_16_code
def yX7_until : MethodName := ⟨RX7, "until", "(I)V"⟩
abbrev cX7_staysDry : ByteArray := prog_9_method_17_code
def yX7_staysDry : MethodName := ⟨RX7, "staysDry", "(I)Z"⟩
abbrev cX7_step : ByteArray := prog_9_method_18_code
def yX7_step : MethodName := ⟨RX7, "step", "()V"⟩
abbrev cX7_warmer : ByteArray := prog_9_method_19_code
def yX7_warmer : MethodName := ⟨RX7, "warmer", "(IIIII)I"⟩
abbrev cX7_comeOn : ByteArray := prog_9_method_20_code
def yX7_comeOn : MethodName := ⟨RX7, "comeOn", "(III)V"⟩
abbrev cX7_dryOff : ByteArray := prog_9_method_21_code
def yX7_dryOff : MethodName := ⟨RX7, "dryOff", "(III)V"⟩
abbrev cX7_copyFrom : ByteArray := prog_9_method_22_code
def yX7_copyFrom : MethodName := ⟨RX7, "copyFrom", "(LSixDew$Run;)V"⟩
def RX8 : String := "SixDew$State"
def TX8 : u_T := fun k => match k with
  | 0 => ("SixDew$State", "there", "Z", false)
  | 1 => ("SixDew$State", "ground", "LSixDew$Ground;", true)
  | 2 => ("SixDew$State", "nights", "[LSixDew$Night;", true)
  | 3 => ("SixDew$State", "plan", "LSixDew$Plan;", true)
  | _ => ("SixDew$State", "run", "LSixDew$Run;", true)
def tyX8 : Nat → FieldType := fun k => match k with
  | 0 => .boolean
  | 1 => .object "SixDew$Ground"
  | 2 => .array (.object "SixDew$Night")
  | 3 => .object "SixDew$Plan"
  | _ => .object "SixDew$Run"
abbrev wsX80 : List Cond := u_ws RX8 TX8 5
theorem nmX8 : ∀ a, a < 5 → ∀ b, b < 5 → a ≠ b → (TX8 a).2.1 ≠ (TX8 b).2.1 := by decide +kernel
theorem tyX8_ok : ∀ k, k < 5 → parseFieldDescriptor (TX8 k).2.2.1 = some (tyX8 k) := by decide +kernel
abbrev cX8_init : ByteArray := prog_10_method_1_code
def yX8_init : MethodName := ⟨RX8, "<init>", "()V"⟩
abbrev cX8_nightOf : ByteArray := prog_10_method_2_code
def yX8_nightOf : MethodName := ⟨RX8, "nightOf", "(I)LSixDew$Night;"⟩
abbrev cX8_slotsWithNight : ByteArray := prog_10_method_3_code
def yX8_slotsWithNight : MethodName := ⟨RX8, "slotsWithNight", "()I"⟩
abbrev cX8_take : ByteArray := prog_10_method_4_code
def yX8_take : MethodName := ⟨RX8, "take", "(LSixDew$Ground;)V"⟩
abbrev cX8_copyFrom : ByteArray := prog_10_method_5_code
def yX8_copyFrom : MethodName := ⟨RX8, "copyFrom", "(LSixDew$State;)V"⟩
def RX9 : String := "SixDew$Tape"
def TX9 : u_T := fun k => match k with
  | 0 => ("SixDew$Tape", "bytes", "[I", true)
  | 1 => ("SixDew$Tape", "size", "I", false)
  | 2 => ("SixDew$Tape", "limit", "I", false)
  | 3 => ("SixDew$Tape", "next", "I", false)
  | 4 => ("SixDew$Tape", "from", "I", false)
  | 5 => ("SixDew$Tape", "token", "I", false)
  | 6 => ("SixDew$Tape", "value", "I", false)
  | 7 => ("SixDew$Tape", "fault", "I", false)
  | _ => ("SixDew$Tape", "faultPlace", "I", false)
def tyX9 : Nat → FieldType := fun k => match k with
  | 0 => .array .int
  | 1 => .int
  | 2 => .int
  | 3 => .int
  | 4 => .int
  | 5 => .int
  | 6 => .int
  | 7 => .int
  | _ => .int
abbrev wsX90 : List Cond := u_ws RX9 TX9 9
theorem nmX9 : ∀ a, a < 9 → ∀ b, b < 9 → a ≠ b → (TX9 a).2.1 ≠ (TX9 b).2.1 := by decide +kernel
theorem tyX9_ok : ∀ k, k < 9 → parseFieldDescriptor (TX9 k).2.2.1 = some (tyX9 k) := by decide +kernel
abbrev cX9_init : ByteArray := prog_11_method_1_code
def yX9_init : MethodName := ⟨RX9, "<init>", "()V"⟩
abbrev cX9_add : ByteArray := prog_11_method_2_code
def yX9_add : MethodName := ⟨RX9, "add", "(I)V"⟩
abbrev cX9_byteAt : ByteArray := prog_11_method_3_code
def yX9_byteAt : MethodName := ⟨RX9, "byteAt", "(I)I"⟩
abbrev cX9_open : ByteArray := prog_11_method_4_code
def yX9_open : MethodName := ⟨RX9, "open", "(I)V"⟩
abbrev cX9_take : ByteArray := prog_11_method_5_code
def yX9_take : MethodName := ⟨RX9, "take", "()V"⟩
abbrev cX9_takeWordOrNumber : ByteArray := prog_11_method_6_code
def yX9_takeWordOrNumber : MethodName := ⟨RX9, "takeWordOrNumber", "()V"⟩
abbrev cX9_tokenSize : ByteArray := prog_11_method_7_code
def yX9_tokenSize : MethodName := ⟨RX9, "tokenSize", "()I"⟩
abbrev cX9_says : ByteArray := prog_11_method_8_code
def yX9_says : MethodName := ⟨RX9, "says", "(Ljava/lang/String;)Z"⟩
abbrev cX9_saysTold : ByteArray := prog_11_method_9_code
def yX9_saysTold : MethodName := ⟨RX9, "saysTold", "()Z"⟩
abbrev cX9_saysAsAt : ByteArray := prog_11_method_10_code
def yX9_saysAsAt : MethodName := ⟨RX9, "saysAsAt", "(II)Z"⟩
abbrev cX9_fail : ByteArray := prog_11_method_11_code
def yX9_fail : MethodName := ⟨RX9, "fail", "(I)Z"⟩
abbrev cX9_takeWord : ByteArray := prog_11_method_12_code
def yX9_takeWord : MethodName := ⟨RX9, "takeWord", "()Z"⟩
abbrev cX9_takeNumber : ByteArray := prog_11_method_13_code
def yX9_takeNumber : MethodName := ⟨RX9, "takeNumber", "(II)Z"⟩
abbrev cX9_takeStop : ByteArray := prog_11_method_14_code
def yX9_takeStop : MethodName := ⟨RX9, "takeStop", "()Z"⟩
def RX10 : String := "SixDew$Watch"
def TX10 : u_T := fun k => match k with
  | 0 => ("SixDew$Watch", "first", "[I", true)
  | 1 => ("SixDew$Watch", "last", "[I", true)
  | 2 => ("SixDew$Watch", "wetSteps", "[I", true)
  | 3 => ("SixDew$Watch", "lasting", "[I", true)
  | 4 => ("SixDew$Watch", "longest", "[I", true)
  | _ => ("SixDew$Watch", "frosty", "[I", true)
def tyX10 : Nat → FieldType := fun k => match k with
  | 0 => .array .int
  | 1 => .array .int
  | 2 => .array .int
  | 3 => .array .int
  | 4 => .array .int
  | _ => .array .int
abbrev wsX100 : List Cond := u_ws RX10 TX10 6
theorem nmX10 : ∀ a, a < 6 → ∀ b, b < 6 → a ≠ b → (TX10 a).2.1 ≠ (TX10 b).2.1 := by decide +kernel
theorem tyX10_ok : ∀ k, k < 6 → parseFieldDescriptor (TX10 k).2.2.1 = some (tyX10 k) := by decide +kernel
abbrev cX10_init : ByteArray := prog_12_method_1_code
def yX10_init : MethodName := ⟨RX10, "<init>", "()V"⟩
abbrev cX10_clear : ByteArray := prog_12_method_2_code
def yX10_clear : MethodName := ⟨RX10, "clear", "()V"⟩
abbrev cX10_look : ByteArray := prog_12_method_3_code
def yX10_look : MethodName := ⟨RX10, "look", "(LSixDew$Run;I)V"⟩
abbrev cX10_seeWet : ByteArray := prog_12_method_4_code
def yX10_seeWet : MethodName := ⟨RX10, "seeWet", "(IIZ)V"⟩
abbrev cX10_tell : ByteArray := prog_12_method_5_code
def yX10_tell : MethodName := ⟨RX10, "tell", "([II)I"⟩
abbrev cX10_longSpells : ByteArray := prog_12_method_6_code
def yX10_longSpells : MethodName := ⟨RX10, "longSpells", "(II)I"⟩
def RX11 : String := "SixDew"
def TX11 : u_T := fun k => match k with
  | 0 => ("SixDew", "tape", "LSixDew$Tape;", true)
  | 1 => ("SixDew", "state", "LSixDew$State;", true)
  | 2 => ("SixDew", "kept", "[LSixDew$State;", true)
  | 3 => ("SixDew", "groundReader", "LSixDew$GroundReader;", true)
  | 4 => ("SixDew", "nightReader", "LSixDew$NightReader;", true)
  | 5 => ("SixDew", "planReader", "LSixDew$PlanReader;", true)
  | 6 => ("SixDew", "trial", "LSixDew$Run;", true)
  | 7 => ("SixDew", "branch", "LSixDew$Run;", true)
  | 8 => ("SixDew", "watch", "LSixDew$Watch;", true)
  | 9 => ("SixDew", "paths", "LSixDew$Paths;", true)
  | 10 => ("SixDew", "triedCells", "[I", true)
  | 11 => ("SixDew", "triedWater", "[[I", true)
  | 12 => ("SixDew", "wentSo", "[I", true)
  | 13 => ("SixDew", "wentTold", "Z", false)
  | 14 => ("SixDew", "cameFirst", "I", false)
  | 15 => ("SixDew", "cameLast", "I", false)
  | 16 => ("SixDew", "drawnSo", "[I", true)
  | _ => ("SixDew", "drawnTold", "Z", false)
def tyX11 : Nat → FieldType := fun k => match k with
  | 0 => .object "SixDew$Tape"
  | 1 => .object "SixDew$State"
  | 2 => .array (.object "SixDew$State")
  | 3 => .object "SixDew$GroundReader"
  | 4 => .object "SixDew$NightReader"
  | 5 => .object "SixDew$PlanReader"
  | 6 => .object "SixDew$Run"
  | 7 => .object "SixDew$Run"
  | 8 => .object "SixDew$Watch"
  | 9 => .object "SixDew$Paths"
  | 10 => .array .int
  | 11 => .array (.array .int)
  | 12 => .array .int
  | 13 => .boolean
  | 14 => .int
  | 15 => .int
  | 16 => .array .int
  | _ => .boolean
abbrev wsX110 : List Cond := u_ws RX11 TX11 18
theorem nmX11 : ∀ a, a < 18 → ∀ b, b < 18 → a ≠ b → (TX11 a).2.1 ≠ (TX11 b).2.1 := by decide +kernel
theorem tyX11_ok : ∀ k, k < 18 → parseFieldDescriptor (TX11 k).2.2.1 = some (tyX11 k) := by decide +kernel
abbrev cX11_init : ByteArray := prog_1_method_1_code
def yX11_init : MethodName := ⟨RX11, "<init>", "()V"⟩
abbrev cX11_feed : ByteArray := prog_1_method_2_code
def yX11_feed : MethodName := ⟨RX11, "feed", "(IIIII)I"⟩
abbrev cX11_end : ByteArray := prog_1_method_3_code
def yX11_end : MethodName := ⟨RX11, "end", "(I)Z"⟩
abbrev cX11_ground : ByteArray := prog_1_method_4_code
def yX11_ground : MethodName := ⟨RX11, "ground", "()I"⟩
abbrev cX11_fault : ByteArray := prog_1_method_5_code
def yX11_fault : MethodName := ⟨RX11, "fault", "()I"⟩
abbrev cX11_cell : ByteArray := prog_1_method_6_code
def yX11_cell : MethodName := ⟨RX11, "cell", "(III)I"⟩
abbrev cX11_night : ByteArray := prog_1_method_7_code
def yX11_night : MethodName := ⟨RX11, "night", "(I)I"⟩
abbrev cX11_sky : ByteArray := prog_1_method_8_code
def yX11_sky : MethodName := ⟨RX11, "sky", "(III)I"⟩
abbrev cX11_begin : ByteArray := prog_1_method_9_code
def yX11_begin : MethodName := ⟨RX11, "begin", "(I)Z"⟩
abbrev cX11_on : ByteArray := prog_1_method_10_code
def yX11_on : MethodName := ⟨RX11, "on", "(I)I"⟩
abbrev cX11_is : ByteArray := prog_1_method_11_code
def yX11_is : MethodName := ⟨RX11, "is", "(III)I"⟩
abbrev cX11_now : ByteArray := prog_1_method_12_code
def yX11_now : MethodName := ⟨RX11, "now", "(I)I"⟩
abbrev cX11_plan : ByteArray := prog_1_method_13_code
def yX11_plan : MethodName := ⟨RX11, "plan", "()I"⟩
abbrev cX11_go : ByteArray := prog_1_method_14_code
def yX11_go : MethodName := ⟨RX11, "go", "(I)I"⟩
abbrev cX11_went : ByteArray := prog_1_method_15_code
def yX11_went : MethodName := ⟨RX11, "went", "(I)I"⟩
abbrev cX11_doLine : ByteArray := prog_1_method_16_code
def yX11_doLine : MethodName := ⟨RX11, "doLine", "(LSixDew$Run;I)I"⟩
abbrev cX11_much : ByteArray := prog_1_method_17_code
def yX11_much : MethodName := ⟨RX11, "much", "(IIII)I"⟩
abbrev cX11_where : ByteArray := prog_1_method_18_code
def yX11_where : MethodName := ⟨RX11, "where", "(III)I"⟩
abbrev cX11_begins : ByteArray := prog_1_method_19_code
def yX11_begins : MethodName := ⟨RX11, "begins", "(III)I"⟩
abbrev cX11_gone : ByteArray := prog_1_method_20_code
def yX11_gone : MethodName := ⟨RX11, "gone", "(III)I"⟩
abbrev cX11_wet : ByteArray := prog_1_method_21_code
def yX11_wet : MethodName := ⟨RX11, "wet", "(III)I"⟩
abbrev cX11_spell : ByteArray := prog_1_method_22_code
def yX11_spell : MethodName := ⟨RX11, "spell", "(III)I"⟩
abbrev cX11_sick : ByteArray := prog_1_method_23_code
def yX11_sick : MethodName := ⟨RX11, "sick", "(II)I"⟩
abbrev cX11_frost : ByteArray := prog_1_method_24_code
def yX11_frost : MethodName := ⟨RX11, "frost", "(III)I"⟩
abbrev cX11_slugs : ByteArray := prog_1_method_25_code
def yX11_slugs : MethodName := ⟨RX11, "slugs", "(IIII)I"⟩
abbrev cX11_walk : ByteArray := prog_1_method_26_code
def yX11_walk : MethodName := ⟨RX11, "walk", "(IIII)I"⟩
abbrev cX11_unlike : ByteArray := prog_1_method_27_code
def yX11_unlike : MethodName := ⟨RX11, "unlike", "(II)I"⟩
abbrev cX11_bench : ByteArray := prog_1_method_28_code
def yX11_bench : MethodName := ⟨RX11, "bench", "(II)I"⟩
abbrev cX11_lawn : ByteArray := prog_1_method_29_code
def yX11_lawn : MethodName := ⟨RX11, "lawn", "()I"⟩
abbrev cX11_clouded : ByteArray := prog_1_method_30_code
def yX11_clouded : MethodName := ⟨RX11, "clouded", "(I)I"⟩
abbrev cX11_came : ByteArray := prog_1_method_31_code
def yX11_came : MethodName := ⟨RX11, "came", "(IIII)I"⟩
abbrev cX11_cameAt : ByteArray := prog_1_method_32_code
def yX11_cameAt : MethodName := ⟨RX11, "cameAt", "(I)I"⟩
abbrev cX11_roof : ByteArray := prog_1_method_33_code
def yX11_roof : MethodName := ⟨RX11, "roof", "(III)I"⟩
abbrev cX11_driest : ByteArray := prog_1_method_34_code
def yX11_driest : MethodName := ⟨RX11, "driest", "(II)I"⟩
abbrev cX11_catcher : ByteArray := prog_1_method_35_code
def yX11_catcher : MethodName := ⟨RX11, "catcher", "(III)I"⟩
abbrev cX11_story : ByteArray := prog_1_method_36_code
def yX11_story : MethodName := ⟨RX11, "story", "(IIIII)I"⟩
abbrev cX11_part : ByteArray := prog_1_method_37_code
def yX11_part : MethodName := ⟨RX11, "part", "(IIIII)I"⟩
abbrev cX11_tries : ByteArray := prog_1_method_38_code
def yX11_tries : MethodName := ⟨RX11, "tries", "(II)I"⟩
abbrev cX11_hay : ByteArray := prog_1_method_39_code
def yX11_hay : MethodName := ⟨RX11, "hay", "(II)I"⟩
abbrev cX11_drawn : ByteArray := prog_1_method_40_code
def yX11_drawn : MethodName := ⟨RX11, "drawn", "(IIIII)I"⟩
abbrev cX11_drawnBy : ByteArray := prog_1_method_41_code
def yX11_drawnBy : MethodName := ⟨RX11, "drawnBy", "(I)I"⟩
abbrev cX11_image : ByteArray := prog_1_method_42_code
def yX11_image : MethodName := ⟨RX11, "image", "(I)Z"⟩
abbrev cX11_restore : ByteArray := prog_1_method_43_code
def yX11_restore : MethodName := ⟨RX11, "restore", "(I)Z"⟩
abbrev cX11_count : ByteArray := prog_1_method_44_code
def yX11_count : MethodName := ⟨RX11, "count", "(I)I"⟩
abbrev cX11_isStep : ByteArray := prog_1_method_45_code
def yX11_isStep : MethodName := ⟨RX11, "isStep", "(I)Z"⟩
abbrev cX11_isStory : ByteArray := prog_1_method_46_code
def yX11_isStory : MethodName := ⟨RX11, "isStory", "(I)Z"⟩
abbrev cX11_start : ByteArray := prog_1_method_47_code
def yX11_start : MethodName := ⟨RX11, "start", "(LSixDew$Run;I)Z"⟩
abbrev cX11_runBehind : ByteArray := prog_1_method_48_code
def yX11_runBehind : MethodName := ⟨RX11, "runBehind", "(II)Z"⟩
abbrev cX11_watched : ByteArray := prog_1_method_49_code
def yX11_watched : MethodName := ⟨RX11, "watched", "(I)Z"⟩
abbrev cX11_isLawn : ByteArray := prog_1_method_50_code
def yX11_isLawn : MethodName := ⟨RX11, "isLawn", "(I)Z"⟩
abbrev cX11_looksSo : ByteArray := prog_1_method_51_code
def yX11_looksSo : MethodName := ⟨RX11, "looksSo", "(LSixDew$Run;)Z"⟩
abbrev cX11_waterOfSquare : ByteArray := prog_1_method_52_code
def yX11_waterOfSquare : MethodName := ⟨RX11, "waterOfSquare", "(III)I"⟩
abbrev cX11_areTriedCells : ByteArray := prog_1_method_53_code
def yX11_areTriedCells : MethodName := ⟨RX11, "areTriedCells", "(I)Z"⟩
abbrev cX11_fewestParting : ByteArray := prog_1_method_54_code
def yX11_fewestParting : MethodName := ⟨RX11, "fewestParting", "(I)I"⟩
abbrev cX11_parts : ByteArray := prog_1_method_55_code
def yX11_parts : MethodName := ⟨RX11, "parts", "(III)Z"⟩
def RX12 : String := "SixDewModel"
def TX12 : u_T := fun k => match k with
  | 0 => ("SixDewModel", "thrown", "I", false)
  | 1 => ("SixDewModel", "tape", "[B", true)
  | 2 => ("SixDewModel", "length", "I", false)
  | 3 => ("SixDewModel", "size", "I", false)
  | 4 => ("SixDewModel", "p", "I", false)
  | 5 => ("SixDewModel", "limit", "I", false)
  | 6 => ("SixDewModel", "s", "[I", true)
  | 7 => ("SixDewModel", "h", "[I", true)
  | 8 => ("SixDewModel", "read", "[I", true)
  | 9 => ("SixDewModel", "names", "[J", true)
  | 10 => ("SixDewModel", "reserved", "[J", true)
  | 11 => ("SixDewModel", "token", "I", false)
  | 12 => ("SixDewModel", "at", "I", false)
  | 13 => ("SixDewModel", "span", "I", false)
  | 14 => ("SixDewModel", "number", "I", false)
  | 15 => ("SixDewModel", "fault", "I", false)
  | 16 => ("SixDewModel", "faultAt", "I", false)
  | 17 => ("SixDewModel", "word", "J", false)
  | 18 => ("SixDewModel", "tail", "J", false)
  | 19 => ("SixDewModel", "got", "I", false)
  | 20 => ("SixDewModel", "lines", "I", false)
  | 21 => ("SixDewModel", "coming", "I", false)
  | 22 => ("SixDewModel", "hasWater", "Z", false)
  | 23 => ("SixDewModel", "cloud", "[I", true)
  | 24 => ("SixDewModel", "wind", "[I", true)
  | 25 => ("SixDewModel", "air", "[I", true)
  | 26 => ("SixDewModel", "line", "[I", true)
  | 27 => ("SixDewModel", "sun", "[I", true)
  | 28 => ("SixDewModel", "warmth", "[I", true)
  | 29 => ("SixDewModel", "water", "[I", true)
  | 30 => ("SixDewModel", "bare", "[I", true)
  | 31 => ("SixDewModel", "kindOf", "[I", true)
  | 32 => ("SixDewModel", "stock", "I", false)
  | 33 => ("SixDewModel", "given", "I", false)
  | 34 => ("SixDewModel", "story", "I", false)
  | 35 => ("SixDewModel", "covers", "I", false)
  | 36 => ("SixDewModel", "coverFrom", "I", false)
  | 37 => ("SixDewModel", "coverTill", "I", false)
  | 38 => ("SixDewModel", "runDone", "I", false)
  | 39 => ("SixDewModel", "runCovered", "[I", true)
  | 40 => ("SixDewModel", "wentAt", "[I", true)
  | 41 => ("SixDewModel", "hasGone", "Z", false)
  | 42 => ("SixDewModel", "times", "[I", true)
  | 43 => ("SixDewModel", "spells", "[I", true)
  | 44 => ("SixDewModel", "spellMost", "[I", true)
  | 45 => ("SixDewModel", "far", "[I", true)
  | 46 => ("SixDewModel", "waterKept", "[I", true)
  | 47 => ("SixDewModel", "cameAt", "[I", true)
  | 48 => ("SixDewModel", "hasCame", "Z", false)
  | 49 => ("SixDewModel", "triedCell", "[I", true)
  | 50 => ("SixDewModel", "parts", "[I", true)
  | 51 => ("SixDewModel", "told", "[I", true)
  | 52 => ("SixDewModel", "seed", "I", false)
  | 53 => ("SixDewModel", "drawnAt", "[I", true)
  | 54 => ("SixDewModel", "hasDrawn", "Z", false)
  | 55 => ("SixDewModel", "kept", "[I", true)
  | _ => ("SixDewModel", "isKept", "[Z", true)
def tyX12 : Nat → FieldType := fun k => match k with
  | 0 => .int
  | 1 => .array .byte
  | 2 => .int
  | 3 => .int
  | 4 => .int
  | 5 => .int
  | 6 => .array .int
  | 7 => .array .int
  | 8 => .array .int
  | 9 => .array .long
  | 10 => .array .long
  | 11 => .int
  | 12 => .int
  | 13 => .int
  | 14 => .int
  | 15 => .int
  | 16 => .int
  | 17 => .long
  | 18 => .long
  | 19 => .int
  | 20 => .int
  | 21 => .int
  | 22 => .boolean
  | 23 => .array .int
  | 24 => .array .int
  | 25 => .array .int
  | 26 => .array .int
  | 27 => .array .int
  | 28 => .array .int
  | 29 => .array .int
  | 30 => .array .int
  | 31 => .array .int
  | 32 => .int
  | 33 => .int
  | 34 => .int
  | 35 => .int
  | 36 => .int
  | 37 => .int
  | 38 => .int
  | 39 => .array .int
  | 40 => .array .int
  | 41 => .boolean
  | 42 => .array .int
  | 43 => .array .int
  | 44 => .array .int
  | 45 => .array .int
  | 46 => .array .int
  | 47 => .array .int
  | 48 => .boolean
  | 49 => .array .int
  | 50 => .array .int
  | 51 => .array .int
  | 52 => .int
  | 53 => .array .int
  | 54 => .boolean
  | 55 => .array .int
  | _ => .array .boolean
abbrev wsX120 : List Cond := u_ws RX12 TX12 57
theorem nmX12 : ∀ a, a < 57 → ∀ b, b < 57 → a ≠ b → (TX12 a).2.1 ≠ (TX12 b).2.1 := by decide +kernel
theorem tyX12_ok : ∀ k, k < 57 → parseFieldDescriptor (TX12 k).2.2.1 = some (tyX12 k) := by decide +kernel
abbrev cX12_throwsIf : ByteArray := prog_14_method_2_code
def yX12_throwsIf : MethodName := ⟨RX12, "throwsIf", "(Z)Z"⟩
abbrev cX12_feed : ByteArray := prog_14_method_3_code
def yX12_feed : MethodName := ⟨RX12, "feed", "(IIIII)I"⟩
abbrev cX12_four : ByteArray := prog_14_method_4_code
def yX12_four : MethodName := ⟨RX12, "four", "(I)V"⟩
abbrev cX12_end : ByteArray := prog_14_method_5_code
def yX12_end : MethodName := ⟨RX12, "end", "(I)Z"⟩
abbrev cX12_taken : ByteArray := prog_14_method_6_code
def yX12_taken : MethodName := ⟨RX12, "taken", "(I)V"⟩
abbrev cX12_isIn : ByteArray := prog_14_method_7_code
def yX12_isIn : MethodName := ⟨RX12, "isIn", "(III)Z"⟩
abbrev cX12_has : ByteArray := prog_14_method_8_code
def yX12_has : MethodName := ⟨RX12, "has", "(II)Z"⟩
abbrev cX12_octet : ByteArray := prog_14_method_9_code
def yX12_octet : MethodName := ⟨RX12, "octet", "(I)I"⟩
abbrev cX12_init : ByteArray := prog_14_method_10_code
def yX12_init : MethodName := ⟨RX12, "<init>", "()V"⟩
abbrev cX12_peek : ByteArray := prog_14_method_11_code
def yX12_peek : MethodName := ⟨RX12, "peek", "()I"⟩
abbrev cX12_isSmall : ByteArray := prog_14_method_12_code
def yX12_isSmall : MethodName := ⟨RX12, "isSmall", "(I)Z"⟩
abbrev cX12_isDigit : ByteArray := prog_14_method_13_code
def yX12_isDigit : MethodName := ⟨RX12, "isDigit", "(I)Z"⟩
abbrev cX12_next : ByteArray := prog_14_method_14_code
def yX12_next : MethodName := ⟨RX12, "next", "()V"⟩
abbrev cX12_bad : ByteArray := prog_14_method_15_code
def yX12_bad : MethodName := ⟨RX12, "bad", "(I)Z"⟩
abbrev cX12_isWord : ByteArray := prog_14_method_16_code
def yX12_isWord : MethodName := ⟨RX12, "isWord", "(J)Z"⟩
abbrev cX12_isSign : ByteArray := prog_14_method_17_code
def yX12_isSign : MethodName := ⟨RX12, "isSign", "(I)Z"⟩
abbrev cX12_sign : ByteArray := prog_14_method_18_code
def yX12_sign : MethodName := ⟨RX12, "sign", "(I)Z"⟩
abbrev cX12_isName : ByteArray := prog_14_method_19_code
def yX12_isName : MethodName := ⟨RX12, "isName", "()Z"⟩
abbrev cX12_takes : ByteArray := prog_14_method_20_code
def yX12_takes : MethodName := ⟨RX12, "takes", "(II)Z"⟩
abbrev cX12_groundLine : ByteArray := prog_14_method_21_code
def yX12_groundLine : MethodName := ⟨RX12, "groundLine", "()Z"⟩
abbrev cX12_readKind : ByteArray := prog_14_method_22_code
def yX12_readKind : MethodName := ⟨RX12, "readKind", "()Z"⟩
abbrev cX12_readRow : ByteArray := prog_14_method_23_code
def yX12_readRow : MethodName := ⟨RX12, "readRow", "()Z"⟩
abbrev cX12_ground : ByteArray := prog_14_method_24_code
def yX12_ground : MethodName := ⟨RX12, "ground", "()I"⟩
abbrev cX12_fault : ByteArray := prog_14_method_25_code
def yX12_fault : MethodName := ⟨RX12, "fault", "()I"⟩
abbrev cX12_cells : ByteArray := prog_14_method_26_code
def yX12_cells : MethodName := ⟨RX12, "cells", "()I"⟩
abbrev cX12_isCell : ByteArray := prog_14_method_27_code
def yX12_isCell : MethodName := ⟨RX12, "isCell", "(II)Z"⟩
abbrev cX12_numberOf : ByteArray := prog_14_method_28_code
def yX12_numberOf : MethodName := ⟨RX12, "numberOf", "(II)I"⟩
abbrev cX12_skyOf : ByteArray := prog_14_method_29_code
def yX12_skyOf : MethodName := ⟨RX12, "skyOf", "(I)I"⟩
abbrev cX12_cell : ByteArray := prog_14_method_30_code
def yX12_cell : MethodName := ⟨RX12, "cell", "(III)I"⟩
abbrev cX12_nightLine : ByteArray := prog_14_method_31_code
def yX12_nightLine : MethodName := ⟨RX12, "nightLine", "()Z"⟩
abbrev cX12_night : ByteArray := prog_14_method_32_code
def yX12_night : MethodName := ⟨RX12, "night", "(I)I"⟩
abbrev cX12_isNight : ByteArray := prog_14_method_33_code
def yX12_isNight : MethodName := ⟨RX12, "isNight", "(I)Z"⟩
abbrev cX12_nightAt : ByteArray := prog_14_method_34_code
def yX12_nightAt : MethodName := ⟨RX12, "nightAt", "(I)I"⟩
abbrev cX12_sees : ByteArray := prog_14_method_35_code
def yX12_sees : MethodName := ⟨RX12, "sees", "(I)V"⟩
abbrev cX12_sky : ByteArray := prog_14_method_36_code
def yX12_sky : MethodName := ⟨RX12, "sky", "(III)I"⟩
abbrev cX12_start : ByteArray := prog_14_method_37_code
def yX12_start : MethodName := ⟨RX12, "start", "(II)V"⟩
abbrev cX12_step : ByteArray := prog_14_method_38_code
def yX12_step : MethodName := ⟨RX12, "step", "(I)V"⟩
abbrev cX12_wets : ByteArray := prog_14_method_39_code
def yX12_wets : MethodName := ⟨RX12, "wets", "(IIII)V"⟩
abbrev cX12_through : ByteArray := prog_14_method_40_code
def yX12_through : MethodName := ⟨RX12, "through", "(III)V"⟩
abbrev cX12_isStep : ByteArray := prog_14_method_41_code
def yX12_isStep : MethodName := ⟨RX12, "isStep", "(I)Z"⟩
abbrev cX12_begin : ByteArray := prog_14_method_42_code
def yX12_begin : MethodName := ⟨RX12, "begin", "(I)Z"⟩
abbrev cX12_loads : ByteArray := prog_14_method_43_code
def yX12_loads : MethodName := ⟨RX12, "loads", "()V"⟩
abbrev cX12_keeps : ByteArray := prog_14_method_44_code
def yX12_keeps : MethodName := ⟨RX12, "keeps", "()V"⟩
abbrev cX12_on : ByteArray := prog_14_method_45_code
def yX12_on : MethodName := ⟨RX12, "on", "(I)I"⟩
abbrev cX12_is : ByteArray := prog_14_method_46_code
def yX12_is : MethodName := ⟨RX12, "is", "(III)I"⟩
abbrev cX12_now : ByteArray := prog_14_method_47_code
def yX12_now : MethodName := ⟨RX12, "now", "(I)I"⟩
abbrev cX12_planLine : ByteArray := prog_14_method_48_code
def yX12_planLine : MethodName := ⟨RX12, "planLine", "()Z"⟩
abbrev cX12_plan : ByteArray := prog_14_method_49_code
def yX12_plan : MethodName := ⟨RX12, "plan", "()I"⟩
abbrev cX12_does : ByteArray := prog_14_method_50_code
def yX12_does : MethodName := ⟨RX12, "does", "(II)I"⟩
abbrev cX12_go : ByteArray := prog_14_method_51_code
def yX12_go : MethodName := ⟨RX12, "go", "(I)I"⟩
abbrev cX12_went : ByteArray := prog_14_method_52_code
def yX12_went : MethodName := ⟨RX12, "went", "(I)I"⟩
abbrev cX12_much : ByteArray := prog_14_method_53_code
def yX12_much : MethodName := ⟨RX12, "much", "(IIII)I"⟩
abbrev cX12_where : ByteArray := prog_14_method_54_code
def yX12_where : MethodName := ⟨RX12, "where", "(III)I"⟩
abbrev cX12_timesOf : ByteArray := prog_14_method_55_code
def yX12_timesOf : MethodName := ⟨RX12, "timesOf", "(III)V"⟩
abbrev cX12_asks : ByteArray := prog_14_method_56_code
def yX12_asks : MethodName := ⟨RX12, "asks", "(III)Z"⟩
abbrev cX12_begins : ByteArray := prog_14_method_57_code
def yX12_begins : MethodName := ⟨RX12, "begins", "(III)I"⟩
abbrev cX12_gone : ByteArray := prog_14_method_58_code
def yX12_gone : MethodName := ⟨RX12, "gone", "(III)I"⟩
abbrev cX12_wet : ByteArray := prog_14_method_59_code
def yX12_wet : MethodName := ⟨RX12, "wet", "(III)I"⟩
abbrev cX12_spell : ByteArray := prog_14_method_60_code
def yX12_spell : MethodName := ⟨RX12, "spell", "(III)I"⟩
abbrev cX12_sick : ByteArray := prog_14_method_61_code
def yX12_sick : MethodName := ⟨RX12, "sick", "(II)I"⟩
abbrev cX12_frost : ByteArray := prog_14_method_62_code
def yX12_frost : MethodName := ⟨RX12, "frost", "(III)I"⟩
abbrev cX12_beside : ByteArray := prog_14_method_63_code
def yX12_beside : MethodName := ⟨RX12, "beside", "(II)I"⟩
abbrev cX12_slugs : ByteArray := prog_14_method_64_code
def yX12_slugs : MethodName := ⟨RX12, "slugs", "(IIII)I"⟩
abbrev cX12_walk : ByteArray := prog_14_method_65_code
def yX12_walk : MethodName := ⟨RX12, "walk", "(IIII)I"⟩
abbrev cX12_unlike : ByteArray := prog_14_method_66_code
def yX12_unlike : MethodName := ⟨RX12, "unlike", "(II)I"⟩
abbrev cX12_isDry : ByteArray := prog_14_method_67_code
def yX12_isDry : MethodName := ⟨RX12, "isDry", "(III)Z"⟩
abbrev cX12_bench : ByteArray := prog_14_method_68_code
def yX12_bench : MethodName := ⟨RX12, "bench", "(II)I"⟩
abbrev cX12_roof : ByteArray := prog_14_method_69_code
def yX12_roof : MethodName := ⟨RX12, "roof", "(III)I"⟩
abbrev cX12_takesLawn : ByteArray := prog_14_method_70_code
def yX12_takesLawn : MethodName := ⟨RX12, "takesLawn", "()Z"⟩
abbrev cX12_isLawn : ByteArray := prog_14_method_71_code
def yX12_isLawn : MethodName := ⟨RX12, "isLawn", "()Z"⟩
abbrev cX12_lawn : ByteArray := prog_14_method_72_code
def yX12_lawn : MethodName := ⟨RX12, "lawn", "()I"⟩
abbrev cX12_clouds : ByteArray := prog_14_method_73_code
def yX12_clouds : MethodName := ⟨RX12, "clouds", "(I)V"⟩
abbrev cX12_clouded : ByteArray := prog_14_method_74_code
def yX12_clouded : MethodName := ⟨RX12, "clouded", "(I)I"⟩
abbrev cX12_came : ByteArray := prog_14_method_75_code
def yX12_came : MethodName := ⟨RX12, "came", "(IIII)I"⟩
abbrev cX12_cameAt : ByteArray := prog_14_method_76_code
def yX12_cameAt : MethodName := ⟨RX12, "cameAt", "(I)I"⟩
abbrev cX12_driest : ByteArray := prog_14_method_77_code
def yX12_driest : MethodName := ⟨RX12, "driest", "(II)I"⟩
abbrev cX12_catcher : ByteArray := prog_14_method_78_code
def yX12_catcher : MethodName := ⟨RX12, "catcher", "(III)I"⟩
abbrev cX12_story : ByteArray := prog_14_method_79_code
def yX12_story : MethodName := ⟨RX12, "story", "(IIIII)I"⟩
abbrev cX12_part : ByteArray := prog_14_method_80_code
def yX12_part : MethodName := ⟨RX12, "part", "(IIIII)I"⟩
abbrev cX12_tries : ByteArray := prog_14_method_81_code
def yX12_tries : MethodName := ⟨RX12, "tries", "(II)I"⟩
abbrev cX12_hay : ByteArray := prog_14_method_82_code
def yX12_hay : MethodName := ⟨RX12, "hay", "(II)I"⟩
abbrev cX12_draw : ByteArray := prog_14_method_83_code
def yX12_draw : MethodName := ⟨RX12, "draw", "(I)I"⟩
abbrev cX12_drawn : ByteArray := prog_14_method_84_code
def yX12_drawn : MethodName := ⟨RX12, "drawn", "(IIIII)I"⟩
abbrev cX12_drawnBy : ByteArray := prog_14_method_85_code
def yX12_drawnBy : MethodName := ⟨RX12, "drawnBy", "(I)I"⟩
abbrev cX12_image : ByteArray := prog_14_method_86_code
def yX12_image : MethodName := ⟨RX12, "image", "(I)Z"⟩
abbrev cX12_restore : ByteArray := prog_14_method_87_code
def yX12_restore : MethodName := ⟨RX12, "restore", "(I)Z"⟩
abbrev cX12_count : ByteArray := prog_14_method_88_code
def yX12_count : MethodName := ⟨RX12, "count", "(I)I"⟩
def RJx145de : String := "java/io/Serializable"
def TJx145de : u_T := fun k => match k with
  | _ => ("", "", "", false)
def tyJx145de : Nat → FieldType := fun k => match k with
  | _ => .int
abbrev wsJx145de0 : List Cond := u_ws RJx145de TJx145de 0
theorem nmJx145de : ∀ a, a < 0 → ∀ b, b < 0 → a ≠ b → (TJx145de a).2.1 ≠ (TJx145de b).2.1 := by decide +kernel
theorem tyJx145de_ok : ∀ k, k < 0 → parseFieldDescriptor (TJx145de k).2.2.1 = some (tyJx145de k) := by decide +kernel
def RJx9f9b0 : String := "java/lang/CharSequence"
def TJx9f9b0 : u_T := fun k => match k with
  | _ => ("", "", "", false)
def tyJx9f9b0 : Nat → FieldType := fun k => match k with
  | _ => .int
abbrev wsJx9f9b00 : List Cond := u_ws RJx9f9b0 TJx9f9b0 0
theorem nmJx9f9b0 : ∀ a, a < 0 → ∀ b, b < 0 → a ≠ b → (TJx9f9b0 a).2.1 ≠ (TJx9f9b0 b).2.1 := by decide +kernel
theorem tyJx9f9b0_ok : ∀ k, k < 0 → parseFieldDescriptor (TJx9f9b0 k).2.2.1 = some (tyJx9f9b0 k) := by decide +kernel
def RJxb160c : String := "java/lang/Comparable"
def TJxb160c : u_T := fun k => match k with
  | _ => ("", "", "", false)
def tyJxb160c : Nat → FieldType := fun k => match k with
  | _ => .int
abbrev wsJxb160c0 : List Cond := u_ws RJxb160c TJxb160c 0
theorem nmJxb160c : ∀ a, a < 0 → ∀ b, b < 0 → a ≠ b → (TJxb160c a).2.1 ≠ (TJxb160c b).2.1 := by decide +kernel
theorem tyJxb160c_ok : ∀ k, k < 0 → parseFieldDescriptor (TJxb160c k).2.2.1 = some (tyJxb160c k) := by decide +kernel
def RJ6 : String := "java/lang/Integer"
def TJ6 : u_T := fun k => match k with
  | _ => ("", "", "", false)
def tyJ6 : Nat → FieldType := fun k => match k with
  | _ => .int
abbrev wsJ60 : List Cond := u_ws RJ6 TJ6 0
theorem nmJ6 : ∀ a, a < 0 → ∀ b, b < 0 → a ≠ b → (TJ6 a).2.1 ≠ (TJ6 b).2.1 := by decide +kernel
theorem tyJ6_ok : ∀ k, k < 0 → parseFieldDescriptor (TJ6 k).2.2.1 = some (tyJ6 k) := by decide +kernel
abbrev cJ6_bitCount_0f7a4 : ByteArray := prog_19_method_49_code
def yJ6_bitCount_0f7a4 : MethodName := ⟨RJ6, "bitCount", "(I)I"⟩
def RJ9 : String := "java/lang/Math"
def TJ9 : u_T := fun k => match k with
  | _ => ("", "", "", false)
def tyJ9 : Nat → FieldType := fun k => match k with
  | _ => .int
abbrev wsJ90 : List Cond := u_ws RJ9 TJ9 0
theorem nmJ9 : ∀ a, a < 0 → ∀ b, b < 0 → a ≠ b → (TJ9 a).2.1 ≠ (TJ9 b).2.1 := by decide +kernel
theorem tyJ9_ok : ∀ k, k < 0 → parseFieldDescriptor (TJ9 k).2.2.1 = some (tyJ9 k) := by decide +kernel
abbrev cJ9_abs_0f7a4 : ByteArray := prog_20_method_59_code
def yJ9_abs_0f7a4 : MethodName := ⟨RJ9, "abs", "(I)I"⟩
abbrev cJ9_max_7cf53 : ByteArray := prog_20_method_65_code
def yJ9_max_7cf53 : MethodName := ⟨RJ9, "max", "(II)I"⟩
abbrev cJ9_min_7cf53 : ByteArray := prog_20_method_69_code
def yJ9_min_7cf53 : MethodName := ⟨RJ9, "min", "(II)I"⟩
def RJ0 : String := "java/lang/String"
def TJ0 : u_T := fun k => match k with
  | _ => ("", "", "", false)
def tyJ0 : Nat → FieldType := fun k => match k with
  | _ => .int
abbrev wsJ00 : List Cond := u_ws RJ0 TJ0 0
theorem nmJ0 : ∀ a, a < 0 → ∀ b, b < 0 → a ≠ b → (TJ0 a).2.1 ≠ (TJ0 b).2.1 := by decide +kernel
theorem tyJ0_ok : ∀ k, k < 0 → parseFieldDescriptor (TJ0 k).2.2.1 = some (tyJ0 k) := by decide +kernel
abbrev cJ0_length_8abf5 : ByteArray := prog_22_method_54_code
def yJ0_length_8abf5 : MethodName := ⟨RJ0, "length", "()I"⟩
abbrev cJ0_charAt_5068e : ByteArray := prog_22_method_56_code
def yJ0_charAt_5068e : MethodName := ⟨RJ0, "charAt", "(I)C"⟩
abbrev cJ0_coder_7d493 : ByteArray := prog_22_method_152_code
def yJ0_coder_7d493 : MethodName := ⟨RJ0, "coder", "()B"⟩
abbrev cJ0_isLatin1_aae02 : ByteArray := prog_22_method_154_code
def yJ0_isLatin1_aae02 : MethodName := ⟨RJ0, "isLatin1", "()Z"⟩
abbrev cJ0_checkIndex_df160 : ByteArray := prog_22_method_155_code
def yJ0_checkIndex_df160 : MethodName := ⟨RJ0, "checkIndex", "(II)V"⟩
def RJ1 : String := "java/lang/StringLatin1"
def TJ1 : u_T := fun k => match k with
  | _ => ("", "", "", false)
def tyJ1 : Nat → FieldType := fun k => match k with
  | _ => .int
abbrev wsJ10 : List Cond := u_ws RJ1 TJ1 0
theorem nmJ1 : ∀ a, a < 0 → ∀ b, b < 0 → a ≠ b → (TJ1 a).2.1 ≠ (TJ1 b).2.1 := by decide +kernel
theorem tyJ1_ok : ∀ k, k < 0 → parseFieldDescriptor (TJ1 k).2.2.1 = some (tyJ1 k) := by decide +kernel
abbrev cJ1_charAt_3b067 : ByteArray := prog_23_method_2_code
def yJ1_charAt_3b067 : MethodName := ⟨RJ1, "charAt", "([BI)C"⟩
def RJ2 : String := "java/lang/StringUTF16"
def TJ2 : u_T := fun k => match k with
  | _ => ("", "", "", false)
def tyJ2 : Nat → FieldType := fun k => match k with
  | _ => .int
abbrev wsJ20 : List Cond := u_ws RJ2 TJ2 0
theorem nmJ2 : ∀ a, a < 0 → ∀ b, b < 0 → a ≠ b → (TJ2 a).2.1 ≠ (TJ2 b).2.1 := by decide +kernel
theorem tyJ2_ok : ∀ k, k < 0 → parseFieldDescriptor (TJ2 k).2.2.1 = some (tyJ2 k) := by decide +kernel
abbrev cJ2_getChar_3b067 : ByteArray := prog_24_method_5_code
def yJ2_getChar_3b067 : MethodName := ⟨RJ2, "getChar", "([BI)C"⟩
abbrev cJ2_length_9d52b : ByteArray := prog_24_method_6_code
def yJ2_length_9d52b : MethodName := ⟨RJ2, "length", "([B)I"⟩
abbrev cJ2_charAt_3b067 : ByteArray := prog_24_method_83_code
def yJ2_charAt_3b067 : MethodName := ⟨RJ2, "charAt", "([BI)C"⟩
abbrev cJ2_checkIndex_2214a : ByteArray := prog_24_method_91_code
def yJ2_checkIndex_2214a : MethodName := ⟨RJ2, "checkIndex", "(I[B)V"⟩
def RJ10 : String := "java/lang/System"
def TJ10 : u_T := fun k => match k with
  | _ => ("", "", "", false)
def tyJ10 : Nat → FieldType := fun k => match k with
  | _ => .int
abbrev wsJ100 : List Cond := u_ws RJ10 TJ10 0
theorem nmJ10 : ∀ a, a < 0 → ∀ b, b < 0 → a ≠ b → (TJ10 a).2.1 ≠ (TJ10 b).2.1 := by decide +kernel
theorem tyJ10_ok : ∀ k, k < 0 → parseFieldDescriptor (TJ10 k).2.2.1 = some (tyJ10 k) := by decide +kernel
def RJxfd54e : String := "java/lang/constant/Constable"
def TJxfd54e : u_T := fun k => match k with
  | _ => ("", "", "", false)
def tyJxfd54e : Nat → FieldType := fun k => match k with
  | _ => .int
abbrev wsJxfd54e0 : List Cond := u_ws RJxfd54e TJxfd54e 0
theorem nmJxfd54e : ∀ a, a < 0 → ∀ b, b < 0 → a ≠ b → (TJxfd54e a).2.1 ≠ (TJxfd54e b).2.1 := by decide +kernel
theorem tyJxfd54e_ok : ∀ k, k < 0 → parseFieldDescriptor (TJxfd54e k).2.2.1 = some (tyJxfd54e k) := by decide +kernel
def RJx3cf43 : String := "java/lang/constant/ConstantDesc"
def TJx3cf43 : u_T := fun k => match k with
  | _ => ("", "", "", false)
def tyJx3cf43 : Nat → FieldType := fun k => match k with
  | _ => .int
abbrev wsJx3cf430 : List Cond := u_ws RJx3cf43 TJx3cf43 0
theorem nmJx3cf43 : ∀ a, a < 0 → ∀ b, b < 0 → a ≠ b → (TJx3cf43 a).2.1 ≠ (TJx3cf43 b).2.1 := by decide +kernel
theorem tyJx3cf43_ok : ∀ k, k < 0 → parseFieldDescriptor (TJx3cf43 k).2.2.1 = some (tyJx3cf43 k) := by decide +kernel
def RJ3 : String := "jdk/internal/util/Preconditions"
def TJ3 : u_T := fun k => match k with
  | _ => ("", "", "", false)
def tyJ3 : Nat → FieldType := fun k => match k with
  | _ => .int
abbrev wsJ30 : List Cond := u_ws RJ3 TJ3 0
theorem nmJ3 : ∀ a, a < 0 → ∀ b, b < 0 → a ≠ b → (TJ3 a).2.1 ≠ (TJ3 b).2.1 := by decide +kernel
theorem tyJ3_ok : ∀ k, k < 0 → parseFieldDescriptor (TJ3 k).2.2.1 = some (tyJ3 k) := by decide +kernel
abbrev cJ3_checkIndex_8e157 : ByteArray := prog_30_method_11_code
def yJ3_checkIndex_8e157 : MethodName := ⟨RJ3, "checkIndex", "(IILjava/util/function/BiFunction;)I"⟩
def RL : String := "SixDewLaw"
abbrev cL_cell : ByteArray := method_3_code
def yL_cell : MethodName := ⟨RL, "cell", "(LSixDew;III[J)I"⟩
abbrev cL_is : ByteArray := method_4_code
def yL_is : MethodName := ⟨RL, "is", "(LSixDew;III[J)I"⟩
abbrev cL_law : ByteArray := code
def yL_law : MethodName := ⟨RL, "law", "([I)Z"⟩

def dw_cl : List vw_C := [(RX0, TX0, 10), (RX1, TX1, 5), (RX2, TX2, 2), (RX3, TX3, 2), (RX4, TX4, 1), (RX5, TX5, 2), (RX6, TX6, 1), (RX7, TX7, 15), (RX8, TX8, 5), (RX9, TX9, 9), (RX10, TX10, 6), (RX11, TX11, 18), (RX12, TX12, 57)]

def dw_cy (ci j : Nat) : FieldType := match ci with
  | 0 => tyX0 j
  | 1 => tyX1 j
  | 2 => tyX2 j
  | 3 => tyX3 j
  | 4 => tyX4 j
  | 5 => tyX5 j
  | 6 => tyX6 j
  | 7 => tyX7 j
  | 8 => tyX8 j
  | 9 => tyX9 j
  | 10 => tyX10 j
  | 11 => tyX11 j
  | 12 => tyX12 j
  | _ => .int

def dw_nests : List (String × Nat × MethodName × String) := [("SixDew", 9, ({ cls := "SixDew$Tape", name := "<init>", desc := "()V" } : MethodName), "SixDew"), ("SixDew$State", 11, ({ cls := "SixDew$Ground", name := "<init>", desc := "()V" } : MethodName), "SixDew"), ("SixDew$State", 26, ({ cls := "SixDew$Plan", name := "<init>", desc := "()V" } : MethodName), "SixDew"), ("SixDew$State", 33, ({ cls := "SixDew$Run", name := "<init>", desc := "()V" } : MethodName), "SixDew"), ("SixDew$Run", 11, ({ cls := "SixDew$Night", name := "<init>", desc := "()V" } : MethodName), "SixDew"), ("SixDew$State", 38, ({ cls := "SixDew$Night", name := "<init>", desc := "()V" } : MethodName), "SixDew"), ("SixDew", 29, ({ cls := "SixDew$GroundReader", name := "<init>", desc := "()V" } : MethodName), "SixDew"), ("SixDew$GroundReader", 11, ({ cls := "SixDew$Ground", name := "<init>", desc := "()V" } : MethodName), "SixDew"), ("SixDew", 36, ({ cls := "SixDew$NightReader", name := "<init>", desc := "()V" } : MethodName), "SixDew"), ("SixDew$NightReader", 11, ({ cls := "SixDew$Night", name := "<init>", desc := "()V" } : MethodName), "SixDew"), ("SixDew", 43, ({ cls := "SixDew$PlanReader", name := "<init>", desc := "()V" } : MethodName), "SixDew"), ("SixDew$PlanReader", 11, ({ cls := "SixDew$Plan", name := "<init>", desc := "()V" } : MethodName), "SixDew"), ("SixDew", 50, ({ cls := "SixDew$Run", name := "<init>", desc := "()V" } : MethodName), "SixDew"), ("SixDew", 60, ({ cls := "SixDew$Watch", name := "<init>", desc := "()V" } : MethodName), "SixDew"), ("SixDew", 67, ({ cls := "SixDew$Paths", name := "<init>", desc := "()V" } : MethodName), "SixDew"), ("SixDew$Night", 16, ({ cls := "SixDew", name := "isStep", desc := "(I)Z" } : MethodName), "SixDew"), ("SixDew$Run", 116, ({ cls := "SixDew", name := "isStep", desc := "(I)Z" } : MethodName), "SixDew")]

def dw_strs : List (String × Nat × String × Nat × List Int32) := [("SixDew$GroundReader", 57, "kind", 0, [107, 105, 110, 100]),
  ("SixDew$Tape", 60, "kind", 1, [107, 105, 110, 100]),
  ("SixDew$Tape", 66, "gives", 2, [103, 105, 118, 101, 115]),
  ("SixDew$Tape", 68, "row", 3, [114, 111, 119]),
  ("SixDew$Tape", 70, "shade", 4, [115, 104, 97, 100, 101]),
  ("SixDew$Tape", 72, "water", 5, [119, 97, 116, 101, 114]),
  ("SixDew$Tape", 74, "cloud", 6, [99, 108, 111, 117, 100]),
  ("SixDew$Tape", 76, "wind", 7, [119, 105, 110, 100]),
  ("SixDew$Tape", 78, "air", 8, [97, 105, 114]),
  ("SixDew$Tape", 80, "sun", 9, [115, 117, 110]),
  ("SixDew$Tape", 82, "on", 10, [111, 110]),
  ("SixDew$Tape", 84, "wipe", 11, [119, 105, 112, 101]),
  ("SixDew$Tape", 86, "cover", 12, [99, 111, 118, 101, 114]),
  ("SixDew$Tape", 88, "bare", 13, [98, 97, 114, 101]),
  ("SixDew$GroundReader", 114, "gives", 14, [103, 105, 118, 101, 115]),
  ("SixDew$GroundReader", 66, "row", 15, [114, 111, 119]),
  ("SixDew$GroundReader", 71, "shade", 16, [115, 104, 97, 100, 101]),
  ("SixDew$GroundReader", 75, "water", 17, [119, 97, 116, 101, 114]),
  ("SixDew$NightReader", 72, "cloud", 18, [99, 108, 111, 117, 100]),
  ("SixDew$NightReader", 78, "wind", 19, [119, 105, 110, 100]),
  ("SixDew$NightReader", 80, "air", 20, [97, 105, 114]),
  ("SixDew$NightReader", 82, "sun", 21, [115, 117, 110]),
  ("SixDew$PlanReader", 69, "on", 22, [111, 110]),
  ("SixDew$PlanReader", 75, "wipe", 23, [119, 105, 112, 101]),
  ("SixDew$PlanReader", 77, "cover", 24, [99, 111, 118, 101, 114]),
  ("SixDew$PlanReader", 79, "bare", 25, [98, 97, 114, 101]),
  ("SixDew", 130, "no such cell, or another what", 26, [110, 111, 32, 115, 117, 99, 104, 32, 99, 101, 108, 108, 44, 32, 111, 114, 32, 97, 110, 111, 116, 104, 101, 114, 32, 119, 104, 97, 116]),
  ("SixDew", 177, "no such cell, another what, or no run", 27, [110, 111, 32, 115, 117, 99, 104, 32, 99, 101, 108, 108, 44, 32, 97, 110, 111, 116, 104, 101, 114, 32, 119, 104, 97, 116, 44, 32, 111, 114, 32, 110, 111, 32, 114, 117, 110])]

def dw_Tb : List Cond := lw_tbl.filter goodWord
theorem dw_mem (i : Nat) {w : Cond} (h : (decide (lw_tbl[i]? = some w) && goodWord w) = true) : w ∈ dw_Tb := by
  rw [Bool.and_eq_true, decide_eq_true_eq] at h
  exact List.mem_filter.mpr ⟨List.mem_of_getElem? h.1, h.2⟩
