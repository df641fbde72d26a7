section
-- ===== PART A: goes FIRST, ahead of the names: the tables' words, and 'selects' of the private methods out of them =====
/-- a private method of a class that the tables say can be made, by its rows of tables_1 -/
def lw_okq (q : MethodName × Nat) : Prop := (q.1.cls ≠ "java/lang/invoke/MethodHandle" ∧ q.1.cls ≠ "java/lang/invoke/VarHandle") ∧ Cond.instantiable q.1.cls q.2 ∈ tables_1 ∧ Cond.privateMethod q.1 ∈ tables_1 ∧ Cond.instanceMethod q.1 ∈ tables_1
theorem lw_p0 : lw_okq (⟨"BreathingHill$LandReader", "readLine", "(LBreathingHill$Tape;LBreathingHill$Hill;)Z"⟩, 3) := ⟨⟨by decide +kernel, by decide +kernel⟩, List.mem_of_getElem? (i := 77) (by decide +kernel), List.mem_of_getElem? (i := 490) (by decide +kernel), List.mem_of_getElem? (i := 491) (by decide +kernel)⟩
theorem lw_p1 : lw_okq (⟨"BreathingHill$LandReader", "readPassage", "(LBreathingHill$Tape;LBreathingHill$Land;)Z"⟩, 3) := ⟨⟨by decide +kernel, by decide +kernel⟩, List.mem_of_getElem? (i := 77) (by decide +kernel), List.mem_of_getElem? (i := 496) (by decide +kernel), List.mem_of_getElem? (i := 497) (by decide +kernel)⟩
theorem lw_p2 : lw_okq (⟨"BreathingHill$LandReader", "readThing", "(LBreathingHill$Tape;LBreathingHill$Hill;)Z"⟩, 3) := ⟨⟨by decide +kernel, by decide +kernel⟩, List.mem_of_getElem? (i := 77) (by decide +kernel), List.mem_of_getElem? (i := 512) (by decide +kernel), List.mem_of_getElem? (i := 513) (by decide +kernel)⟩
theorem lw_p3 : lw_okq (⟨"BreathingHill$LandReader", "readNameAndCell", "(LBreathingHill$Tape;LBreathingHill$Hill;)Z"⟩, 3) := ⟨⟨by decide +kernel, by decide +kernel⟩, List.mem_of_getElem? (i := 77) (by decide +kernel), List.mem_of_getElem? (i := 516) (by decide +kernel), List.mem_of_getElem? (i := 517) (by decide +kernel)⟩
theorem lw_p4 : lw_okq (⟨"BreathingHill$LandReader", "readMill", "(LBreathingHill$Tape;LBreathingHill$Hill;)Z"⟩, 3) := ⟨⟨by decide +kernel, by decide +kernel⟩, List.mem_of_getElem? (i := 77) (by decide +kernel), List.mem_of_getElem? (i := 549) (by decide +kernel), List.mem_of_getElem? (i := 550) (by decide +kernel)⟩
theorem lw_p5 : lw_okq (⟨"BreathingHill$LandReader", "readMan", "(LBreathingHill$Tape;LBreathingHill$Hill;)Z"⟩, 3) := ⟨⟨by decide +kernel, by decide +kernel⟩, List.mem_of_getElem? (i := 77) (by decide +kernel), List.mem_of_getElem? (i := 555) (by decide +kernel), List.mem_of_getElem? (i := 556) (by decide +kernel)⟩
theorem lw_p6 : lw_okq (⟨"BreathingHill$LandReader", "readLong", "(LBreathingHill$Tape;LBreathingHill$Hill;)Z"⟩, 3) := ⟨⟨by decide +kernel, by decide +kernel⟩, List.mem_of_getElem? (i := 77) (by decide +kernel), List.mem_of_getElem? (i := 561) (by decide +kernel), List.mem_of_getElem? (i := 562) (by decide +kernel)⟩
theorem lw_p7 : lw_okq (⟨"BreathingHill$LandReader", "beginOnce", "(LBreathingHill$Tape;)Z"⟩, 3) := ⟨⟨by decide +kernel, by decide +kernel⟩, List.mem_of_getElem? (i := 77) (by decide +kernel), List.mem_of_getElem? (i := 565) (by decide +kernel), List.mem_of_getElem? (i := 566) (by decide +kernel)⟩
theorem lw_p8 : lw_okq (⟨"BreathingHill$LandReader", "readBreath", "(LBreathingHill$Tape;LBreathingHill$Land;)Z"⟩, 3) := ⟨⟨by decide +kernel, by decide +kernel⟩, List.mem_of_getElem? (i := 77) (by decide +kernel), List.mem_of_getElem? (i := 571) (by decide +kernel), List.mem_of_getElem? (i := 572) (by decide +kernel)⟩
theorem lw_p9 : lw_okq (⟨"BreathingHill$LandReader", "readSetting", "(LBreathingHill$Tape;LBreathingHill$Land;)Z"⟩, 3) := ⟨⟨by decide +kernel, by decide +kernel⟩, List.mem_of_getElem? (i := 77) (by decide +kernel), List.mem_of_getElem? (i := 575) (by decide +kernel), List.mem_of_getElem? (i := 576) (by decide +kernel)⟩
theorem lw_p10 : lw_okq (⟨"BreathingHill$LandReader", "readForce", "(LBreathingHill$Tape;LBreathingHill$Land;)Z"⟩, 3) := ⟨⟨by decide +kernel, by decide +kernel⟩, List.mem_of_getElem? (i := 77) (by decide +kernel), List.mem_of_getElem? (i := 581) (by decide +kernel), List.mem_of_getElem? (i := 582) (by decide +kernel)⟩
theorem lw_p11 : lw_okq (⟨"BreathingHill$LandReader", "readFade", "(LBreathingHill$Tape;LBreathingHill$Land;)Z"⟩, 3) := ⟨⟨by decide +kernel, by decide +kernel⟩, List.mem_of_getElem? (i := 77) (by decide +kernel), List.mem_of_getElem? (i := 587) (by decide +kernel), List.mem_of_getElem? (i := 588) (by decide +kernel)⟩
theorem lw_p12 : lw_okq (⟨"BreathingHill$LandReader", "readHeld", "(LBreathingHill$Tape;LBreathingHill$Land;)Z"⟩, 3) := ⟨⟨by decide +kernel, by decide +kernel⟩, List.mem_of_getElem? (i := 77) (by decide +kernel), List.mem_of_getElem? (i := 593) (by decide +kernel), List.mem_of_getElem? (i := 594) (by decide +kernel)⟩
theorem lw_p13 : lw_okq (⟨"BreathingHill", "keptIfDone", "(I)I"⟩, 18) := ⟨⟨by decide +kernel, by decide +kernel⟩, List.mem_of_getElem? (i := 21) (by decide +kernel), List.mem_of_getElem? (i := 724) (by decide +kernel), List.mem_of_getElem? (i := 725) (by decide +kernel)⟩
theorem lw_p14 : lw_okq (⟨"BreathingHill", "keepPast", "(LBreathingHill$Hill;)V"⟩, 18) := ⟨⟨by decide +kernel, by decide +kernel⟩, List.mem_of_getElem? (i := 21) (by decide +kernel), List.mem_of_getElem? (i := 728) (by decide +kernel), List.mem_of_getElem? (i := 729) (by decide +kernel)⟩
theorem lw_p15 : lw_okq (⟨"BreathingHill$Man", "cellAfter", "(LBreathingHill$Land;III)I"⟩, 4) := ⟨⟨by decide +kernel, by decide +kernel⟩, List.mem_of_getElem? (i := 239) (by decide +kernel), List.mem_of_getElem? (i := 751) (by decide +kernel), List.mem_of_getElem? (i := 752) (by decide +kernel)⟩
def lw_privs_1 : List (MethodName × Nat) := [(⟨"BreathingHill$LandReader", "readLine", "(LBreathingHill$Tape;LBreathingHill$Hill;)Z"⟩, 3), (⟨"BreathingHill$LandReader", "readPassage", "(LBreathingHill$Tape;LBreathingHill$Land;)Z"⟩, 3), (⟨"BreathingHill$LandReader", "readThing", "(LBreathingHill$Tape;LBreathingHill$Hill;)Z"⟩, 3), (⟨"BreathingHill$LandReader", "readNameAndCell", "(LBreathingHill$Tape;LBreathingHill$Hill;)Z"⟩, 3), (⟨"BreathingHill$LandReader", "readMill", "(LBreathingHill$Tape;LBreathingHill$Hill;)Z"⟩, 3), (⟨"BreathingHill$LandReader", "readMan", "(LBreathingHill$Tape;LBreathingHill$Hill;)Z"⟩, 3), (⟨"BreathingHill$LandReader", "readLong", "(LBreathingHill$Tape;LBreathingHill$Hill;)Z"⟩, 3), (⟨"BreathingHill$LandReader", "beginOnce", "(LBreathingHill$Tape;)Z"⟩, 3), (⟨"BreathingHill$LandReader", "readBreath", "(LBreathingHill$Tape;LBreathingHill$Land;)Z"⟩, 3), (⟨"BreathingHill$LandReader", "readSetting", "(LBreathingHill$Tape;LBreathingHill$Land;)Z"⟩, 3), (⟨"BreathingHill$LandReader", "readForce", "(LBreathingHill$Tape;LBreathingHill$Land;)Z"⟩, 3), (⟨"BreathingHill$LandReader", "readFade", "(LBreathingHill$Tape;LBreathingHill$Land;)Z"⟩, 3), (⟨"BreathingHill$LandReader", "readHeld", "(LBreathingHill$Tape;LBreathingHill$Land;)Z"⟩, 3), (⟨"BreathingHill", "keptIfDone", "(I)I"⟩, 18), (⟨"BreathingHill", "keepPast", "(LBreathingHill$Hill;)V"⟩, 18), (⟨"BreathingHill$Man", "cellAfter", "(LBreathingHill$Land;III)I"⟩, 4)]
theorem lw_r1 : ∀ q ∈ lw_privs_1, lw_okq q := List.forall_mem_cons.mpr ⟨lw_p0, List.forall_mem_cons.mpr ⟨lw_p1, List.forall_mem_cons.mpr ⟨lw_p2, List.forall_mem_cons.mpr ⟨lw_p3, List.forall_mem_cons.mpr ⟨lw_p4, List.forall_mem_cons.mpr ⟨lw_p5, List.forall_mem_cons.mpr ⟨lw_p6, List.forall_mem_cons.mpr ⟨lw_p7, List.forall_mem_cons.mpr ⟨lw_p8, List.forall_mem_cons.mpr ⟨lw_p9, List.forall_mem_cons.mpr ⟨lw_p10, List.forall_mem_cons.mpr ⟨lw_p11, List.forall_mem_cons.mpr ⟨lw_p12, List.forall_mem_cons.mpr ⟨lw_p13, List.forall_mem_cons.mpr ⟨lw_p14, List.forall_mem_cons.mpr ⟨lw_p15, fun _ h => absurd h List.not_mem_nil⟩⟩⟩⟩⟩⟩⟩⟩⟩⟩⟩⟩⟩⟩⟩⟩
theorem lw_p16 : lw_okq (⟨"BreathingHill$Hill", "passOneHour", "()V"⟩, 8) := ⟨⟨by decide +kernel, by decide +kernel⟩, List.mem_of_getElem? (i := 96) (by decide +kernel), List.mem_of_getElem? (i := 767) (by decide +kernel), List.mem_of_getElem? (i := 768) (by decide +kernel)⟩
theorem lw_p17 : lw_okq (⟨"BreathingHill$Thing", "goInside", "(LBreathingHill$Land;I)V"⟩, 10) := ⟨⟨by decide +kernel, by decide +kernel⟩, List.mem_of_getElem? (i := 157) (by decide +kernel), List.mem_of_getElem? (i := 776) (by decide +kernel), List.mem_of_getElem? (i := 777) (by decide +kernel)⟩
theorem lw_p18 : lw_okq (⟨"BreathingHill$Thing", "beCarriedOut", "(LBreathingHill$Land;)V"⟩, 10) := ⟨⟨by decide +kernel, by decide +kernel⟩, List.mem_of_getElem? (i := 157) (by decide +kernel), List.mem_of_getElem? (i := 781) (by decide +kernel), List.mem_of_getElem? (i := 782) (by decide +kernel)⟩
theorem lw_p19 : lw_okq (⟨"BreathingHill$Thing", "beCarriedIn", "(LBreathingHill$Land;)V"⟩, 10) := ⟨⟨by decide +kernel, by decide +kernel⟩, List.mem_of_getElem? (i := 157) (by decide +kernel), List.mem_of_getElem? (i := 787) (by decide +kernel), List.mem_of_getElem? (i := 788) (by decide +kernel)⟩
theorem lw_p20 : lw_okq (⟨"BreathingHill", "keptIfGone", "(I)I"⟩, 18) := ⟨⟨by decide +kernel, by decide +kernel⟩, List.mem_of_getElem? (i := 21) (by decide +kernel), List.mem_of_getElem? (i := 826) (by decide +kernel), List.mem_of_getElem? (i := 827) (by decide +kernel)⟩
theorem lw_p21 : lw_okq (⟨"BreathingHill$Hill", "looseOrTie", "(I)V"⟩, 8) := ⟨⟨by decide +kernel, by decide +kernel⟩, List.mem_of_getElem? (i := 96) (by decide +kernel), List.mem_of_getElem? (i := 845) (by decide +kernel), List.mem_of_getElem? (i := 846) (by decide +kernel)⟩
theorem lw_p22 : lw_okq (⟨"BreathingHill", "canLetGo", "(III)Z"⟩, 18) := ⟨⟨by decide +kernel, by decide +kernel⟩, List.mem_of_getElem? (i := 21) (by decide +kernel), List.mem_of_getElem? (i := 861) (by decide +kernel), List.mem_of_getElem? (i := 862) (by decide +kernel)⟩
theorem lw_p23 : lw_okq (⟨"BreathingHill", "hoursOfLetter", "(IIII)I"⟩, 18) := ⟨⟨by decide +kernel, by decide +kernel⟩, List.mem_of_getElem? (i := 21) (by decide +kernel), List.mem_of_getElem? (i := 865) (by decide +kernel), List.mem_of_getElem? (i := 866) (by decide +kernel)⟩
theorem lw_p24 : lw_okq (⟨"BreathingHill", "hoursInside", "(III)I"⟩, 18) := ⟨⟨by decide +kernel, by decide +kernel⟩, List.mem_of_getElem? (i := 21) (by decide +kernel), List.mem_of_getElem? (i := 901) (by decide +kernel), List.mem_of_getElem? (i := 902) (by decide +kernel)⟩
theorem lw_p25 : lw_okq (⟨"BreathingHill$Log", "readLine", "(LBreathingHill$Tape;LBreathingHill$Hill;)Z"⟩, 6) := ⟨⟨by decide +kernel, by decide +kernel⟩, List.mem_of_getElem? (i := 341) (by decide +kernel), List.mem_of_getElem? (i := 976) (by decide +kernel), List.mem_of_getElem? (i := 977) (by decide +kernel)⟩
theorem lw_p26 : lw_okq (⟨"BreathingHill$Sentence", "readCond", "(LBreathingHill$Tape;I)Z"⟩, 6) := ⟨⟨by decide +kernel, by decide +kernel⟩, List.mem_of_getElem? (i := 313) (by decide +kernel), List.mem_of_getElem? (i := 1030) (by decide +kernel), List.mem_of_getElem? (i := 1031) (by decide +kernel)⟩
theorem lw_p27 : lw_okq (⟨"BreathingHill$Sentence", "readAll", "(LBreathingHill$Tape;I)Z"⟩, 6) := ⟨⟨by decide +kernel, by decide +kernel⟩, List.mem_of_getElem? (i := 313) (by decide +kernel), List.mem_of_getElem? (i := 1034) (by decide +kernel), List.mem_of_getElem? (i := 1035) (by decide +kernel)⟩
theorem lw_p28 : lw_okq (⟨"BreathingHill$Sentence", "readOne", "(LBreathingHill$Tape;I)Z"⟩, 6) := ⟨⟨by decide +kernel, by decide +kernel⟩, List.mem_of_getElem? (i := 313) (by decide +kernel), List.mem_of_getElem? (i := 1038) (by decide +kernel), List.mem_of_getElem? (i := 1039) (by decide +kernel)⟩
theorem lw_p29 : lw_okq (⟨"BreathingHill$Sentence", "addStep", "(LBreathingHill$Token;LBreathingHill$Token;)Z"⟩, 6) := ⟨⟨by decide +kernel, by decide +kernel⟩, List.mem_of_getElem? (i := 313) (by decide +kernel), List.mem_of_getElem? (i := 1073) (by decide +kernel), List.mem_of_getElem? (i := 1074) (by decide +kernel)⟩
theorem lw_p30 : lw_okq (⟨"BreathingHill$Sentence", "readCompared", "(LBreathingHill$Tape;LBreathingHill$Token;)Z"⟩, 6) := ⟨⟨by decide +kernel, by decide +kernel⟩, List.mem_of_getElem? (i := 313) (by decide +kernel), List.mem_of_getElem? (i := 1077) (by decide +kernel), List.mem_of_getElem? (i := 1078) (by decide +kernel)⟩
theorem lw_p31 : lw_okq (⟨"java/lang/Throwable", "fillInStackTrace", "(I)Ljava/lang/Throwable;"⟩, 6) := ⟨⟨by decide +kernel, by decide +kernel⟩, List.mem_of_getElem? (i := 1173) (by decide +kernel), List.mem_of_getElem? (i := 1171) (by decide +kernel), List.mem_of_getElem? (i := 1172) (by decide +kernel)⟩
def lw_privs_2 : List (MethodName × Nat) := [(⟨"BreathingHill$Hill", "passOneHour", "()V"⟩, 8), (⟨"BreathingHill$Thing", "goInside", "(LBreathingHill$Land;I)V"⟩, 10), (⟨"BreathingHill$Thing", "beCarriedOut", "(LBreathingHill$Land;)V"⟩, 10), (⟨"BreathingHill$Thing", "beCarriedIn", "(LBreathingHill$Land;)V"⟩, 10), (⟨"BreathingHill", "keptIfGone", "(I)I"⟩, 18), (⟨"BreathingHill$Hill", "looseOrTie", "(I)V"⟩, 8), (⟨"BreathingHill", "canLetGo", "(III)Z"⟩, 18), (⟨"BreathingHill", "hoursOfLetter", "(IIII)I"⟩, 18), (⟨"BreathingHill", "hoursInside", "(III)I"⟩, 18), (⟨"BreathingHill$Log", "readLine", "(LBreathingHill$Tape;LBreathingHill$Hill;)Z"⟩, 6), (⟨"BreathingHill$Sentence", "readCond", "(LBreathingHill$Tape;I)Z"⟩, 6), (⟨"BreathingHill$Sentence", "readAll", "(LBreathingHill$Tape;I)Z"⟩, 6), (⟨"BreathingHill$Sentence", "readOne", "(LBreathingHill$Tape;I)Z"⟩, 6), (⟨"BreathingHill$Sentence", "addStep", "(LBreathingHill$Token;LBreathingHill$Token;)Z"⟩, 6), (⟨"BreathingHill$Sentence", "readCompared", "(LBreathingHill$Tape;LBreathingHill$Token;)Z"⟩, 6), (⟨"java/lang/Throwable", "fillInStackTrace", "(I)Ljava/lang/Throwable;"⟩, 6)]
theorem lw_r2 : ∀ q ∈ lw_privs_2, lw_okq q := List.forall_mem_cons.mpr ⟨lw_p16, List.forall_mem_cons.mpr ⟨lw_p17, List.forall_mem_cons.mpr ⟨lw_p18, List.forall_mem_cons.mpr ⟨lw_p19, List.forall_mem_cons.mpr ⟨lw_p20, List.forall_mem_cons.mpr ⟨lw_p21, List.forall_mem_cons.mpr ⟨lw_p22, List.forall_mem_cons.mpr ⟨lw_p23, List.forall_mem_cons.mpr ⟨lw_p24, List.forall_mem_cons.mpr ⟨lw_p25, List.forall_mem_cons.mpr ⟨lw_p26, List.forall_mem_cons.mpr ⟨lw_p27, List.forall_mem_cons.mpr ⟨lw_p28, List.forall_mem_cons.mpr ⟨lw_p29, List.forall_mem_cons.mpr ⟨lw_p30, List.forall_mem_cons.mpr ⟨lw_p31, fun _ h => absurd h List.not_mem_nil⟩⟩⟩⟩⟩⟩⟩⟩⟩⟩⟩⟩⟩⟩⟩⟩
theorem lw_p32 : lw_okq (⟨"BreathingHillModel", "four", "(I)V"⟩, 45) := ⟨⟨by decide +kernel, by decide +kernel⟩, List.mem_of_getElem? (i := 1208) (by decide +kernel), List.mem_of_getElem? (i := 1206) (by decide +kernel), List.mem_of_getElem? (i := 1207) (by decide +kernel)⟩
theorem lw_p33 : lw_okq (⟨"BreathingHillModel", "clears", "()V"⟩, 45) := ⟨⟨by decide +kernel, by decide +kernel⟩, List.mem_of_getElem? (i := 1208) (by decide +kernel), List.mem_of_getElem? (i := 1245) (by decide +kernel), List.mem_of_getElem? (i := 1246) (by decide +kernel)⟩
theorem lw_p34 : lw_okq (⟨"BreathingHillModel", "taken", "(I)V"⟩, 45) := ⟨⟨by decide +kernel, by decide +kernel⟩, List.mem_of_getElem? (i := 1208) (by decide +kernel), List.mem_of_getElem? (i := 1390) (by decide +kernel), List.mem_of_getElem? (i := 1391) (by decide +kernel)⟩
theorem lw_p35 : lw_okq (⟨"BreathingHillModel", "next", "()V"⟩, 45) := ⟨⟨by decide +kernel, by decide +kernel⟩, List.mem_of_getElem? (i := 1208) (by decide +kernel), List.mem_of_getElem? (i := 1394) (by decide +kernel), List.mem_of_getElem? (i := 1395) (by decide +kernel)⟩
theorem lw_p36 : lw_okq (⟨"BreathingHillModel", "peek", "()I"⟩, 45) := ⟨⟨by decide +kernel, by decide +kernel⟩, List.mem_of_getElem? (i := 1208) (by decide +kernel), List.mem_of_getElem? (i := 1398) (by decide +kernel), List.mem_of_getElem? (i := 1399) (by decide +kernel)⟩
theorem lw_p37 : lw_okq (⟨"BreathingHillModel", "line", "()Z"⟩, 45) := ⟨⟨by decide +kernel, by decide +kernel⟩, List.mem_of_getElem? (i := 1208) (by decide +kernel), List.mem_of_getElem? (i := 1408) (by decide +kernel), List.mem_of_getElem? (i := 1409) (by decide +kernel)⟩
theorem lw_p38 : lw_okq (⟨"BreathingHillModel", "isWord", "(J)Z"⟩, 45) := ⟨⟨by decide +kernel, by decide +kernel⟩, List.mem_of_getElem? (i := 1208) (by decide +kernel), List.mem_of_getElem? (i := 1412) (by decide +kernel), List.mem_of_getElem? (i := 1413) (by decide +kernel)⟩
theorem lw_p39 : lw_okq (⟨"BreathingHillModel", "isOnce", "(I)Z"⟩, 45) := ⟨⟨by decide +kernel, by decide +kernel⟩, List.mem_of_getElem? (i := 1208) (by decide +kernel), List.mem_of_getElem? (i := 1416) (by decide +kernel), List.mem_of_getElem? (i := 1417) (by decide +kernel)⟩
theorem lw_p40 : lw_okq (⟨"BreathingHillModel", "bad", "(I)Z"⟩, 45) := ⟨⟨by decide +kernel, by decide +kernel⟩, List.mem_of_getElem? (i := 1208) (by decide +kernel), List.mem_of_getElem? (i := 1423) (by decide +kernel), List.mem_of_getElem? (i := 1424) (by decide +kernel)⟩
theorem lw_p41 : lw_okq (⟨"BreathingHillModel", "puts", "(III)Z"⟩, 45) := ⟨⟨by decide +kernel, by decide +kernel⟩, List.mem_of_getElem? (i := 1208) (by decide +kernel), List.mem_of_getElem? (i := 1427) (by decide +kernel), List.mem_of_getElem? (i := 1428) (by decide +kernel)⟩
theorem lw_p42 : lw_okq (⟨"BreathingHillModel", "takes", "(II)Z"⟩, 45) := ⟨⟨by decide +kernel, by decide +kernel⟩, List.mem_of_getElem? (i := 1208) (by decide +kernel), List.mem_of_getElem? (i := 1431) (by decide +kernel), List.mem_of_getElem? (i := 1432) (by decide +kernel)⟩
theorem lw_p43 : lw_okq (⟨"BreathingHillModel", "readThing", "()Z"⟩, 45) := ⟨⟨by decide +kernel, by decide +kernel⟩, List.mem_of_getElem? (i := 1208) (by decide +kernel), List.mem_of_getElem? (i := 1438) (by decide +kernel), List.mem_of_getElem? (i := 1439) (by decide +kernel)⟩
theorem lw_p44 : lw_okq (⟨"BreathingHillModel", "readPlace", "(III)Z"⟩, 45) := ⟨⟨by decide +kernel, by decide +kernel⟩, List.mem_of_getElem? (i := 1208) (by decide +kernel), List.mem_of_getElem? (i := 1442) (by decide +kernel), List.mem_of_getElem? (i := 1443) (by decide +kernel)⟩
theorem lw_p45 : lw_okq (⟨"BreathingHillModel", "fresh", "(I)Z"⟩, 45) := ⟨⟨by decide +kernel, by decide +kernel⟩, List.mem_of_getElem? (i := 1208) (by decide +kernel), List.mem_of_getElem? (i := 1446) (by decide +kernel), List.mem_of_getElem? (i := 1447) (by decide +kernel)⟩
theorem lw_p46 : lw_okq (⟨"BreathingHillModel", "isName", "()Z"⟩, 45) := ⟨⟨by decide +kernel, by decide +kernel⟩, List.mem_of_getElem? (i := 1208) (by decide +kernel), List.mem_of_getElem? (i := 1450) (by decide +kernel), List.mem_of_getElem? (i := 1451) (by decide +kernel)⟩
theorem lw_p47 : lw_okq (⟨"BreathingHillModel", "find", "(II)I"⟩, 45) := ⟨⟨by decide +kernel, by decide +kernel⟩, List.mem_of_getElem? (i := 1208) (by decide +kernel), List.mem_of_getElem? (i := 1454) (by decide +kernel), List.mem_of_getElem? (i := 1455) (by decide +kernel)⟩
def lw_privs_3 : List (MethodName × Nat) := [(⟨"BreathingHillModel", "four", "(I)V"⟩, 45), (⟨"BreathingHillModel", "clears", "()V"⟩, 45), (⟨"BreathingHillModel", "taken", "(I)V"⟩, 45), (⟨"BreathingHillModel", "next", "()V"⟩, 45), (⟨"BreathingHillModel", "peek", "()I"⟩, 45), (⟨"BreathingHillModel", "line", "()Z"⟩, 45), (⟨"BreathingHillModel", "isWord", "(J)Z"⟩, 45), (⟨"BreathingHillModel", "isOnce", "(I)Z"⟩, 45), (⟨"BreathingHillModel", "bad", "(I)Z"⟩, 45), (⟨"BreathingHillModel", "puts", "(III)Z"⟩, 45), (⟨"BreathingHillModel", "takes", "(II)Z"⟩, 45), (⟨"BreathingHillModel", "readThing", "()Z"⟩, 45), (⟨"BreathingHillModel", "readPlace", "(III)Z"⟩, 45), (⟨"BreathingHillModel", "fresh", "(I)Z"⟩, 45), (⟨"BreathingHillModel", "isName", "()Z"⟩, 45), (⟨"BreathingHillModel", "find", "(II)I"⟩, 45)]
theorem lw_r3 : ∀ q ∈ lw_privs_3, lw_okq q := List.forall_mem_cons.mpr ⟨lw_p32, List.forall_mem_cons.mpr ⟨lw_p33, List.forall_mem_cons.mpr ⟨lw_p34, List.forall_mem_cons.mpr ⟨lw_p35, List.forall_mem_cons.mpr ⟨lw_p36, List.forall_mem_cons.mpr ⟨lw_p37, List.forall_mem_cons.mpr ⟨lw_p38, List.forall_mem_cons.mpr ⟨lw_p39, List.forall_mem_cons.mpr ⟨lw_p40, List.forall_mem_cons.mpr ⟨lw_p41, List.forall_mem_cons.mpr ⟨lw_p42, List.forall_mem_cons.mpr ⟨lw_p43, List.forall_mem_cons.mpr ⟨lw_p44, List.forall_mem_cons.mpr ⟨lw_p45, List.forall_mem_cons.mpr ⟨lw_p46, List.forall_mem_cons.mpr ⟨lw_p47, fun _ h => absurd h List.not_mem_nil⟩⟩⟩⟩⟩⟩⟩⟩⟩⟩⟩⟩⟩⟩⟩⟩
theorem lw_p48 : lw_okq (⟨"BreathingHillModel", "sign", "(I)Z"⟩, 45) := ⟨⟨by decide +kernel, by decide +kernel⟩, List.mem_of_getElem? (i := 1208) (by decide +kernel), List.mem_of_getElem? (i := 1458) (by decide +kernel), List.mem_of_getElem? (i := 1459) (by decide +kernel)⟩
theorem lw_p49 : lw_okq (⟨"BreathingHillModel", "isSign", "(I)Z"⟩, 45) := ⟨⟨by decide +kernel, by decide +kernel⟩, List.mem_of_getElem? (i := 1208) (by decide +kernel), List.mem_of_getElem? (i := 1462) (by decide +kernel), List.mem_of_getElem? (i := 1463) (by decide +kernel)⟩
theorem lw_p50 : lw_okq (⟨"BreathingHillModel", "isThing", "(I)Z"⟩, 45) := ⟨⟨by decide +kernel, by decide +kernel⟩, List.mem_of_getElem? (i := 1208) (by decide +kernel), List.mem_of_getElem? (i := 1474) (by decide +kernel), List.mem_of_getElem? (i := 1475) (by decide +kernel)⟩
theorem lw_p51 : lw_okq (⟨"BreathingHillModel", "throwsIf", "(Z)Z"⟩, 45) := ⟨⟨by decide +kernel, by decide +kernel⟩, List.mem_of_getElem? (i := 1208) (by decide +kernel), List.mem_of_getElem? (i := 1478) (by decide +kernel), List.mem_of_getElem? (i := 1479) (by decide +kernel)⟩
theorem lw_p52 : lw_okq (⟨"BreathingHillModel", "isMan", "(I)Z"⟩, 45) := ⟨⟨by decide +kernel, by decide +kernel⟩, List.mem_of_getElem? (i := 1208) (by decide +kernel), List.mem_of_getElem? (i := 1490) (by decide +kernel), List.mem_of_getElem? (i := 1491) (by decide +kernel)⟩
theorem lw_p53 : lw_okq (⟨"BreathingHillModel", "airOf", "(II)I"⟩, 45) := ⟨⟨by decide +kernel, by decide +kernel⟩, List.mem_of_getElem? (i := 1208) (by decide +kernel), List.mem_of_getElem? (i := 1502) (by decide +kernel), List.mem_of_getElem? (i := 1503) (by decide +kernel)⟩
theorem lw_p54 : lw_okq (⟨"BreathingHillModel", "period", "()I"⟩, 45) := ⟨⟨by decide +kernel, by decide +kernel⟩, List.mem_of_getElem? (i := 1208) (by decide +kernel), List.mem_of_getElem? (i := 1506) (by decide +kernel), List.mem_of_getElem? (i := 1507) (by decide +kernel)⟩
theorem lw_p55 : lw_okq (⟨"BreathingHillModel", "isCell", "(II)Z"⟩, 45) := ⟨⟨by decide +kernel, by decide +kernel⟩, List.mem_of_getElem? (i := 1208) (by decide +kernel), List.mem_of_getElem? (i := 1514) (by decide +kernel), List.mem_of_getElem? (i := 1515) (by decide +kernel)⟩
theorem lw_p56 : lw_okq (⟨"BreathingHillModel", "forceAt", "(I)I"⟩, 45) := ⟨⟨by decide +kernel, by decide +kernel⟩, List.mem_of_getElem? (i := 1208) (by decide +kernel), List.mem_of_getElem? (i := 1518) (by decide +kernel), List.mem_of_getElem? (i := 1519) (by decide +kernel)⟩
theorem lw_p57 : lw_okq (⟨"BreathingHillModel", "thingsAt", "(I)I"⟩, 45) := ⟨⟨by decide +kernel, by decide +kernel⟩, List.mem_of_getElem? (i := 1208) (by decide +kernel), List.mem_of_getElem? (i := 1526) (by decide +kernel), List.mem_of_getElem? (i := 1527) (by decide +kernel)⟩
theorem lw_p58 : lw_okq (⟨"BreathingHillModel", "whyTie", "(II)I"⟩, 45) := ⟨⟨by decide +kernel, by decide +kernel⟩, List.mem_of_getElem? (i := 1208) (by decide +kernel), List.mem_of_getElem? (i := 1534) (by decide +kernel), List.mem_of_getElem? (i := 1535) (by decide +kernel)⟩
theorem lw_p59 : lw_okq (⟨"BreathingHillModel", "isTied", "(I)Z"⟩, 45) := ⟨⟨by decide +kernel, by decide +kernel⟩, List.mem_of_getElem? (i := 1208) (by decide +kernel), List.mem_of_getElem? (i := 1538) (by decide +kernel), List.mem_of_getElem? (i := 1539) (by decide +kernel)⟩
theorem lw_p60 : lw_okq (⟨"BreathingHillModel", "keep", "()V"⟩, 45) := ⟨⟨by decide +kernel, by decide +kernel⟩, List.mem_of_getElem? (i := 1208) (by decide +kernel), List.mem_of_getElem? (i := 1542) (by decide +kernel), List.mem_of_getElem? (i := 1543) (by decide +kernel)⟩
theorem lw_p61 : lw_okq (⟨"BreathingHillModel", "whyWalk", "(II)I"⟩, 45) := ⟨⟨by decide +kernel, by decide +kernel⟩, List.mem_of_getElem? (i := 1208) (by decide +kernel), List.mem_of_getElem? (i := 1550) (by decide +kernel), List.mem_of_getElem? (i := 1551) (by decide +kernel)⟩
theorem lw_p62 : lw_okq (⟨"BreathingHillModel", "hoursTo", "(II)I"⟩, 45) := ⟨⟨by decide +kernel, by decide +kernel⟩, List.mem_of_getElem? (i := 1208) (by decide +kernel), List.mem_of_getElem? (i := 1554) (by decide +kernel), List.mem_of_getElem? (i := 1555) (by decide +kernel)⟩
theorem lw_p63 : lw_okq (⟨"BreathingHillModel", "strides", "(IIII)I"⟩, 45) := ⟨⟨by decide +kernel, by decide +kernel⟩, List.mem_of_getElem? (i := 1208) (by decide +kernel), List.mem_of_getElem? (i := 1558) (by decide +kernel), List.mem_of_getElem? (i := 1559) (by decide +kernel)⟩
def lw_privs_4 : List (MethodName × Nat) := [(⟨"BreathingHillModel", "sign", "(I)Z"⟩, 45), (⟨"BreathingHillModel", "isSign", "(I)Z"⟩, 45), (⟨"BreathingHillModel", "isThing", "(I)Z"⟩, 45), (⟨"BreathingHillModel", "throwsIf", "(Z)Z"⟩, 45), (⟨"BreathingHillModel", "isMan", "(I)Z"⟩, 45), (⟨"BreathingHillModel", "airOf", "(II)I"⟩, 45), (⟨"BreathingHillModel", "period", "()I"⟩, 45), (⟨"BreathingHillModel", "isCell", "(II)Z"⟩, 45), (⟨"BreathingHillModel", "forceAt", "(I)I"⟩, 45), (⟨"BreathingHillModel", "thingsAt", "(I)I"⟩, 45), (⟨"BreathingHillModel", "whyTie", "(II)I"⟩, 45), (⟨"BreathingHillModel", "isTied", "(I)Z"⟩, 45), (⟨"BreathingHillModel", "keep", "()V"⟩, 45), (⟨"BreathingHillModel", "whyWalk", "(II)I"⟩, 45), (⟨"BreathingHillModel", "hoursTo", "(II)I"⟩, 45), (⟨"BreathingHillModel", "strides", "(IIII)I"⟩, 45)]
theorem lw_r4 : ∀ q ∈ lw_privs_4, lw_okq q := List.forall_mem_cons.mpr ⟨lw_p48, List.forall_mem_cons.mpr ⟨lw_p49, List.forall_mem_cons.mpr ⟨lw_p50, List.forall_mem_cons.mpr ⟨lw_p51, List.forall_mem_cons.mpr ⟨lw_p52, List.forall_mem_cons.mpr ⟨lw_p53, List.forall_mem_cons.mpr ⟨lw_p54, List.forall_mem_cons.mpr ⟨lw_p55, List.forall_mem_cons.mpr ⟨lw_p56, List.forall_mem_cons.mpr ⟨lw_p57, List.forall_mem_cons.mpr ⟨lw_p58, List.forall_mem_cons.mpr ⟨lw_p59, List.forall_mem_cons.mpr ⟨lw_p60, List.forall_mem_cons.mpr ⟨lw_p61, List.forall_mem_cons.mpr ⟨lw_p62, List.forall_mem_cons.mpr ⟨lw_p63, fun _ h => absurd h List.not_mem_nil⟩⟩⟩⟩⟩⟩⟩⟩⟩⟩⟩⟩⟩⟩⟩⟩
theorem lw_p64 : lw_okq (⟨"BreathingHillModel", "walks", "(II)V"⟩, 45) := ⟨⟨by decide +kernel, by decide +kernel⟩, List.mem_of_getElem? (i := 1208) (by decide +kernel), List.mem_of_getElem? (i := 1565) (by decide +kernel), List.mem_of_getElem? (i := 1566) (by decide +kernel)⟩
theorem lw_p65 : lw_okq (⟨"BreathingHillModel", "hour", "()V"⟩, 45) := ⟨⟨by decide +kernel, by decide +kernel⟩, List.mem_of_getElem? (i := 1208) (by decide +kernel), List.mem_of_getElem? (i := 1569) (by decide +kernel), List.mem_of_getElem? (i := 1570) (by decide +kernel)⟩
theorem lw_p66 : lw_okq (⟨"BreathingHillModel", "loads", "(I)V"⟩, 45) := ⟨⟨by decide +kernel, by decide +kernel⟩, List.mem_of_getElem? (i := 1208) (by decide +kernel), List.mem_of_getElem? (i := 1573) (by decide +kernel), List.mem_of_getElem? (i := 1574) (by decide +kernel)⟩
theorem lw_p67 : lw_okq (⟨"BreathingHillModel", "carries", "(II)V"⟩, 45) := ⟨⟨by decide +kernel, by decide +kernel⟩, List.mem_of_getElem? (i := 1208) (by decide +kernel), List.mem_of_getElem? (i := 1577) (by decide +kernel), List.mem_of_getElem? (i := 1578) (by decide +kernel)⟩
theorem lw_p68 : lw_okq (⟨"BreathingHillModel", "goesIn", "(I)V"⟩, 45) := ⟨⟨by decide +kernel, by decide +kernel⟩, List.mem_of_getElem? (i := 1208) (by decide +kernel), List.mem_of_getElem? (i := 1581) (by decide +kernel), List.mem_of_getElem? (i := 1582) (by decide +kernel)⟩
theorem lw_p69 : lw_okq (⟨"BreathingHillModel", "coughs", "()V"⟩, 45) := ⟨⟨by decide +kernel, by decide +kernel⟩, List.mem_of_getElem? (i := 1208) (by decide +kernel), List.mem_of_getElem? (i := 1589) (by decide +kernel), List.mem_of_getElem? (i := 1590) (by decide +kernel)⟩
theorem lw_p70 : lw_okq (⟨"BreathingHillModel", "goesOn", "(I)I"⟩, 45) := ⟨⟨by decide +kernel, by decide +kernel⟩, List.mem_of_getElem? (i := 1208) (by decide +kernel), List.mem_of_getElem? (i := 1597) (by decide +kernel), List.mem_of_getElem? (i := 1598) (by decide +kernel)⟩
theorem lw_p71 : lw_okq (⟨"BreathingHillModel", "letterOf", "(IIII)I"⟩, 45) := ⟨⟨by decide +kernel, by decide +kernel⟩, List.mem_of_getElem? (i := 1208) (by decide +kernel), List.mem_of_getElem? (i := 1609) (by decide +kernel), List.mem_of_getElem? (i := 1610) (by decide +kernel)⟩
theorem lw_p72 : lw_okq (⟨"BreathingHillModel", "octet", "(I)I"⟩, 45) := ⟨⟨by decide +kernel, by decide +kernel⟩, List.mem_of_getElem? (i := 1208) (by decide +kernel), List.mem_of_getElem? (i := 1637) (by decide +kernel), List.mem_of_getElem? (i := 1638) (by decide +kernel)⟩
theorem lw_p73 : lw_okq (⟨"BreathingHillModel", "insideFor", "(III)I"⟩, 45) := ⟨⟨by decide +kernel, by decide +kernel⟩, List.mem_of_getElem? (i := 1208) (by decide +kernel), List.mem_of_getElem? (i := 1641) (by decide +kernel), List.mem_of_getElem? (i := 1642) (by decide +kernel)⟩
theorem lw_p74 : lw_okq (⟨"BreathingHillModel", "isInValley", "(I)Z"⟩, 45) := ⟨⟨by decide +kernel, by decide +kernel⟩, List.mem_of_getElem? (i := 1208) (by decide +kernel), List.mem_of_getElem? (i := 1649) (by decide +kernel), List.mem_of_getElem? (i := 1650) (by decide +kernel)⟩
theorem lw_p75 : lw_okq (⟨"BreathingHillModel", "tries", "()V"⟩, 45) := ⟨⟨by decide +kernel, by decide +kernel⟩, List.mem_of_getElem? (i := 1208) (by decide +kernel), List.mem_of_getElem? (i := 1665) (by decide +kernel), List.mem_of_getElem? (i := 1666) (by decide +kernel)⟩
theorem lw_p76 : lw_okq (⟨"BreathingHillModel", "back", "()V"⟩, 45) := ⟨⟨by decide +kernel, by decide +kernel⟩, List.mem_of_getElem? (i := 1208) (by decide +kernel), List.mem_of_getElem? (i := 1672) (by decide +kernel), List.mem_of_getElem? (i := 1673) (by decide +kernel)⟩
theorem lw_p77 : lw_okq (⟨"BreathingHillModel", "draws", "(II)I"⟩, 45) := ⟨⟨by decide +kernel, by decide +kernel⟩, List.mem_of_getElem? (i := 1208) (by decide +kernel), List.mem_of_getElem? (i := 1692) (by decide +kernel), List.mem_of_getElem? (i := 1693) (by decide +kernel)⟩
theorem lw_p78 : lw_okq (⟨"BreathingHillModel", "draw", "(I)I"⟩, 45) := ⟨⟨by decide +kernel, by decide +kernel⟩, List.mem_of_getElem? (i := 1208) (by decide +kernel), List.mem_of_getElem? (i := 1696) (by decide +kernel), List.mem_of_getElem? (i := 1697) (by decide +kernel)⟩
theorem lw_p79 : lw_okq (⟨"BreathingHillModel", "isBeyond", "(I)Z"⟩, 45) := ⟨⟨by decide +kernel, by decide +kernel⟩, List.mem_of_getElem? (i := 1208) (by decide +kernel), List.mem_of_getElem? (i := 1705) (by decide +kernel), List.mem_of_getElem? (i := 1706) (by decide +kernel)⟩
def lw_privs_5 : List (MethodName × Nat) := [(⟨"BreathingHillModel", "walks", "(II)V"⟩, 45), (⟨"BreathingHillModel", "hour", "()V"⟩, 45), (⟨"BreathingHillModel", "loads", "(I)V"⟩, 45), (⟨"BreathingHillModel", "carries", "(II)V"⟩, 45), (⟨"BreathingHillModel", "goesIn", "(I)V"⟩, 45), (⟨"BreathingHillModel", "coughs", "()V"⟩, 45), (⟨"BreathingHillModel", "goesOn", "(I)I"⟩, 45), (⟨"BreathingHillModel", "letterOf", "(IIII)I"⟩, 45), (⟨"BreathingHillModel", "octet", "(I)I"⟩, 45), (⟨"BreathingHillModel", "insideFor", "(III)I"⟩, 45), (⟨"BreathingHillModel", "isInValley", "(I)Z"⟩, 45), (⟨"BreathingHillModel", "tries", "()V"⟩, 45), (⟨"BreathingHillModel", "back", "()V"⟩, 45), (⟨"BreathingHillModel", "draws", "(II)I"⟩, 45), (⟨"BreathingHillModel", "draw", "(I)I"⟩, 45), (⟨"BreathingHillModel", "isBeyond", "(I)Z"⟩, 45)]
theorem lw_r5 : ∀ q ∈ lw_privs_5, lw_okq q := List.forall_mem_cons.mpr ⟨lw_p64, List.forall_mem_cons.mpr ⟨lw_p65, List.forall_mem_cons.mpr ⟨lw_p66, List.forall_mem_cons.mpr ⟨lw_p67, List.forall_mem_cons.mpr ⟨lw_p68, List.forall_mem_cons.mpr ⟨lw_p69, List.forall_mem_cons.mpr ⟨lw_p70, List.forall_mem_cons.mpr ⟨lw_p71, List.forall_mem_cons.mpr ⟨lw_p72, List.forall_mem_cons.mpr ⟨lw_p73, List.forall_mem_cons.mpr ⟨lw_p74, List.forall_mem_cons.mpr ⟨lw_p75, List.forall_mem_cons.mpr ⟨lw_p76, List.forall_mem_cons.mpr ⟨lw_p77, List.forall_mem_cons.mpr ⟨lw_p78, List.forall_mem_cons.mpr ⟨lw_p79, fun _ h => absurd h List.not_mem_nil⟩⟩⟩⟩⟩⟩⟩⟩⟩⟩⟩⟩⟩⟩⟩⟩
theorem lw_p80 : lw_okq (⟨"BreathingHillModel", "logLine", "()Z"⟩, 45) := ⟨⟨by decide +kernel, by decide +kernel⟩, List.mem_of_getElem? (i := 1208) (by decide +kernel), List.mem_of_getElem? (i := 1713) (by decide +kernel), List.mem_of_getElem? (i := 1714) (by decide +kernel)⟩
theorem lw_p81 : lw_okq (⟨"BreathingHillModel", "does", "(III)I"⟩, 45) := ⟨⟨by decide +kernel, by decide +kernel⟩, List.mem_of_getElem? (i := 1208) (by decide +kernel), List.mem_of_getElem? (i := 1717) (by decide +kernel), List.mem_of_getElem? (i := 1718) (by decide +kernel)⟩
theorem lw_p82 : lw_okq (⟨"BreathingHillModel", "nots", "()V"⟩, 45) := ⟨⟨by decide +kernel, by decide +kernel⟩, List.mem_of_getElem? (i := 1208) (by decide +kernel), List.mem_of_getElem? (i := 1729) (by decide +kernel), List.mem_of_getElem? (i := 1730) (by decide +kernel)⟩
theorem lw_p83 : lw_okq (⟨"BreathingHillModel", "code", "(III)V"⟩, 45) := ⟨⟨by decide +kernel, by decide +kernel⟩, List.mem_of_getElem? (i := 1208) (by decide +kernel), List.mem_of_getElem? (i := 1733) (by decide +kernel), List.mem_of_getElem? (i := 1734) (by decide +kernel)⟩
theorem lw_p84 : lw_okq (⟨"BreathingHillModel", "joins", "(I)V"⟩, 45) := ⟨⟨by decide +kernel, by decide +kernel⟩, List.mem_of_getElem? (i := 1208) (by decide +kernel), List.mem_of_getElem? (i := 1737) (by decide +kernel), List.mem_of_getElem? (i := 1738) (by decide +kernel)⟩
theorem lw_p85 : lw_okq (⟨"BreathingHillModel", "behind", "()Z"⟩, 45) := ⟨⟨by decide +kernel, by decide +kernel⟩, List.mem_of_getElem? (i := 1208) (by decide +kernel), List.mem_of_getElem? (i := 1741) (by decide +kernel), List.mem_of_getElem? (i := 1742) (by decide +kernel)⟩
theorem lw_p86 : lw_okq (⟨"BreathingHillModel", "operand", "()Z"⟩, 45) := ⟨⟨by decide +kernel, by decide +kernel⟩, List.mem_of_getElem? (i := 1208) (by decide +kernel), List.mem_of_getElem? (i := 1745) (by decide +kernel), List.mem_of_getElem? (i := 1746) (by decide +kernel)⟩
theorem lw_p87 : lw_okq (⟨"BreathingHillModel", "leafOf", "()I"⟩, 45) := ⟨⟨by decide +kernel, by decide +kernel⟩, List.mem_of_getElem? (i := 1208) (by decide +kernel), List.mem_of_getElem? (i := 1749) (by decide +kernel), List.mem_of_getElem? (i := 1750) (by decide +kernel)⟩
theorem lw_p88 : lw_okq (⟨"BreathingHillModel", "isSaid", "(I)Z"⟩, 45) := ⟨⟨by decide +kernel, by decide +kernel⟩, List.mem_of_getElem? (i := 1208) (by decide +kernel), List.mem_of_getElem? (i := 1757) (by decide +kernel), List.mem_of_getElem? (i := 1758) (by decide +kernel)⟩
theorem lw_p89 : lw_okq (⟨"BreathingHillModel", "isLeaf", "(IIII)Z"⟩, 45) := ⟨⟨by decide +kernel, by decide +kernel⟩, List.mem_of_getElem? (i := 1208) (by decide +kernel), List.mem_of_getElem? (i := 1761) (by decide +kernel), List.mem_of_getElem? (i := 1762) (by decide +kernel)⟩
def lw_privs_6 : List (MethodName × Nat) := [(⟨"BreathingHillModel", "logLine", "()Z"⟩, 45), (⟨"BreathingHillModel", "does", "(III)I"⟩, 45), (⟨"BreathingHillModel", "nots", "()V"⟩, 45), (⟨"BreathingHillModel", "code", "(III)V"⟩, 45), (⟨"BreathingHillModel", "joins", "(I)V"⟩, 45), (⟨"BreathingHillModel", "behind", "()Z"⟩, 45), (⟨"BreathingHillModel", "operand", "()Z"⟩, 45), (⟨"BreathingHillModel", "leafOf", "()I"⟩, 45), (⟨"BreathingHillModel", "isSaid", "(I)Z"⟩, 45), (⟨"BreathingHillModel", "isLeaf", "(IIII)Z"⟩, 45)]
theorem lw_r6 : ∀ q ∈ lw_privs_6, lw_okq q := List.forall_mem_cons.mpr ⟨lw_p80, List.forall_mem_cons.mpr ⟨lw_p81, List.forall_mem_cons.mpr ⟨lw_p82, List.forall_mem_cons.mpr ⟨lw_p83, List.forall_mem_cons.mpr ⟨lw_p84, List.forall_mem_cons.mpr ⟨lw_p85, List.forall_mem_cons.mpr ⟨lw_p86, List.forall_mem_cons.mpr ⟨lw_p87, List.forall_mem_cons.mpr ⟨lw_p88, List.forall_mem_cons.mpr ⟨lw_p89, fun _ h => absurd h List.not_mem_nil⟩⟩⟩⟩⟩⟩⟩⟩⟩⟩
def lw_privs : List (MethodName × Nat) := lw_privs_1 ++ (lw_privs_2 ++ (lw_privs_3 ++ (lw_privs_4 ++ (lw_privs_5 ++ (lw_privs_6)))))
def lw_tbl : List Cond := k2_sels lw_privs ++ tables_1
theorem lw_privs_ok : ∀ q ∈ lw_privs, lw_okq q := by
  show ∀ q ∈ lw_privs_1 ++ (lw_privs_2 ++ (lw_privs_3 ++ (lw_privs_4 ++ (lw_privs_5 ++ (lw_privs_6))))), lw_okq q
  exact List.forall_mem_append.mpr ⟨lw_r1, List.forall_mem_append.mpr ⟨lw_r2, List.forall_mem_append.mpr ⟨lw_r3, List.forall_mem_append.mpr ⟨lw_r4, List.forall_mem_append.mpr ⟨lw_r5, lw_r6⟩⟩⟩⟩⟩
end
section
def RX0 : String := "BreathingHill$Hill"
def TX0 : u_T := fun k => match k with
  | 0 => ("BreathingHill$Hill", "land", "LBreathingHill$Land;", true)
  | 1 => ("BreathingHill$Hill", "things", "[LBreathingHill$Thing;", true)
  | 2 => ("BreathingHill$Hill", "mills", "[LBreathingHill$Mill;", true)
  | 3 => ("BreathingHill$Hill", "men", "[LBreathingHill$Man;", true)
  | 4 => ("BreathingHill$Hill", "thingCount", "I", false)
  | 5 => ("BreathingHill$Hill", "millCount", "I", false)
  | 6 => ("BreathingHill$Hill", "manCount", "I", false)
  | _ => ("BreathingHill$Hill", "hour", "I", false)
def tyX0 : Nat → FieldType := fun k => match k with
  | 0 => .object "BreathingHill$Land"
  | 1 => .array (.object "BreathingHill$Thing")
  | 2 => .array (.object "BreathingHill$Mill")
  | 3 => .array (.object "BreathingHill$Man")
  | 4 => .int
  | 5 => .int
  | 6 => .int
  | _ => .int
abbrev wsX00 : List Cond := u_ws RX0 TX0 8
theorem nmX0 : ∀ a, a < 8 → ∀ b, b < 8 → a ≠ b → (TX0 a).2.1 ≠ (TX0 b).2.1 := by decide +kernel
theorem tyX0_ok : ∀ k, k < 8 → parseFieldDescriptor (TX0 k).2.2.1 = some (tyX0 k) := by decide +kernel
def RX1 : String := "BreathingHill$Land"
def TX1 : u_T := fun k => match k with
  | 0 => ("BreathingHill$Land", "cells", "[I", true)
  | 1 => ("BreathingHill$Land", "breath", "[I", true)
  | 2 => ("BreathingHill$Land", "force", "I", false)
  | 3 => ("BreathingHill$Land", "fade", "I", false)
  | 4 => ("BreathingHill$Land", "held", "I", false)
  | 5 => ("BreathingHill$Land", "passageCount", "I", false)
  | 6 => ("BreathingHill$Land", "lengths", "[I", true)
  | 7 => ("BreathingHill$Land", "wides", "[I", true)
  | _ => ("BreathingHill$Land", "alters", "[I", true)
def tyX1 : Nat → FieldType := fun k => match k with
  | 0 => .array .int
  | 1 => .array .int
  | 2 => .int
  | 3 => .int
  | 4 => .int
  | 5 => .int
  | 6 => .array .int
  | 7 => .array .int
  | _ => .array .int
abbrev wsX10 : List Cond := u_ws RX1 TX1 9
theorem nmX1 : ∀ a, a < 9 → ∀ b, b < 9 → a ≠ b → (TX1 a).2.1 ≠ (TX1 b).2.1 := by decide +kernel
theorem tyX1_ok : ∀ k, k < 9 → parseFieldDescriptor (TX1 k).2.2.1 = some (tyX1 k) := by decide +kernel
def RX2 : String := "BreathingHill$LandReader"
def TX2 : u_T := fun k => match k with
  | 0 => ("BreathingHill$LandReader", "row", "[I", true)
  | 1 => ("BreathingHill$LandReader", "once", "[LBreathingHill$Token;", true)
  | _ => ("BreathingHill$LandReader", "onceCount", "I", false)
def tyX2 : Nat → FieldType := fun k => match k with
  | 0 => .array .int
  | 1 => .array (.object "BreathingHill$Token")
  | _ => .int
abbrev wsX20 : List Cond := u_ws RX2 TX2 3
theorem nmX2 : ∀ a, a < 3 → ∀ b, b < 3 → a ≠ b → (TX2 a).2.1 ≠ (TX2 b).2.1 := by decide +kernel
theorem tyX2_ok : ∀ k, k < 3 → parseFieldDescriptor (TX2 k).2.2.1 = some (tyX2 k) := by decide +kernel
def RX3 : String := "BreathingHill$Log"
def TX3 : u_T := fun k => match k with
  | 0 => ("BreathingHill$Log", "verbs", "[LBreathingHill$Token;", true)
  | 1 => ("BreathingHill$Log", "whose", "[I", true)
  | 2 => ("BreathingHill$Log", "numbers", "[I", true)
  | 3 => ("BreathingHill$Log", "lines", "I", false)
  | 4 => ("BreathingHill$Log", "why", "I", false)
  | _ => ("BreathingHill$Log", "done", "I", false)
def tyX3 : Nat → FieldType := fun k => match k with
  | 0 => .array (.object "BreathingHill$Token")
  | 1 => .array .int
  | 2 => .array .int
  | 3 => .int
  | 4 => .int
  | _ => .int
abbrev wsX30 : List Cond := u_ws RX3 TX3 6
theorem nmX3 : ∀ a, a < 6 → ∀ b, b < 6 → a ≠ b → (TX3 a).2.1 ≠ (TX3 b).2.1 := by decide +kernel
theorem tyX3_ok : ∀ k, k < 6 → parseFieldDescriptor (TX3 k).2.2.1 = some (tyX3 k) := by decide +kernel
def RX4 : String := "BreathingHill$Man"
def TX4 : u_T := fun k => match k with
  | 0 => ("BreathingHill$Man", "name", "J", false)
  | 1 => ("BreathingHill$Man", "valley", "I", false)
  | 2 => ("BreathingHill$Man", "cell", "I", false)
  | _ => ("BreathingHill$Man", "walked", "I", false)
def tyX4 : Nat → FieldType := fun k => match k with
  | 0 => .long
  | 1 => .int
  | 2 => .int
  | _ => .int
abbrev wsX40 : List Cond := u_ws RX4 TX4 4
theorem nmX4 : ∀ a, a < 4 → ∀ b, b < 4 → a ≠ b → (TX4 a).2.1 ≠ (TX4 b).2.1 := by decide +kernel
theorem tyX4_ok : ∀ k, k < 4 → parseFieldDescriptor (TX4 k).2.2.1 = some (tyX4 k) := by decide +kernel
def RX5 : String := "BreathingHill$Mill"
def TX5 : u_T := fun k => match k with
  | 0 => ("BreathingHill$Mill", "name", "J", false)
  | 1 => ("BreathingHill$Mill", "valley", "I", false)
  | 2 => ("BreathingHill$Mill", "cell", "I", false)
  | _ => ("BreathingHill$Mill", "turned", "I", false)
def tyX5 : Nat → FieldType := fun k => match k with
  | 0 => .long
  | 1 => .int
  | 2 => .int
  | _ => .int
abbrev wsX50 : List Cond := u_ws RX5 TX5 4
theorem nmX5 : ∀ a, a < 4 → ∀ b, b < 4 → a ≠ b → (TX5 a).2.1 ≠ (TX5 b).2.1 := by decide +kernel
theorem tyX5_ok : ∀ k, k < 4 → parseFieldDescriptor (TX5 k).2.2.1 = some (tyX5 k) := by decide +kernel
def RX6 : String := "BreathingHill$Sentence"
def TX6 : u_T := fun k => match k with
  | 0 => ("BreathingHill$Sentence", "steps", "[LBreathingHill$Token;", true)
  | 1 => ("BreathingHill$Sentence", "signs", "[LBreathingHill$Token;", true)
  | 2 => ("BreathingHill$Sentence", "numbers", "[I", true)
  | 3 => ("BreathingHill$Sentence", "sets", "[I", true)
  | 4 => ("BreathingHill$Sentence", "size", "I", false)
  | _ => ("BreathingHill$Sentence", "ones", "I", false)
def tyX6 : Nat → FieldType := fun k => match k with
  | 0 => .array (.object "BreathingHill$Token")
  | 1 => .array (.object "BreathingHill$Token")
  | 2 => .array .int
  | 3 => .array .int
  | 4 => .int
  | _ => .int
abbrev wsX60 : List Cond := u_ws RX6 TX6 6
theorem nmX6 : ∀ a, a < 6 → ∀ b, b < 6 → a ≠ b → (TX6 a).2.1 ≠ (TX6 b).2.1 := by decide +kernel
theorem tyX6_ok : ∀ k, k < 6 → parseFieldDescriptor (TX6 k).2.2.1 = some (tyX6 k) := by decide +kernel
def RX7 : String := "BreathingHill$Tape"
def TX7 : u_T := fun k => match k with
  | 0 => ("BreathingHill$Tape", "bytes", "[B", true)
  | 1 => ("BreathingHill$Tape", "size", "I", false)
  | 2 => ("BreathingHill$Tape", "limit", "I", false)
  | 3 => ("BreathingHill$Tape", "next", "I", false)
  | 4 => ("BreathingHill$Tape", "token", "LBreathingHill$Token;", false)
  | 5 => ("BreathingHill$Tape", "place", "I", false)
  | 6 => ("BreathingHill$Tape", "number", "I", false)
  | 7 => ("BreathingHill$Tape", "name", "J", false)
  | 8 => ("BreathingHill$Tape", "fault", "I", false)
  | _ => ("BreathingHill$Tape", "faultPlace", "I", false)
def tyX7 : Nat → FieldType := fun k => match k with
  | 0 => .array .byte
  | 1 => .int
  | 2 => .int
  | 3 => .int
  | 4 => .object "BreathingHill$Token"
  | 5 => .int
  | 6 => .int
  | 7 => .long
  | 8 => .int
  | _ => .int
abbrev wsX70 : List Cond := u_ws RX7 TX7 10
theorem nmX7 : ∀ a, a < 10 → ∀ b, b < 10 → a ≠ b → (TX7 a).2.1 ≠ (TX7 b).2.1 := by decide +kernel
theorem tyX7_ok : ∀ k, k < 10 → parseFieldDescriptor (TX7 k).2.2.1 = some (tyX7 k) := by decide +kernel
def RX8 : String := "BreathingHill$Thing"
def TX8 : u_T := fun k => match k with
  | 0 => ("BreathingHill$Thing", "name", "J", false)
  | 1 => ("BreathingHill$Thing", "home", "I", false)
  | 2 => ("BreathingHill$Thing", "weight", "I", false)
  | 3 => ("BreathingHill$Thing", "where", "I", false)
  | 4 => ("BreathingHill$Thing", "cell", "I", false)
  | 5 => ("BreathingHill$Thing", "passage", "I", false)
  | 6 => ("BreathingHill$Thing", "from", "I", false)
  | 7 => ("BreathingHill$Thing", "colour", "I", false)
  | 8 => ("BreathingHill$Thing", "tied", "Z", false)
  | _ => ("BreathingHill$Thing", "timesBeyond", "I", false)
def tyX8 : Nat → FieldType := fun k => match k with
  | 0 => .long
  | 1 => .int
  | 2 => .int
  | 3 => .int
  | 4 => .int
  | 5 => .int
  | 6 => .int
  | 7 => .int
  | 8 => .boolean
  | _ => .int
abbrev wsX80 : List Cond := u_ws RX8 TX8 10
theorem nmX8 : ∀ a, a < 10 → ∀ b, b < 10 → a ≠ b → (TX8 a).2.1 ≠ (TX8 b).2.1 := by decide +kernel
theorem tyX8_ok : ∀ k, k < 10 → parseFieldDescriptor (TX8 k).2.2.1 = some (tyX8 k) := by decide +kernel
def RX9 : String := "BreathingHill$Token"
def RX10 : String := "BreathingHill"
def TX10 : u_T := fun k => match k with
  | 0 => ("BreathingHill", "tape", "LBreathingHill$Tape;", true)
  | 1 => ("BreathingHill", "landReader", "LBreathingHill$LandReader;", true)
  | 2 => ("BreathingHill", "hill", "LBreathingHill$Hill;", true)
  | 3 => ("BreathingHill", "trial", "LBreathingHill$Hill;", true)
  | 4 => ("BreathingHill", "past", "[LBreathingHill$Hill;", true)
  | 5 => ("BreathingHill", "pastCount", "I", false)
  | 6 => ("BreathingHill", "sentence", "LBreathingHill$Sentence;", true)
  | 7 => ("BreathingHill", "told", "LBreathingHill$Sentence;", true)
  | 8 => ("BreathingHill", "imageHills", "[LBreathingHill$Hill;", true)
  | 9 => ("BreathingHill", "imageSentences", "[LBreathingHill$Sentence;", true)
  | 10 => ("BreathingHill", "imageKept", "[Z", true)
  | 11 => ("BreathingHill", "log", "LBreathingHill$Log;", true)
  | 12 => ("BreathingHill", "logged", "[I", true)
  | 13 => ("BreathingHill", "logKnown", "Z", false)
  | 14 => ("BreathingHill", "letter", "LBreathingHill$Thing;", true)
  | 15 => ("BreathingHill", "prices", "[I", true)
  | 16 => ("BreathingHill", "pricesKnown", "Z", false)
  | _ => ("BreathingHill", "faultKind", "I", false)
def tyX10 : Nat → FieldType := fun k => match k with
  | 0 => .object "BreathingHill$Tape"
  | 1 => .object "BreathingHill$LandReader"
  | 2 => .object "BreathingHill$Hill"
  | 3 => .object "BreathingHill$Hill"
  | 4 => .array (.object "BreathingHill$Hill")
  | 5 => .int
  | 6 => .object "BreathingHill$Sentence"
  | 7 => .object "BreathingHill$Sentence"
  | 8 => .array (.object "BreathingHill$Hill")
  | 9 => .array (.object "BreathingHill$Sentence")
  | 10 => .array .boolean
  | 11 => .object "BreathingHill$Log"
  | 12 => .array .int
  | 13 => .boolean
  | 14 => .object "BreathingHill$Thing"
  | 15 => .array .int
  | 16 => .boolean
  | _ => .int
abbrev wsX100 : List Cond := u_ws RX10 TX10 18
theorem nmX10 : ∀ a, a < 18 → ∀ b, b < 18 → a ≠ b → (TX10 a).2.1 ≠ (TX10 b).2.1 := by decide +kernel
theorem tyX10_ok : ∀ k, k < 18 → parseFieldDescriptor (TX10 k).2.2.1 = some (tyX10 k) := by decide +kernel
def RX11 : String := "BreathingHillModel"
def TX11 : u_T := fun k => match k with
  | 0 => ("BreathingHillModel", "thrown", "I", false)
  | 1 => ("BreathingHillModel", "tape", "[B", true)
  | 2 => ("BreathingHillModel", "length", "I", false)
  | 3 => ("BreathingHillModel", "size", "I", false)
  | 4 => ("BreathingHillModel", "p", "I", false)
  | 5 => ("BreathingHillModel", "limit", "I", false)
  | 6 => ("BreathingHillModel", "s", "[I", true)
  | 7 => ("BreathingHillModel", "h", "[I", true)
  | 8 => ("BreathingHillModel", "read", "[I", true)
  | 9 => ("BreathingHillModel", "names", "[J", true)
  | 10 => ("BreathingHillModel", "reserved", "[J", true)
  | 11 => ("BreathingHillModel", "token", "I", false)
  | 12 => ("BreathingHillModel", "at", "I", false)
  | 13 => ("BreathingHillModel", "span", "I", false)
  | 14 => ("BreathingHillModel", "number", "I", false)
  | 15 => ("BreathingHillModel", "fault", "I", false)
  | 16 => ("BreathingHillModel", "faultAt", "I", false)
  | 17 => ("BreathingHillModel", "word", "J", false)
  | 18 => ("BreathingHillModel", "got", "I", false)
  | 19 => ("BreathingHillModel", "lines", "I", false)
  | 20 => ("BreathingHillModel", "onces", "I", false)
  | 21 => ("BreathingHillModel", "where", "I", false)
  | 22 => ("BreathingHillModel", "cell", "I", false)
  | 23 => ("BreathingHillModel", "pass", "I", false)
  | 24 => ("BreathingHillModel", "from", "I", false)
  | 25 => ("BreathingHillModel", "came", "Z", false)
  | 26 => ("BreathingHillModel", "undone", "[I", true)
  | 27 => ("BreathingHillModel", "before", "[I", true)
  | 28 => ("BreathingHillModel", "undoMany", "I", false)
  | 29 => ("BreathingHillModel", "priceRow", "[I", true)
  | 30 => ("BreathingHillModel", "hasPrices", "Z", false)
  | 31 => ("BreathingHillModel", "seed", "I", false)
  | 32 => ("BreathingHillModel", "told", "I", false)
  | 33 => ("BreathingHillModel", "loggedAt", "[I", true)
  | 34 => ("BreathingHillModel", "hasLogged", "Z", false)
  | 35 => ("BreathingHillModel", "stack", "[I", true)
  | 36 => ("BreathingHillModel", "codes", "I", false)
  | 37 => ("BreathingHillModel", "ones", "I", false)
  | 38 => ("BreathingHillModel", "top", "I", false)
  | 39 => ("BreathingHillModel", "deep", "I", false)
  | 40 => ("BreathingHillModel", "isWhole", "Z", false)
  | 41 => ("BreathingHillModel", "truths", "[Z", true)
  | 42 => ("BreathingHillModel", "kept", "[I", true)
  | 43 => ("BreathingHillModel", "namesKept", "[J", true)
  | _ => ("BreathingHillModel", "areKept", "[Z", true)
def tyX11 : Nat → FieldType := fun k => match k with
  | 0 => .int
  | 1 => .array .byte
  | 2 => .int
  | 3 => .int
  | 4 => .int
  | 5 => .int
  | 6 => .array .int
  | 7 => .array .int
  | 8 => .array .int
  | 9 => .array .long
  | 10 => .array .long
  | 11 => .int
  | 12 => .int
  | 13 => .int
  | 14 => .int
  | 15 => .int
  | 16 => .int
  | 17 => .long
  | 18 => .int
  | 19 => .int
  | 20 => .int
  | 21 => .int
  | 22 => .int
  | 23 => .int
  | 24 => .int
  | 25 => .boolean
  | 26 => .array .int
  | 27 => .array .int
  | 28 => .int
  | 29 => .array .int
  | 30 => .boolean
  | 31 => .int
  | 32 => .int
  | 33 => .array .int
  | 34 => .boolean
  | 35 => .array .int
  | 36 => .int
  | 37 => .int
  | 38 => .int
  | 39 => .int
  | 40 => .boolean
  | 41 => .array .boolean
  | 42 => .array .int
  | 43 => .array .long
  | _ => .array .boolean
abbrev wsX110 : List Cond := u_ws RX11 TX11 45
theorem nmX11 : ∀ a, a < 45 → ∀ b, b < 45 → a ≠ b → (TX11 a).2.1 ≠ (TX11 b).2.1 := by decide +kernel
theorem tyX11_ok : ∀ k, k < 45 → parseFieldDescriptor (TX11 k).2.2.1 = some (tyX11 k) := by decide +kernel
abbrev vwCl : List vw_C := [(RX0, TX0, 8), (RX1, TX1, 9), (RX2, TX2, 3), (RX3, TX3, 6), (RX4, TX4, 4), (RX5, TX5, 4), (RX6, TX6, 6), (RX7, TX7, 10), (RX8, TX8, 10), (RX10, TX10, 18), (RX11, TX11, 45)]
end
section
/-- the classes that own code, by number -/
def pm_own (n : Nat) : String := match n with
  | 0 => "BreathingHill"
  | 1 => "java/lang/Object"
  | 2 => "BreathingHill$Tape"
  | 3 => "BreathingHill$LandReader"
  | 4 => "BreathingHill$Hill"
  | 5 => "BreathingHill$Land"
  | 6 => "BreathingHill$Thing"
  | 7 => "BreathingHill$Mill"
  | 8 => "BreathingHill$Man"
  | 9 => "BreathingHill$Sentence"
  | 10 => "BreathingHill$Log"
  | 11 => "java/lang/Math"
  | 12 => "java/lang/Integer"
  | 13 => "java/lang/Throwable"
  | 14 => "java/util/NoSuchElementException"
  | 15 => "java/lang/RuntimeException"
  | 16 => "java/lang/Exception"
  | 17 => "BreathingHillModel"
  | _ => "BreathingHillLaw"
/-- a method: name, the place of its code word, locals, what it returns, its class by number, its parameters, static, the class of its receiver in vwCl, the places of its words: initialized, instanceMethod or static, selects -/
abbrev pM : Type := MethodName × Nat × Nat × Option FieldType × Nat × Nat × Bool × Nat × Nat × Nat × Nat
def pm_tab0 : List (pM) := [
  (⟨"BreathingHill", "<init>", "()V"⟩, 114, 2, none, 0, 0, false, 9, 91, 113, 0),
  (⟨"java/lang/Object", "<init>", "()V"⟩, 117, 1, none, 1, 0, false, 99, 0, 116, 0),
  (⟨"BreathingHill$Tape", "<init>", "()V"⟩, 122, 1, none, 2, 0, false, 7, 92, 121, 0),
  (⟨"BreathingHill$LandReader", "<init>", "()V"⟩, 170, 1, none, 3, 0, false, 2, 95, 169, 0),
  (⟨"BreathingHill$Hill", "<init>", "()V"⟩, 189, 2, none, 4, 0, false, 0, 96, 188, 0),
  (⟨"BreathingHill$Land", "<init>", "()V"⟩, 195, 1, none, 5, 0, false, 1, 97, 194, 0),
  (⟨"BreathingHill$Thing", "<init>", "()V"⟩, 250, 1, none, 6, 0, false, 8, 98, 249, 0),
  (⟨"BreathingHill$Mill", "<init>", "()V"⟩, 306, 1, none, 7, 0, false, 5, 99, 305, 0),
  (⟨"BreathingHill$Man", "<init>", "()V"⟩, 332, 1, none, 8, 0, false, 4, 100, 331, 0),
  (⟨"BreathingHill$Sentence", "<init>", "()V"⟩, 406, 1, none, 9, 0, false, 6, 101, 405, 0),
  (⟨"BreathingHill$Log", "<init>", "()V"⟩, 434, 1, none, 10, 0, false, 3, 102, 433, 0),
  (⟨"BreathingHill", "feed", "(IIIII)I"⟩, 519, 6, some (FieldType.int), 0, 5, false, 9, 91, 517, 518),
  (⟨"BreathingHill$Tape", "hasRoomFor", "(I)Z"⟩, 523, 2, some (FieldType.boolean), 2, 1, false, 7, 92, 521, 522),
  (⟨"BreathingHill$Tape", "addNumber", "(I)V"⟩, 527, 3, none, 2, 1, false, 7, 92, 525, 526),
  (⟨"BreathingHill", "end", "(I)Z"⟩, 531, 2, some (FieldType.boolean), 0, 1, false, 9, 91, 529, 530),
  (⟨"BreathingHill$Tape", "cutTo", "(I)Z"⟩, 535, 2, some (FieldType.boolean), 2, 1, false, 7, 92, 533, 534),
  (⟨"BreathingHill", "land", "()I"⟩, 539, 2, some (FieldType.int), 0, 0, false, 9, 91, 537, 538),
  (⟨"BreathingHill$LandReader", "readLand", "(LBreathingHill$Tape;LBreathingHill$Hill;)I"⟩, 543, 4, some (FieldType.int), 3, 2, false, 2, 95, 541, 542),
  (⟨"BreathingHill$Hill", "makeEmpty", "()V"⟩, 547, 1, none, 4, 0, false, 0, 96, 545, 546),
  (⟨"BreathingHill$Land", "makeEmpty", "()V"⟩, 551, 1, none, 5, 0, false, 1, 97, 549, 550),
  (⟨"BreathingHill$Tape", "beginText", "(I)V"⟩, 555, 2, none, 2, 1, false, 7, 92, 553, 554),
  (⟨"BreathingHill$Tape", "readToken", "()V"⟩, 559, 3, none, 2, 0, false, 7, 92, 557, 558),
  (⟨"BreathingHill$Tape", "isBlank", "(I)Z"⟩, 562, 1, some (FieldType.boolean), 2, 1, true, 7, 92, 561, 0),
  (⟨"BreathingHill$Tape", "isLetterOrDigit", "(I)Z"⟩, 567, 1, some (FieldType.boolean), 2, 1, true, 7, 92, 566, 0),
  (⟨"BreathingHill$Tape", "tokenSpelt", "(JLBreathingHill$Token;)LBreathingHill$Token;"⟩, 571, 4, some ((FieldType.object "BreathingHill$Token")), 2, 2, true, 7, 92, 570, 0),
  (⟨"BreathingHill$LandReader", "readLine", "(LBreathingHill$Tape;LBreathingHill$Hill;)Z"⟩, 582, 4, some (FieldType.boolean), 3, 2, false, 2, 95, 581, 0),
  (⟨"BreathingHill$LandReader", "readPassage", "(LBreathingHill$Tape;LBreathingHill$Land;)Z"⟩, 588, 4, some (FieldType.boolean), 3, 2, false, 2, 95, 587, 1),
  (⟨"BreathingHill$Tape", "refuse", "(I)Z"⟩, 592, 2, some (FieldType.boolean), 2, 1, false, 7, 92, 590, 591),
  (⟨"BreathingHill$Tape", "takeNumber", "(II[II)Z"⟩, 597, 5, some (FieldType.boolean), 2, 4, false, 7, 92, 595, 596),
  (⟨"BreathingHill$LandReader", "readThing", "(LBreathingHill$Tape;LBreathingHill$Hill;)Z"⟩, 604, 4, some (FieldType.boolean), 3, 2, false, 2, 95, 603, 2),
  (⟨"BreathingHill$LandReader", "readNameAndCell", "(LBreathingHill$Tape;LBreathingHill$Hill;)Z"⟩, 608, 3, some (FieldType.boolean), 3, 2, false, 2, 95, 607, 3),
  (⟨"BreathingHill$Hill", "isTold", "(J)Z"⟩, 613, 4, some (FieldType.boolean), 4, 1, false, 0, 96, 611, 612),
  (⟨"BreathingHill$Hill", "thingNamed", "(J)I"⟩, 617, 4, some (FieldType.int), 4, 1, false, 0, 96, 615, 616),
  (⟨"BreathingHill$Hill", "manNamed", "(J)I"⟩, 621, 4, some (FieldType.int), 4, 1, false, 0, 96, 619, 620),
  (⟨"BreathingHill$Land", "cellsOf", "(I)I"⟩, 625, 2, some (FieldType.int), 5, 1, false, 1, 97, 623, 624),
  (⟨"BreathingHill$Thing", "put", "(III)V"⟩, 629, 4, none, 6, 3, false, 8, 98, 627, 628),
  (⟨"BreathingHill$Thing", "comeOut", "(I)V"⟩, 633, 2, none, 6, 1, false, 8, 98, 631, 632),
  (⟨"BreathingHill$LandReader", "readMill", "(LBreathingHill$Tape;LBreathingHill$Hill;)Z"⟩, 641, 4, some (FieldType.boolean), 3, 2, false, 2, 95, 640, 4),
  (⟨"BreathingHill$LandReader", "readMan", "(LBreathingHill$Tape;LBreathingHill$Hill;)Z"⟩, 647, 4, some (FieldType.boolean), 3, 2, false, 2, 95, 646, 5),
  (⟨"BreathingHill$LandReader", "readLong", "(LBreathingHill$Tape;LBreathingHill$Hill;)Z"⟩, 653, 4, some (FieldType.boolean), 3, 2, false, 2, 95, 652, 6),
  (⟨"BreathingHill$LandReader", "beginOnce", "(LBreathingHill$Tape;)Z"⟩, 657, 3, some (FieldType.boolean), 3, 1, false, 2, 95, 656, 7),
  (⟨"BreathingHill$LandReader", "readBreath", "(LBreathingHill$Tape;LBreathingHill$Land;)Z"⟩, 663, 3, some (FieldType.boolean), 3, 2, false, 2, 95, 662, 8),
  (⟨"BreathingHill$LandReader", "readSetting", "(LBreathingHill$Tape;LBreathingHill$Land;)Z"⟩, 667, 4, some (FieldType.boolean), 3, 2, false, 2, 95, 666, 9),
  (⟨"BreathingHill$LandReader", "readForce", "(LBreathingHill$Tape;LBreathingHill$Land;)Z"⟩, 673, 3, some (FieldType.boolean), 3, 2, false, 2, 95, 672, 10),
  (⟨"BreathingHill$LandReader", "readFade", "(LBreathingHill$Tape;LBreathingHill$Land;)Z"⟩, 679, 3, some (FieldType.boolean), 3, 2, false, 2, 95, 678, 11)]
def pm_tab1 : List (pM) := [
  (⟨"BreathingHill$LandReader", "readHeld", "(LBreathingHill$Tape;LBreathingHill$Land;)Z"⟩, 685, 3, some (FieldType.boolean), 3, 2, false, 2, 95, 684, 12),
  (⟨"BreathingHill$Tape", "take", "(LBreathingHill$Token;)Z"⟩, 691, 2, some (FieldType.boolean), 2, 1, false, 7, 92, 689, 690),
  (⟨"BreathingHill$Hill", "copyFrom", "(LBreathingHill$Hill;)V"⟩, 695, 3, none, 4, 1, false, 0, 96, 693, 694),
  (⟨"BreathingHill$Land", "copyFrom", "(LBreathingHill$Land;)V"⟩, 699, 3, none, 5, 1, false, 1, 97, 697, 698),
  (⟨"BreathingHill$Thing", "copyFrom", "(LBreathingHill$Thing;)V"⟩, 703, 2, none, 6, 1, false, 8, 98, 701, 702),
  (⟨"BreathingHill$Mill", "copyFrom", "(LBreathingHill$Mill;)V"⟩, 707, 2, none, 7, 1, false, 5, 99, 705, 706),
  (⟨"BreathingHill$Man", "copyFrom", "(LBreathingHill$Man;)V"⟩, 711, 2, none, 8, 1, false, 4, 100, 709, 710),
  (⟨"BreathingHill$Sentence", "forget", "()V"⟩, 715, 1, none, 9, 0, false, 6, 101, 713, 714),
  (⟨"BreathingHill", "fault", "()I"⟩, 719, 1, some (FieldType.int), 0, 0, false, 9, 91, 717, 718),
  (⟨"BreathingHill", "mill", "(II)I"⟩, 723, 4, some (FieldType.int), 0, 2, false, 9, 91, 721, 722),
  (⟨"BreathingHill$Hill", "hasMill", "(I)Z"⟩, 727, 2, some (FieldType.boolean), 4, 1, false, 0, 96, 725, 726),
  (⟨"BreathingHill", "man", "(II)I"⟩, 731, 4, some (FieldType.int), 0, 2, false, 9, 91, 729, 730),
  (⟨"BreathingHill$Hill", "hasMan", "(I)Z"⟩, 735, 2, some (FieldType.boolean), 4, 1, false, 0, 96, 733, 734),
  (⟨"BreathingHill", "passage", "(II)I"⟩, 739, 4, some (FieldType.int), 0, 2, false, 9, 91, 737, 738),
  (⟨"BreathingHill$Land", "hasPassage", "(I)Z"⟩, 743, 2, some (FieldType.boolean), 5, 1, false, 1, 97, 741, 742),
  (⟨"BreathingHill$Hill", "thingsInPassage", "(I)I"⟩, 747, 4, some (FieldType.int), 4, 1, false, 0, 96, 745, 746),
  (⟨"BreathingHill", "now", "(I)I"⟩, 751, 2, some (FieldType.int), 0, 1, false, 9, 91, 749, 750),
  (⟨"BreathingHill$Land", "breathOf", "(I)I"⟩, 755, 3, some (FieldType.int), 5, 1, false, 1, 97, 753, 754),
  (⟨"BreathingHill$Land", "breathHours", "()I"⟩, 759, 1, some (FieldType.int), 5, 0, false, 1, 97, 757, 758),
  (⟨"BreathingHill$Land", "airIn", "(II)I"⟩, 763, 6, some (FieldType.int), 5, 2, false, 1, 97, 761, 762),
  (⟨"BreathingHill", "isHour", "(I)Z"⟩, 766, 1, some (FieldType.boolean), 0, 1, true, 9, 91, 765, 0),
  (⟨"BreathingHill$Hill", "thingsAt", "(I)I"⟩, 770, 4, some (FieldType.int), 4, 1, false, 0, 96, 768, 769),
  (⟨"BreathingHill", "air", "(II)I"⟩, 774, 3, some (FieldType.int), 0, 2, false, 9, 91, 772, 773),
  (⟨"BreathingHill", "isValley", "(I)Z"⟩, 777, 1, some (FieldType.boolean), 0, 1, true, 9, 91, 776, 0),
  (⟨"BreathingHill", "force", "(II)I"⟩, 782, 3, some (FieldType.int), 0, 2, false, 9, 91, 780, 781),
  (⟨"BreathingHill$Land", "hasCell", "(II)Z"⟩, 786, 3, some (FieldType.boolean), 5, 2, false, 1, 97, 784, 785),
  (⟨"BreathingHill$Land", "forceIn", "(I)I"⟩, 791, 3, some (FieldType.int), 5, 1, false, 1, 97, 789, 790),
  (⟨"BreathingHill", "count", "(I)I"⟩, 795, 2, some (FieldType.int), 0, 1, false, 9, 91, 793, 794),
  (⟨"BreathingHill", "tie", "(II)I"⟩, 800, 3, some (FieldType.int), 0, 2, false, 9, 91, 798, 799),
  (⟨"BreathingHill$Hill", "hasThing", "(I)Z"⟩, 804, 2, some (FieldType.boolean), 4, 1, false, 0, 96, 802, 803),
  (⟨"BreathingHill$Thing", "beTied", "()I"⟩, 808, 1, some (FieldType.int), 6, 0, false, 8, 98, 806, 807),
  (⟨"BreathingHill$Thing", "beLoosed", "()I"⟩, 812, 1, some (FieldType.int), 6, 0, false, 8, 98, 810, 811),
  (⟨"BreathingHill", "keptIfDone", "(I)I"⟩, 816, 2, some (FieldType.int), 0, 1, false, 9, 91, 815, 13),
  (⟨"BreathingHill", "keepPast", "(LBreathingHill$Hill;)V"⟩, 820, 4, none, 0, 1, false, 9, 91, 819, 14),
  (⟨"BreathingHill", "walk", "(II)I"⟩, 824, 3, some (FieldType.int), 0, 2, false, 9, 91, 822, 823),
  (⟨"BreathingHill$Hill", "canName", "(II)Z"⟩, 828, 3, some (FieldType.boolean), 4, 2, false, 0, 96, 826, 827),
  (⟨"BreathingHill$Hill", "walkMan", "(II)I"⟩, 834, 6, some (FieldType.int), 4, 2, false, 0, 96, 832, 833),
  (⟨"BreathingHill$Man", "hoursTo", "(LBreathingHill$Land;II)I"⟩, 839, 6, some (FieldType.int), 8, 3, false, 4, 100, 837, 838),
  (⟨"BreathingHill$Man", "cellAfter", "(LBreathingHill$Land;III)I"⟩, 843, 8, some (FieldType.int), 8, 4, false, 4, 100, 842, 15),
  (⟨"BreathingHill$Man", "walkOneHour", "(LBreathingHill$Land;II)V"⟩, 855, 4, none, 8, 3, false, 4, 100, 853, 854),
  (⟨"BreathingHill$Hill", "passOneHour", "()V"⟩, 859, 2, none, 4, 0, false, 0, 96, 858, 16),
  (⟨"BreathingHill$Thing", "passHour", "(LBreathingHill$Land;I)V"⟩, 863, 4, none, 6, 2, false, 8, 98, 861, 862),
  (⟨"BreathingHill$Thing", "goInside", "(LBreathingHill$Land;I)V"⟩, 868, 3, none, 6, 2, false, 8, 98, 867, 17),
  (⟨"BreathingHill$Thing", "beCarriedOut", "(LBreathingHill$Land;)V"⟩, 873, 2, none, 6, 1, false, 8, 98, 872, 18),
  (⟨"BreathingHill$Thing", "beCarriedIn", "(LBreathingHill$Land;)V"⟩, 879, 4, none, 6, 1, false, 8, 98, 878, 19)]
def pm_tab2 : List (pM) := [
  (⟨"BreathingHill$Land", "passageFor", "(I)I"⟩, 886, 3, some (FieldType.int), 5, 1, false, 1, 97, 884, 885),
  (⟨"BreathingHill$Thing", "goInto", "(I)V"⟩, 890, 2, none, 6, 1, false, 8, 98, 888, 889),
  (⟨"BreathingHill$Mill", "passHour", "(LBreathingHill$Land;I)V"⟩, 894, 3, none, 7, 2, false, 5, 99, 892, 893),
  (⟨"BreathingHill", "cough", "()I"⟩, 900, 1, some (FieldType.int), 0, 0, false, 9, 91, 898, 899),
  (⟨"BreathingHill$Hill", "coughOut", "()I"⟩, 904, 3, some (FieldType.int), 4, 0, false, 0, 96, 902, 903),
  (⟨"BreathingHill", "hours", "(I)I"⟩, 910, 2, some (FieldType.int), 0, 1, false, 9, 91, 908, 909),
  (⟨"BreathingHill$Hill", "passHours", "(I)I"⟩, 914, 3, some (FieldType.int), 4, 1, false, 0, 96, 912, 913),
  (⟨"BreathingHill", "keptIfGone", "(I)I"⟩, 918, 2, some (FieldType.int), 0, 1, false, 9, 91, 917, 20),
  (⟨"BreathingHill", "drawn", "(II)I"⟩, 922, 3, some (FieldType.int), 0, 2, false, 9, 91, 920, 921),
  (⟨"BreathingHill$Hill", "passDrawnHours", "(II)I"⟩, 926, 5, some (FieldType.int), 4, 2, false, 0, 96, 924, 925),
  (⟨"BreathingHill$Hill", "nextDraw", "(I)I"⟩, 929, 1, some (FieldType.int), 4, 1, true, 0, 96, 928, 0),
  (⟨"BreathingHill$Hill", "drawOf", "(II)I"⟩, 933, 2, some (FieldType.int), 4, 2, true, 0, 96, 932, 0),
  (⟨"BreathingHill$Hill", "looseOrTie", "(I)V"⟩, 937, 2, none, 4, 1, false, 0, 96, 936, 21),
  (⟨"BreathingHill", "undo", "()I"⟩, 945, 1, some (FieldType.int), 0, 0, false, 9, 91, 943, 944),
  (⟨"BreathingHill", "letter", "(IIII)I"⟩, 949, 5, some (FieldType.int), 0, 4, false, 9, 91, 947, 948),
  (⟨"BreathingHill", "canLetGo", "(III)Z"⟩, 953, 4, some (FieldType.boolean), 0, 3, false, 9, 91, 952, 22),
  (⟨"BreathingHill", "hoursOfLetter", "(IIII)I"⟩, 957, 6, some (FieldType.int), 0, 4, false, 9, 91, 956, 23),
  (⟨"BreathingHill", "heaviest", "(IIII)I"⟩, 963, 7, some (FieldType.int), 0, 4, false, 9, 91, 961, 962),
  (⟨"BreathingHill", "best", "(III)I"⟩, 967, 9, some (FieldType.int), 0, 3, false, 9, 91, 965, 966),
  (⟨"BreathingHill", "soonest", "(II)I"⟩, 971, 3, some (FieldType.int), 0, 2, false, 9, 91, 969, 970),
  (⟨"BreathingHill", "reach", "(II)I"⟩, 976, 8, some (FieldType.int), 0, 2, false, 9, 91, 974, 975),
  (⟨"BreathingHill", "dry", "(III)I"⟩, 981, 6, some (FieldType.int), 0, 3, false, 9, 91, 979, 980),
  (⟨"BreathingHill", "which", "()I"⟩, 985, 5, some (FieldType.int), 0, 0, false, 9, 91, 983, 984),
  (⟨"BreathingHill$Tape", "byteAt", "(I)I"⟩, 989, 2, some (FieldType.int), 2, 1, false, 7, 92, 987, 988),
  (⟨"BreathingHill", "hoursInside", "(III)I"⟩, 993, 5, some (FieldType.int), 0, 3, false, 9, 91, 992, 24),
  (⟨"BreathingHill", "ties", "(II)I"⟩, 998, 6, some (FieldType.int), 0, 2, false, 9, 91, 996, 997),
  (⟨"BreathingHill$Hill", "thingsLoose", "()I"⟩, 1002, 3, some (FieldType.int), 4, 0, false, 0, 96, 1000, 1001),
  (⟨"BreathingHill$Thing", "isLoose", "()Z"⟩, 1006, 1, some (FieldType.boolean), 6, 0, false, 8, 98, 1004, 1005),
  (⟨"BreathingHill", "turn", "(I)I"⟩, 1011, 4, some (FieldType.int), 0, 1, false, 9, 91, 1009, 1010),
  (⟨"BreathingHill", "guard", "(I)I"⟩, 1015, 7, some (FieldType.int), 0, 1, false, 9, 91, 1013, 1014),
  (⟨"BreathingHill$Hill", "countLooseNear", "(III)I"⟩, 1019, 7, some (FieldType.int), 4, 3, false, 0, 96, 1017, 1018),
  (⟨"BreathingHill", "prices", "()I"⟩, 1024, 3, some (FieldType.int), 0, 0, false, 9, 91, 1022, 1023),
  (⟨"java/lang/Integer", "bitCount", "(I)I"⟩, 1027, 1, some (FieldType.int), 12, 1, true, 99, 109, 1026, 0),
  (⟨"BreathingHill", "price", "(I)I"⟩, 1034, 2, some (FieldType.int), 0, 1, false, 9, 91, 1032, 1033),
  (⟨"BreathingHill", "later", "(II)I"⟩, 1038, 4, some (FieldType.int), 0, 2, false, 9, 91, 1036, 1037),
  (⟨"BreathingHill", "meet", "(II)I"⟩, 1042, 4, some (FieldType.int), 0, 2, false, 9, 91, 1040, 1041),
  (⟨"BreathingHill$Thing", "isWith", "(LBreathingHill$Thing;)Z"⟩, 1046, 2, some (FieldType.boolean), 6, 1, false, 8, 98, 1044, 1045),
  (⟨"BreathingHill", "odds", "(III)I"⟩, 1050, 6, some (FieldType.int), 0, 3, false, 9, 91, 1048, 1049),
  (⟨"BreathingHill$Thing", "isBeyond", "()Z"⟩, 1054, 1, some (FieldType.boolean), 6, 0, false, 8, 98, 1052, 1053),
  (⟨"BreathingHill", "log", "(I)I"⟩, 1058, 3, some (FieldType.int), 0, 1, false, 9, 91, 1056, 1057),
  (⟨"BreathingHill$Log", "readLog", "(LBreathingHill$Tape;LBreathingHill$Hill;)Z"⟩, 1062, 4, some (FieldType.boolean), 10, 2, false, 3, 102, 1060, 1061),
  (⟨"BreathingHill$Log", "readLine", "(LBreathingHill$Tape;LBreathingHill$Hill;)Z"⟩, 1068, 6, some (FieldType.boolean), 10, 2, false, 3, 102, 1067, 25),
  (⟨"BreathingHill$Log", "liveOn", "(LBreathingHill$Hill;)V"⟩, 1091, 2, none, 10, 1, false, 3, 102, 1089, 1090),
  (⟨"BreathingHill$Log", "liveLine", "(LBreathingHill$Hill;LBreathingHill$Token;II)I"⟩, 1094, 4, some (FieldType.int), 10, 4, true, 3, 102, 1093, 0),
  (⟨"BreathingHill$Log", "reason", "(II)I"⟩, 1099, 2, some (FieldType.int), 10, 2, true, 3, 102, 1098, 0)]
def pm_tab3 : List (pM) := [
  (⟨"BreathingHill", "logged", "(I)I"⟩, 1108, 2, some (FieldType.int), 0, 1, false, 9, 91, 1106, 1107),
  (⟨"BreathingHill", "sentence", "()I"⟩, 1112, 2, some (FieldType.int), 0, 0, false, 9, 91, 1110, 1111),
  (⟨"BreathingHill$Sentence", "readSentence", "(LBreathingHill$Tape;)Z"⟩, 1116, 2, some (FieldType.boolean), 9, 1, false, 6, 101, 1114, 1115),
  (⟨"BreathingHill$Sentence", "readCond", "(LBreathingHill$Tape;I)Z"⟩, 1122, 4, some (FieldType.boolean), 9, 2, false, 6, 101, 1121, 26),
  (⟨"BreathingHill$Sentence", "readAll", "(LBreathingHill$Tape;I)Z"⟩, 1126, 4, some (FieldType.boolean), 9, 2, false, 6, 101, 1125, 27),
  (⟨"BreathingHill$Sentence", "readOne", "(LBreathingHill$Tape;I)Z"⟩, 1130, 4, some (FieldType.boolean), 9, 2, false, 6, 101, 1129, 28),
  (⟨"BreathingHill$Sentence", "isPlain", "(LBreathingHill$Token;)Z"⟩, 1137, 1, some (FieldType.boolean), 9, 1, true, 6, 101, 1136, 0),
  (⟨"BreathingHill$Sentence", "isCompared", "(LBreathingHill$Token;)Z"⟩, 1147, 1, some (FieldType.boolean), 9, 1, true, 6, 101, 1146, 0),
  (⟨"BreathingHill$Sentence", "addStep", "(LBreathingHill$Token;LBreathingHill$Token;)Z"⟩, 1165, 3, some (FieldType.boolean), 9, 2, false, 6, 101, 1164, 29),
  (⟨"BreathingHill$Sentence", "readCompared", "(LBreathingHill$Tape;LBreathingHill$Token;)Z"⟩, 1169, 4, some (FieldType.boolean), 9, 2, false, 6, 101, 1168, 30),
  (⟨"BreathingHill$Sentence", "copyFrom", "(LBreathingHill$Sentence;)V"⟩, 1184, 3, none, 9, 1, false, 6, 101, 1182, 1183),
  (⟨"BreathingHill", "said", "(I)I"⟩, 1188, 5, some (FieldType.int), 0, 1, false, 9, 91, 1186, 1187),
  (⟨"BreathingHill$Sentence", "isTold", "()Z"⟩, 1192, 1, some (FieldType.boolean), 9, 0, false, 6, 101, 1190, 1191),
  (⟨"BreathingHill$Sentence", "thingsSaid", "(LBreathingHill$Hill;)I"⟩, 1196, 6, some (FieldType.int), 9, 1, false, 6, 101, 1194, 1195),
  (⟨"BreathingHill$Sentence", "thingsThat", "(LBreathingHill$Hill;LBreathingHill$Token;LBreathingHill$Token;I)I"⟩, 1199, 8, some (FieldType.int), 9, 4, true, 6, 101, 1198, 0),
  (⟨"BreathingHill$Sentence", "isSo", "(LBreathingHill$Thing;LBreathingHill$Token;)Z"⟩, 1202, 2, some (FieldType.boolean), 9, 2, true, 6, 101, 1201, 0),
  (⟨"BreathingHill$Sentence", "valueOf", "(LBreathingHill$Thing;ILBreathingHill$Token;)I"⟩, 1206, 3, some (FieldType.int), 9, 3, true, 6, 101, 1205, 0),
  (⟨"BreathingHill$Sentence", "isSo", "(ILBreathingHill$Token;I)Z"⟩, 1209, 3, some (FieldType.boolean), 9, 3, true, 6, 101, 1208, 0),
  (⟨"BreathingHill", "image", "(I)Z"⟩, 1213, 2, some (FieldType.boolean), 0, 1, false, 9, 91, 1211, 1212),
  (⟨"BreathingHill", "restore", "(I)Z"⟩, 1217, 2, some (FieldType.boolean), 0, 1, false, 9, 91, 1215, 1216),
  (⟨"BreathingHill", "thing", "(II)I"⟩, 1225, 4, some (FieldType.int), 0, 2, false, 9, 91, 1223, 1224),
  (⟨"BreathingHillModel", "feed", "(IIIII)I"⟩, 1294, 6, some (FieldType.int), 17, 5, false, 10, 103, 1292, 1293),
  (⟨"BreathingHillModel", "four", "(I)V"⟩, 1299, 3, none, 17, 1, false, 10, 103, 1297, 32),
  (⟨"BreathingHillModel", "end", "(I)Z"⟩, 1303, 2, some (FieldType.boolean), 17, 1, false, 10, 103, 1301, 1302),
  (⟨"BreathingHillModel", "<init>", "()V"⟩, 1307, 2, none, 17, 0, false, 10, 103, 1306, 0),
  (⟨"BreathingHillModel", "clears", "()V"⟩, 1337, 2, none, 17, 0, false, 10, 103, 1336, 33),
  (⟨"BreathingHillModel", "land", "()I"⟩, 1478, 2, some (FieldType.int), 17, 0, false, 10, 103, 1476, 1477),
  (⟨"BreathingHillModel", "taken", "(I)V"⟩, 1482, 2, none, 17, 1, false, 10, 103, 1481, 34),
  (⟨"BreathingHillModel", "next", "()V"⟩, 1486, 4, none, 17, 0, false, 10, 103, 1485, 35),
  (⟨"BreathingHillModel", "peek", "()I"⟩, 1490, 1, some (FieldType.int), 17, 0, false, 10, 103, 1489, 36),
  (⟨"BreathingHillModel", "isSmall", "(I)Z"⟩, 1493, 1, some (FieldType.boolean), 17, 1, true, 10, 103, 1492, 0),
  (⟨"BreathingHillModel", "isDigit", "(I)Z"⟩, 1496, 1, some (FieldType.boolean), 17, 1, true, 10, 103, 1495, 0),
  (⟨"BreathingHillModel", "line", "()Z"⟩, 1500, 2, some (FieldType.boolean), 17, 0, false, 10, 103, 1499, 37),
  (⟨"BreathingHillModel", "isWord", "(J)Z"⟩, 1504, 3, some (FieldType.boolean), 17, 1, false, 10, 103, 1503, 38),
  (⟨"BreathingHillModel", "isOnce", "(I)Z"⟩, 1508, 2, some (FieldType.boolean), 17, 1, false, 10, 103, 1507, 39),
  (⟨"BreathingHillModel", "bitOf", "(II)Z"⟩, 1511, 2, some (FieldType.boolean), 17, 2, true, 10, 103, 1510, 0),
  (⟨"BreathingHillModel", "bad", "(I)Z"⟩, 1515, 2, some (FieldType.boolean), 17, 1, false, 10, 103, 1514, 40),
  (⟨"BreathingHillModel", "puts", "(III)Z"⟩, 1519, 4, some (FieldType.boolean), 17, 3, false, 10, 103, 1518, 41),
  (⟨"BreathingHillModel", "takes", "(II)Z"⟩, 1523, 3, some (FieldType.boolean), 17, 2, false, 10, 103, 1522, 42),
  (⟨"BreathingHillModel", "isIn", "(III)Z"⟩, 1526, 3, some (FieldType.boolean), 17, 3, true, 10, 103, 1525, 0),
  (⟨"BreathingHillModel", "readThing", "()Z"⟩, 1530, 2, some (FieldType.boolean), 17, 0, false, 10, 103, 1529, 43),
  (⟨"BreathingHillModel", "readPlace", "(III)Z"⟩, 1534, 4, some (FieldType.boolean), 17, 3, false, 10, 103, 1533, 44),
  (⟨"BreathingHillModel", "fresh", "(I)Z"⟩, 1538, 2, some (FieldType.boolean), 17, 1, false, 10, 103, 1537, 45),
  (⟨"BreathingHillModel", "isName", "()Z"⟩, 1542, 3, some (FieldType.boolean), 17, 0, false, 10, 103, 1541, 46),
  (⟨"BreathingHillModel", "find", "(II)I"⟩, 1546, 4, some (FieldType.int), 17, 2, false, 10, 103, 1545, 47)]
def pm_tab4 : List (pM) := [
  (⟨"BreathingHillModel", "sign", "(I)Z"⟩, 1550, 2, some (FieldType.boolean), 17, 1, false, 10, 103, 1549, 48),
  (⟨"BreathingHillModel", "isSign", "(I)Z"⟩, 1554, 2, some (FieldType.boolean), 17, 1, false, 10, 103, 1553, 49),
  (⟨"BreathingHillModel", "fault", "()I"⟩, 1558, 1, some (FieldType.int), 17, 0, false, 10, 103, 1556, 1557),
  (⟨"BreathingHillModel", "thing", "(II)I"⟩, 1562, 4, some (FieldType.int), 17, 2, false, 10, 103, 1560, 1561),
  (⟨"BreathingHillModel", "isThing", "(I)Z"⟩, 1566, 2, some (FieldType.boolean), 17, 1, false, 10, 103, 1565, 50),
  (⟨"BreathingHillModel", "throwsIf", "(Z)Z"⟩, 1570, 2, some (FieldType.boolean), 17, 1, false, 10, 103, 1569, 51),
  (⟨"BreathingHillModel", "mill", "(II)I"⟩, 1574, 3, some (FieldType.int), 17, 2, false, 10, 103, 1572, 1573),
  (⟨"BreathingHillModel", "man", "(II)I"⟩, 1578, 3, some (FieldType.int), 17, 2, false, 10, 103, 1576, 1577),
  (⟨"BreathingHillModel", "isMan", "(I)Z"⟩, 1582, 2, some (FieldType.boolean), 17, 1, false, 10, 103, 1581, 52),
  (⟨"BreathingHillModel", "passage", "(II)I"⟩, 1586, 5, some (FieldType.int), 17, 2, false, 10, 103, 1584, 1585),
  (⟨"BreathingHillModel", "air", "(II)I"⟩, 1590, 3, some (FieldType.int), 17, 2, false, 10, 103, 1588, 1589),
  (⟨"BreathingHillModel", "airOf", "(II)I"⟩, 1594, 4, some (FieldType.int), 17, 2, false, 10, 103, 1593, 53),
  (⟨"BreathingHillModel", "period", "()I"⟩, 1598, 1, some (FieldType.int), 17, 0, false, 10, 103, 1597, 54),
  (⟨"BreathingHillModel", "force", "(II)I"⟩, 1602, 3, some (FieldType.int), 17, 2, false, 10, 103, 1600, 1601),
  (⟨"BreathingHillModel", "isCell", "(II)Z"⟩, 1606, 3, some (FieldType.boolean), 17, 2, false, 10, 103, 1605, 55),
  (⟨"BreathingHillModel", "forceAt", "(I)I"⟩, 1610, 3, some (FieldType.int), 17, 1, false, 10, 103, 1609, 56),
  (⟨"BreathingHillModel", "now", "(I)I"⟩, 1614, 2, some (FieldType.int), 17, 1, false, 10, 103, 1612, 1613),
  (⟨"BreathingHillModel", "thingsAt", "(I)I"⟩, 1618, 4, some (FieldType.int), 17, 1, false, 10, 103, 1617, 57),
  (⟨"BreathingHillModel", "tie", "(II)I"⟩, 1622, 4, some (FieldType.int), 17, 2, false, 10, 103, 1620, 1621),
  (⟨"BreathingHillModel", "whyTie", "(II)I"⟩, 1626, 3, some (FieldType.int), 17, 2, false, 10, 103, 1625, 58),
  (⟨"BreathingHillModel", "isTied", "(I)Z"⟩, 1630, 2, some (FieldType.boolean), 17, 1, false, 10, 103, 1629, 59),
  (⟨"BreathingHillModel", "keep", "()V"⟩, 1634, 2, none, 17, 0, false, 10, 103, 1633, 60),
  (⟨"BreathingHillModel", "walk", "(II)I"⟩, 1638, 4, some (FieldType.int), 17, 2, false, 10, 103, 1636, 1637),
  (⟨"BreathingHillModel", "whyWalk", "(II)I"⟩, 1642, 3, some (FieldType.int), 17, 2, false, 10, 103, 1641, 61),
  (⟨"BreathingHillModel", "hoursTo", "(II)I"⟩, 1646, 5, some (FieldType.int), 17, 2, false, 10, 103, 1645, 62),
  (⟨"BreathingHillModel", "strides", "(IIII)I"⟩, 1650, 9, some (FieldType.int), 17, 4, false, 10, 103, 1649, 63),
  (⟨"BreathingHillModel", "off", "(II)I"⟩, 1653, 2, some (FieldType.int), 17, 2, true, 10, 103, 1652, 0),
  (⟨"BreathingHillModel", "walks", "(II)V"⟩, 1657, 3, none, 17, 2, false, 10, 103, 1656, 64),
  (⟨"BreathingHillModel", "hour", "()V"⟩, 1661, 2, none, 17, 0, false, 10, 103, 1660, 65),
  (⟨"BreathingHillModel", "loads", "(I)V"⟩, 1665, 2, none, 17, 1, false, 10, 103, 1664, 66),
  (⟨"BreathingHillModel", "carries", "(II)V"⟩, 1669, 5, none, 17, 2, false, 10, 103, 1668, 67),
  (⟨"BreathingHillModel", "goesIn", "(I)V"⟩, 1673, 3, none, 17, 1, false, 10, 103, 1672, 68),
  (⟨"BreathingHillModel", "cough", "()I"⟩, 1677, 1, some (FieldType.int), 17, 0, false, 10, 103, 1675, 1676),
  (⟨"BreathingHillModel", "coughs", "()V"⟩, 1681, 2, none, 17, 0, false, 10, 103, 1680, 69),
  (⟨"BreathingHillModel", "hours", "(I)I"⟩, 1685, 2, some (FieldType.int), 17, 1, false, 10, 103, 1683, 1684),
  (⟨"BreathingHillModel", "goesOn", "(I)I"⟩, 1689, 3, some (FieldType.int), 17, 1, false, 10, 103, 1688, 70),
  (⟨"BreathingHillModel", "undo", "()I"⟩, 1693, 2, some (FieldType.int), 17, 0, false, 10, 103, 1691, 1692),
  (⟨"BreathingHillModel", "letter", "(IIII)I"⟩, 1697, 5, some (FieldType.int), 17, 4, false, 10, 103, 1695, 1696),
  (⟨"BreathingHillModel", "letterOf", "(IIII)I"⟩, 1701, 6, some (FieldType.int), 17, 4, false, 10, 103, 1700, 71),
  (⟨"BreathingHillModel", "heaviest", "(IIII)I"⟩, 1705, 7, some (FieldType.int), 17, 4, false, 10, 103, 1703, 1704),
  (⟨"BreathingHillModel", "best", "(III)I"⟩, 1709, 8, some (FieldType.int), 17, 3, false, 10, 103, 1707, 1708),
  (⟨"BreathingHillModel", "soonest", "(II)I"⟩, 1713, 3, some (FieldType.int), 17, 2, false, 10, 103, 1711, 1712),
  (⟨"BreathingHillModel", "reach", "(II)I"⟩, 1717, 5, some (FieldType.int), 17, 2, false, 10, 103, 1715, 1716),
  (⟨"BreathingHillModel", "dry", "(III)I"⟩, 1721, 6, some (FieldType.int), 17, 3, false, 10, 103, 1719, 1720),
  (⟨"BreathingHillModel", "which", "()I"⟩, 1725, 3, some (FieldType.int), 17, 0, false, 10, 103, 1723, 1724)]
def pm_tab5 : List (pM) := [
  (⟨"BreathingHillModel", "octet", "(I)I"⟩, 1729, 2, some (FieldType.int), 17, 1, false, 10, 103, 1728, 72),
  (⟨"BreathingHillModel", "insideFor", "(III)I"⟩, 1733, 5, some (FieldType.int), 17, 3, false, 10, 103, 1732, 73),
  (⟨"BreathingHillModel", "ties", "(II)I"⟩, 1737, 6, some (FieldType.int), 17, 2, false, 10, 103, 1735, 1736),
  (⟨"BreathingHillModel", "isInValley", "(I)Z"⟩, 1741, 2, some (FieldType.boolean), 17, 1, false, 10, 103, 1740, 74),
  (⟨"BreathingHillModel", "turn", "(I)I"⟩, 1745, 4, some (FieldType.int), 17, 1, false, 10, 103, 1743, 1744),
  (⟨"BreathingHillModel", "guard", "(I)I"⟩, 1749, 7, some (FieldType.int), 17, 1, false, 10, 103, 1747, 1748),
  (⟨"BreathingHillModel", "prices", "()I"⟩, 1753, 5, some (FieldType.int), 17, 0, false, 10, 103, 1751, 1752),
  (⟨"BreathingHillModel", "tries", "()V"⟩, 1757, 2, none, 17, 0, false, 10, 103, 1756, 75),
  (⟨"BreathingHillModel", "bits", "(I)I"⟩, 1760, 3, some (FieldType.int), 17, 1, true, 10, 103, 1759, 0),
  (⟨"BreathingHillModel", "back", "()V"⟩, 1764, 2, none, 17, 0, false, 10, 103, 1763, 76),
  (⟨"BreathingHillModel", "price", "(I)I"⟩, 1768, 2, some (FieldType.int), 17, 1, false, 10, 103, 1766, 1767),
  (⟨"BreathingHillModel", "later", "(II)I"⟩, 1772, 4, some (FieldType.int), 17, 2, false, 10, 103, 1770, 1771),
  (⟨"BreathingHillModel", "meet", "(II)I"⟩, 1776, 5, some (FieldType.int), 17, 2, false, 10, 103, 1774, 1775),
  (⟨"BreathingHillModel", "drawn", "(II)I"⟩, 1780, 3, some (FieldType.int), 17, 2, false, 10, 103, 1778, 1779),
  (⟨"BreathingHillModel", "draws", "(II)I"⟩, 1784, 6, some (FieldType.int), 17, 2, false, 10, 103, 1783, 77),
  (⟨"BreathingHillModel", "draw", "(I)I"⟩, 1788, 2, some (FieldType.int), 17, 1, false, 10, 103, 1787, 78),
  (⟨"BreathingHillModel", "odds", "(III)I"⟩, 1793, 6, some (FieldType.int), 17, 3, false, 10, 103, 1791, 1792),
  (⟨"BreathingHillModel", "isBeyond", "(I)Z"⟩, 1797, 2, some (FieldType.boolean), 17, 1, false, 10, 103, 1796, 79),
  (⟨"BreathingHillModel", "log", "(I)I"⟩, 1801, 4, some (FieldType.int), 17, 1, false, 10, 103, 1799, 1800),
  (⟨"BreathingHillModel", "logLine", "()Z"⟩, 1805, 4, some (FieldType.boolean), 17, 0, false, 10, 103, 1804, 80),
  (⟨"BreathingHillModel", "does", "(III)I"⟩, 1809, 5, some (FieldType.int), 17, 3, false, 10, 103, 1808, 81),
  (⟨"BreathingHillModel", "logged", "(I)I"⟩, 1813, 2, some (FieldType.int), 17, 1, false, 10, 103, 1811, 1812),
  (⟨"BreathingHillModel", "sentence", "()I"⟩, 1817, 3, some (FieldType.int), 17, 0, false, 10, 103, 1815, 1816),
  (⟨"BreathingHillModel", "nots", "()V"⟩, 1821, 1, none, 17, 0, false, 10, 103, 1820, 82),
  (⟨"BreathingHillModel", "code", "(III)V"⟩, 1825, 4, none, 17, 3, false, 10, 103, 1824, 83),
  (⟨"BreathingHillModel", "joins", "(I)V"⟩, 1829, 2, none, 17, 1, false, 10, 103, 1828, 84),
  (⟨"BreathingHillModel", "behind", "()Z"⟩, 1833, 1, some (FieldType.boolean), 17, 0, false, 10, 103, 1832, 85),
  (⟨"BreathingHillModel", "operand", "()Z"⟩, 1837, 5, some (FieldType.boolean), 17, 0, false, 10, 103, 1836, 86),
  (⟨"BreathingHillModel", "leafOf", "()I"⟩, 1841, 1, some (FieldType.int), 17, 0, false, 10, 103, 1840, 87),
  (⟨"BreathingHillModel", "said", "(I)I"⟩, 1845, 4, some (FieldType.int), 17, 1, false, 10, 103, 1843, 1844),
  (⟨"BreathingHillModel", "isSaid", "(I)Z"⟩, 1849, 5, some (FieldType.boolean), 17, 1, false, 10, 103, 1848, 88),
  (⟨"BreathingHillModel", "isLeaf", "(IIII)Z"⟩, 1853, 6, some (FieldType.boolean), 17, 4, false, 10, 103, 1852, 89),
  (⟨"BreathingHillModel", "image", "(I)Z"⟩, 1857, 3, some (FieldType.boolean), 17, 1, false, 10, 103, 1855, 1856),
  (⟨"BreathingHillModel", "restore", "(I)Z"⟩, 1861, 3, some (FieldType.boolean), 17, 1, false, 10, 103, 1859, 1860),
  (⟨"BreathingHillModel", "count", "(I)I"⟩, 1865, 2, some (FieldType.int), 17, 1, false, 10, 103, 1863, 1864)]
def pm_tab : List pM := pm_tab0 ++ (pm_tab1 ++ (pm_tab2 ++ (pm_tab3 ++ (pm_tab4 ++ (pm_tab5)))))
/-- fields: own class, pool index, class in vwCl, field, nest, place of the word -/
def pm_ftab : List (Nat × Nat × Nat × Nat × Nat × Nat) := [
  (2, 9, 7, 0, 0, 126),
  (2, 15, 7, 1, 0, 127),
  (0, 101, 7, 1, 1, 128),
  (2, 19, 7, 2, 0, 129),
  (2, 22, 7, 3, 0, 130),
  (2, 31, 7, 4, 0, 131),
  (10, 40, 7, 4, 1, 132),
  (3, 36, 7, 4, 1, 133),
  (9, 47, 7, 4, 1, 134),
  (2, 34, 7, 5, 0, 135),
  (2, 37, 7, 6, 0, 136),
  (2, 40, 7, 7, 0, 137),
  (10, 71, 7, 7, 1, 138),
  (3, 173, 7, 7, 1, 139),
  (2, 44, 7, 8, 0, 140),
  (0, 111, 7, 8, 1, 141),
  (2, 47, 7, 9, 0, 142),
  (0, 114, 7, 9, 1, 143),
  (3, 9, 2, 0, 0, 174),
  (3, 17, 2, 1, 0, 175),
  (3, 21, 2, 2, 0, 176),
  (5, 9, 1, 0, 0, 197),
  (3, 132, 1, 0, 1, 198),
  (0, 240, 1, 0, 1, 199),
  (5, 15, 1, 1, 0, 200),
  (3, 145, 1, 1, 1, 201),
  (5, 18, 1, 2, 0, 202),
  (3, 148, 1, 2, 1, 203),
  (5, 22, 1, 3, 0, 204),
  (3, 151, 1, 3, 1, 205),
  (5, 25, 1, 4, 0, 206),
  (3, 154, 1, 4, 1, 207),
  (5, 28, 1, 5, 0, 208),
  (3, 157, 1, 5, 1, 209),
  (0, 243, 1, 5, 1, 210),
  (5, 31, 1, 6, 0, 211),
  (0, 201, 1, 6, 1, 212),
  (3, 160, 1, 6, 1, 213),
  (6, 72, 1, 6, 1, 214),
  (5, 34, 1, 7, 0, 215),
  (0, 204, 1, 7, 1, 216),
  (3, 163, 1, 7, 1, 217),
  (5, 37, 1, 8, 0, 218),
  (0, 207, 1, 8, 1, 219),
  (3, 166, 1, 8, 1, 220),
  (6, 76, 1, 8, 1, 221),
  (6, 9, 8, 0, 0, 252),
  (4, 79, 8, 0, 1, 253),
  (3, 177, 8, 0, 1, 254),
  (6, 15, 8, 1, 0, 255),
  (6, 19, 8, 2, 0, 256),
  (0, 156, 8, 2, 1, 257),
  (9, 177, 8, 2, 1, 258),
  (6, 22, 8, 3, 0, 259),
  (0, 138, 8, 3, 1, 260),
  (4, 92, 8, 3, 1, 261),
  (9, 171, 8, 3, 1, 262),
  (6, 25, 8, 4, 0, 263),
  (0, 141, 8, 4, 1, 264),
  (4, 102, 8, 4, 1, 265),
  (9, 174, 8, 4, 1, 266),
  (6, 28, 8, 5, 0, 267),
  (0, 144, 8, 5, 1, 268),
  (4, 95, 8, 5, 1, 269),
  (6, 31, 8, 6, 0, 270),
  (0, 147, 8, 6, 1, 271),
  (6, 34, 8, 7, 0, 272),
  (0, 150, 8, 7, 1, 273),
  (3, 187, 8, 7, 1, 274),
  (9, 180, 8, 7, 1, 275),
  (6, 37, 8, 8, 0, 276),
  (0, 153, 8, 8, 1, 277),
  (3, 193, 8, 8, 1, 278),
  (9, 161, 8, 8, 1, 279),
  (6, 41, 8, 9, 0, 280),
  (0, 159, 8, 9, 1, 281),
  (7, 9, 5, 0, 0, 308),
  (4, 84, 5, 0, 1, 309),
  (3, 201, 5, 0, 1, 310),
  (7, 15, 5, 1, 0, 311),
  (0, 169, 5, 1, 1, 312),
  (3, 204, 5, 1, 1, 313),
  (7, 19, 5, 2, 0, 314),
  (0, 174, 5, 2, 1, 315),
  (3, 207, 5, 2, 1, 316),
  (7, 22, 5, 3, 0, 317),
  (0, 175, 5, 3, 1, 318),
  (3, 210, 5, 3, 1, 319),
  (8, 9, 4, 0, 0, 334),
  (4, 83, 4, 0, 1, 335),
  (3, 217, 4, 0, 1, 336),
  (8, 15, 4, 1, 0, 337),
  (4, 72, 4, 1, 1, 338),
  (0, 185, 4, 1, 1, 339),
  (3, 220, 4, 1, 1, 340),
  (8, 19, 4, 2, 0, 341),
  (0, 188, 4, 2, 1, 342),
  (3, 221, 4, 2, 1, 343),
  (4, 122, 4, 2, 1, 344),
  (8, 22, 4, 3, 0, 345),
  (0, 189, 4, 3, 1, 346),
  (3, 222, 4, 3, 1, 347),
  (4, 12, 0, 0, 0, 357),
  (3, 57, 0, 0, 1, 358),
  (0, 192, 0, 0, 1, 359),
  (4, 20, 0, 1, 0, 360),
  (10, 134, 0, 1, 1, 361),
  (0, 134, 0, 1, 1, 362),
  (3, 169, 0, 1, 1, 363),
  (9, 146, 0, 1, 1, 364),
  (4, 26, 0, 2, 0, 365),
  (0, 165, 0, 2, 1, 366),
  (3, 197, 0, 2, 1, 367),
  (4, 32, 0, 3, 0, 368),
  (0, 181, 0, 3, 1, 369),
  (3, 213, 0, 3, 1, 370),
  (4, 36, 0, 4, 0, 371),
  (3, 123, 0, 4, 1, 372),
  (9, 137, 0, 4, 1, 373),
  (0, 246, 0, 4, 1, 374),
  (4, 40, 0, 5, 0, 375),
  (3, 126, 0, 5, 1, 376),
  (0, 249, 0, 5, 1, 377),
  (4, 43, 0, 6, 0, 378),
  (3, 129, 0, 6, 1, 379),
  (0, 252, 0, 6, 1, 380),
  (4, 46, 0, 7, 0, 381),
  (10, 124, 0, 7, 1, 382),
  (0, 214, 0, 7, 1, 383),
  (9, 13, 6, 0, 0, 409),
  (9, 17, 6, 1, 0, 410),
  (9, 20, 6, 2, 0, 411),
  (9, 24, 6, 3, 0, 412),
  (9, 27, 6, 4, 0, 413),
  (9, 31, 6, 5, 0, 414),
  (0, 361, 6, 5, 1, 415),
  (10, 11, 3, 0, 0, 437),
  (10, 17, 3, 1, 0, 438),
  (10, 21, 3, 2, 0, 439),
  (10, 24, 3, 3, 0, 440),
  (10, 28, 3, 4, 0, 441),
  (0, 348, 3, 4, 1, 442),
  (10, 31, 3, 5, 0, 443),
  (0, 351, 3, 5, 1, 444),
  (0, 10, 9, 0, 0, 461),
  (0, 19, 9, 1, 0, 462),
  (0, 26, 9, 2, 0, 463),
  (0, 30, 9, 3, 0, 464),
  (0, 33, 9, 4, 0, 465),
  (0, 37, 9, 5, 0, 466),
  (0, 44, 9, 6, 0, 467),
  (0, 48, 9, 7, 0, 468),
  (0, 51, 9, 8, 0, 469),
  (0, 54, 9, 9, 0, 470),
  (0, 58, 9, 10, 0, 471),
  (0, 65, 9, 11, 0, 472),
  (0, 69, 9, 12, 0, 473),
  (0, 73, 9, 13, 0, 474),
  (0, 80, 9, 14, 0, 475),
  (0, 84, 9, 15, 0, 476),
  (0, 87, 9, 16, 0, 477),
  (0, 90, 9, 17, 0, 478),
  (17, 1, 10, 0, 0, 1338),
  (17, 14, 10, 1, 0, 1339),
  (17, 7, 10, 2, 0, 1340),
  (17, 18, 10, 3, 0, 1341),
  (17, 21, 10, 4, 0, 1342),
  (17, 24, 10, 5, 0, 1343),
  (17, 33, 10, 6, 0, 1344),
  (17, 37, 10, 7, 0, 1345),
  (17, 40, 10, 8, 0, 1346),
  (17, 43, 10, 9, 0, 1347),
  (17, 47, 10, 10, 0, 1348),
  (17, 141, 10, 11, 0, 1349),
  (17, 135, 10, 12, 0, 1350),
  (17, 138, 10, 13, 0, 1351),
  (17, 151, 10, 14, 0, 1352),
  (17, 158, 10, 15, 0, 1353),
  (17, 161, 10, 16, 0, 1354),
  (17, 154, 10, 17, 0, 1355),
  (17, 177, 10, 18, 0, 1356),
  (17, 220, 10, 19, 0, 1357),
  (17, 192, 10, 20, 0, 1358),
  (17, 262, 10, 21, 0, 1359),
  (17, 268, 10, 22, 0, 1360),
  (17, 271, 10, 23, 0, 1361),
  (17, 265, 10, 24, 0, 1362),
  (17, 258, 10, 25, 0, 1363),
  (17, 50, 10, 26, 0, 1364),
  (17, 53, 10, 27, 0, 1365),
  (17, 229, 10, 28, 0, 1366),
  (17, 56, 10, 29, 0, 1367),
  (17, 331, 10, 30, 0, 1368),
  (17, 343, 10, 31, 0, 1369),
  (17, 356, 10, 32, 0, 1370),
  (17, 59, 10, 33, 0, 1371),
  (17, 365, 10, 34, 0, 1372),
  (17, 62, 10, 35, 0, 1373),
  (17, 368, 10, 36, 0, 1374),
  (17, 384, 10, 37, 0, 1375),
  (17, 371, 10, 38, 0, 1376),
  (17, 378, 10, 39, 0, 1377),
  (17, 387, 10, 40, 0, 1378),
  (17, 65, 10, 41, 0, 1379),
  (17, 69, 10, 42, 0, 1380),
  (17, 72, 10, 43, 0, 1381),
  (17, 75, 10, 44, 0, 1382)]
def pm_tok : List String := ["END", "BAD", "DIGITS", "NAME", "SEMICOLON", "LESS", "EQUAL", "GREATER", "OPEN", "CLOSE", "LONG", "BREATH", "FORCE", "FADE", "HELD", "PASSAGE", "THING", "TIED", "MILL", "MAN", "TIES", "LOOSES", "WALKS", "HOUR", "COUGHS", "OR", "AND", "NOT", "INSIDE", "BEYOND", "LOST", "CELL", "WEIGHT", "COLOUR", "NUMBER"]
def pm_tokc : List Int64 := [0, 0, 0, 0, 59, 60, 61, 62, 40, 41, 228325223, 3398069418600, 27615080933, 215511653, 219772516, 495945216717797, 31358351207, 245002980, 230323820, 1798382, 245002995, 3740882760435, 32149026291, 219937522, 3431657501811, 14322, 1603428, 1816564, 3637543334501, 3394621929316, 228325876, 209286764, 4116142748788, 3431638760178, 3811208377074]
/-- statics: own class, pool index, which constant (35: the array of all), place -/
def pm_stab : List (Nat × Nat × Nat × Nat) := [
  (2, 25, 0, 124),
  (2, 57, 1, 563),
  (2, 75, 35, 572),
  (2, 69, 3, 574),
  (2, 72, 2, 576),
  (3, 40, 0, 578),
  (3, 54, 15, 583),
  (3, 65, 16, 599),
  (3, 225, 3, 609),
  (3, 190, 17, 634),
  (3, 71, 18, 636),
  (3, 77, 19, 642),
  (3, 83, 10, 648),
  (3, 89, 11, 658),
  (3, 98, 12, 668),
  (3, 104, 13, 674),
  (3, 110, 14, 680),
  (3, 47, 4, 686),
  (10, 44, 0, 1064),
  (10, 58, 3, 1069),
  (10, 61, 23, 1070),
  (10, 64, 24, 1072),
  (10, 93, 21, 1079),
  (10, 96, 20, 1082),
  (10, 99, 22, 1084),
  (10, 51, 4, 1087),
  (9, 77, 27, 1131),
  (9, 80, 8, 1133),
  (9, 113, 17, 1138),
  (9, 116, 28, 1139),
  (9, 119, 29, 1141),
  (9, 122, 30, 1143),
  (9, 125, 31, 1148),
  (9, 128, 32, 1150),
  (9, 131, 33, 1152),
  (9, 134, 34, 1154),
  (9, 90, 9, 1158),
  (9, 51, 0, 1161),
  (9, 100, 5, 1170),
  (9, 103, 6, 1172),
  (9, 106, 7, 1174),
  (9, 74, 26, 1177),
  (9, 61, 25, 1179)]
def pm_ktab : List (Nat × Nat × Int32 × Nat) := [
  (4, 161, 1103515245, 930),
  (12, 265, 1431655765, 1028),
  (12, 266, 858993459, 1029),
  (12, 267, 252645135, 1030),
  (17, 346, 1103515245, 1789)]
def pm_ltab : List (Nat × Nat × Int64 × Nat) := [
  (2, 63, 128, 568),
  (17, 78, 1819242087, 1309),
  (17, 80, 108243466679400, 1310),
  (17, 82, 439956431717, 1311),
  (17, 84, 1717658725, 1312),
  (17, 86, 1751477348, 1313),
  (17, 88, 31632345876490085, 1314),
  (17, 90, 499967946343, 1315),
  (17, 92, 1953064292, 1316),
  (17, 94, 1835625580, 1317),
  (17, 96, 7168366, 1318),
  (17, 98, 1953064307, 1319),
  (17, 100, 119225867003251, 1320),
  (17, 102, 512735603571, 1321),
  (17, 104, 1752135026, 1322),
  (17, 106, 109330362230899, 1323),
  (17, 108, 28530, 1324),
  (17, 110, 6385252, 1325),
  (17, 112, 7237492, 1326),
  (17, 114, 115923103605861, 1327),
  (17, 116, 108187968564836, 1328),
  (17, 118, 1819243380, 1329),
  (17, 120, 1667591276, 1330),
  (17, 122, 131277443786868, 1331),
  (17, 124, 109330211763570, 1332),
  (17, 126, 121450625394034, 1333)]
/-- classes: own class, pool index, class in vwCl, its array class by number, places: classLink, instantiable, initialized, arrayOver -/
def pm_ntab : List (Nat × Nat × Nat × Nat × Nat × Nat × Nat × Nat) := [
  (18, 8, 9, 99, 110, 111, 91, 0),
  (0, 7, 7, 99, 118, 119, 92, 0),
  (0, 16, 2, 99, 166, 167, 95, 0),
  (3, 15, 99, 4, 172, 0, 94, 173),
  (0, 23, 0, 8, 185, 186, 96, 401),
  (4, 9, 1, 99, 191, 192, 97, 0),
  (4, 18, 8, 5, 241, 247, 98, 242),
  (4, 24, 5, 6, 243, 303, 99, 244),
  (4, 30, 4, 7, 245, 329, 100, 246),
  (0, 41, 6, 9, 402, 403, 101, 429),
  (9, 11, 99, 4, 408, 0, 94, 173),
  (0, 62, 3, 99, 430, 431, 102, 0),
  (10, 9, 99, 4, 436, 0, 94, 173),
  (0, 77, 8, 5, 459, 247, 98, 242),
  (18, 13, 99, 99, 1221, 1227, 107, 0),
  (0, 127, 99, 99, 1226, 1227, 107, 0),
  (18, 16, 10, 99, 1304, 1298, 103, 0)]
/-- calls: own class, pool index, kind (0 Object(), 1 virtual, 2 static, 3 a constructor; 4, 5, 6 the same of a nest mate), method, place of the link -/
def pm_ctab : List (Nat × Nat × Nat × Nat × Nat) := [
  (18, 15, 3, 0, 112),
  (0, 1, 0, 1, 115),
  (0, 9, 6, 2, 120),
  (2, 3, 0, 1, 123),
  (0, 18, 6, 3, 168),
  (3, 3, 0, 1, 171),
  (0, 25, 3, 4, 187),
  (4, 3, 0, 1, 190),
  (4, 11, 6, 5, 193),
  (5, 3, 0, 1, 196),
  (4, 49, 6, 6, 248),
  (6, 3, 0, 1, 251),
  (4, 50, 6, 7, 304),
  (7, 3, 0, 1, 307),
  (4, 51, 6, 8, 330),
  (8, 3, 0, 1, 333),
  (0, 43, 6, 9, 404),
  (9, 3, 0, 1, 407),
  (0, 64, 6, 10, 432),
  (10, 3, 0, 1, 435),
  (0, 79, 6, 6, 460),
  (18, 19, 1, 11, 516),
  (0, 93, 1, 12, 520),
  (0, 97, 1, 13, 524),
  (18, 24, 1, 14, 528),
  (0, 104, 1, 15, 532),
  (18, 29, 1, 16, 536),
  (0, 107, 1, 17, 540),
  (3, 25, 1, 18, 544),
  (4, 52, 1, 19, 548),
  (3, 30, 1, 20, 552),
  (2, 50, 1, 21, 556),
  (2, 53, 2, 22, 560),
  (2, 60, 2, 23, 565),
  (2, 65, 2, 24, 569),
  (3, 43, 1, 25, 579),
  (3, 61, 1, 26, 585),
  (3, 116, 1, 27, 589),
  (3, 120, 1, 21, 593),
  (3, 141, 1, 28, 594),
  (2, 82, 1, 27, 598),
  (3, 68, 1, 29, 601),
  (3, 180, 1, 30, 605),
  (3, 228, 1, 31, 610),
  (4, 85, 1, 32, 614),
  (4, 89, 1, 33, 618),
  (3, 232, 1, 34, 622),
  (3, 183, 1, 35, 626),
  (6, 44, 1, 36, 630),
  (3, 74, 1, 37, 638),
  (3, 80, 1, 38, 644),
  (3, 86, 1, 39, 650),
  (3, 137, 1, 40, 654),
  (3, 92, 1, 41, 660),
  (3, 95, 1, 42, 664),
  (3, 101, 1, 43, 670),
  (3, 107, 1, 44, 676),
  (3, 113, 1, 45, 682),
  (3, 50, 1, 46, 688),
  (0, 117, 1, 47, 692),
  (4, 55, 1, 48, 696),
  (4, 59, 1, 49, 700),
  (4, 62, 1, 50, 704),
  (4, 65, 1, 51, 708),
  (0, 121, 1, 52, 712),
  (18, 34, 1, 53, 716),
  (18, 44, 1, 54, 720),
  (0, 162, 1, 55, 724),
  (18, 48, 1, 56, 728),
  (0, 178, 1, 57, 732),
  (18, 52, 1, 58, 736),
  (0, 196, 1, 59, 740),
  (0, 210, 1, 60, 744),
  (18, 56, 1, 61, 748),
  (0, 217, 1, 62, 752),
  (5, 44, 1, 63, 756),
  (0, 220, 1, 64, 760),
  (5, 48, 5, 65, 764),
  (0, 224, 1, 66, 767),
  (18, 61, 1, 67, 771),
  (0, 227, 2, 68, 775),
  (0, 230, 2, 65, 778),
  (18, 65, 1, 69, 779),
  (0, 233, 1, 70, 783),
  (5, 40, 1, 34, 787),
  (0, 237, 1, 71, 788),
  (18, 179, 1, 72, 792),
  (0, 255, 1, 63, 796),
  (18, 69, 1, 73, 797),
  (0, 124, 1, 74, 801),
  (0, 259, 1, 75, 805),
  (0, 262, 1, 76, 809),
  (0, 265, 1, 77, 813),
  (0, 286, 1, 78, 817),
  (18, 73, 1, 79, 821),
  (0, 268, 1, 80, 825),
  (4, 68, 1, 57, 829),
  (4, 75, 1, 70, 830),
  (0, 271, 1, 81, 831),
  (4, 119, 1, 80, 835),
  (4, 123, 1, 82, 836),
  (8, 25, 1, 83, 840),
  (8, 29, 1, 64, 844),
  (8, 35, 9, 0, 845),
  (8, 41, 8, 0, 848),
  (8, 44, 1, 71, 851),
  (4, 127, 1, 84, 852),
  (4, 111, 1, 85, 856),
  (4, 114, 1, 86, 860),
  (6, 52, 1, 64, 864),
  (6, 58, 1, 87, 865),
  (6, 69, 1, 59, 869),
  (6, 62, 1, 88, 870),
  (6, 79, 1, 71, 874),
  (6, 83, 1, 34, 875),
  (6, 66, 1, 89, 876),
  (6, 86, 7, 0, 880),
  (6, 91, 1, 90, 883),
  (6, 94, 1, 91, 887),
  (4, 118, 1, 92, 891),
  (7, 25, 1, 64, 895),
  (7, 31, 1, 71, 896),
  (18, 77, 1, 93, 897),
  (0, 274, 1, 94, 901),
  (4, 131, 1, 66, 905),
  (4, 134, 1, 36, 906),
  (18, 81, 1, 95, 907),
  (0, 277, 1, 96, 911),
  (0, 280, 1, 97, 915),
  (18, 147, 1, 98, 919),
  (0, 283, 1, 99, 923),
  (4, 138, 2, 100, 927),
  (4, 141, 2, 101, 931),
  (4, 145, 1, 102, 934),
  (4, 152, 1, 74, 938),
  (4, 155, 1, 76, 939),
  (4, 158, 1, 75, 940),
  (4, 148, 1, 94, 941),
  (18, 85, 1, 103, 942),
  (18, 89, 1, 104, 946),
  (0, 289, 1, 105, 950),
  (0, 293, 1, 106, 954),
  (0, 297, 1, 35, 958),
  (0, 301, 1, 86, 959),
  (18, 94, 1, 107, 960),
  (18, 98, 1, 108, 964),
  (18, 103, 1, 109, 968),
  (0, 305, 1, 82, 972),
  (18, 107, 1, 110, 973),
  (0, 309, 1, 34, 977),
  (18, 111, 1, 111, 978),
  (18, 115, 1, 112, 982),
  (0, 312, 1, 113, 986),
  (0, 315, 1, 114, 990),
  (0, 319, 1, 91, 994),
  (18, 119, 1, 115, 995),
  (0, 322, 1, 116, 999),
  (4, 98, 1, 117, 1003),
  (6, 48, 5, 68, 1007),
  (18, 123, 1, 118, 1008),
  (18, 127, 1, 119, 1012),
  (0, 325, 1, 120, 1016),
  (4, 105, 9, 0, 1020),
  (18, 131, 1, 121, 1021),
  (0, 328, 2, 122, 1025),
  (18, 135, 1, 123, 1031),
  (18, 139, 1, 124, 1035),
  (18, 143, 1, 125, 1039),
  (0, 333, 1, 126, 1043),
  (18, 151, 1, 127, 1047),
  (0, 337, 1, 128, 1051),
  (18, 155, 1, 129, 1055),
  (0, 341, 1, 130, 1059),
  (10, 34, 1, 20, 1063),
  (10, 47, 1, 131, 1065),
  (10, 67, 1, 27, 1074),
  (10, 75, 1, 32, 1075),
  (10, 81, 1, 33, 1076),
  (10, 84, 1, 21, 1077),
  (10, 87, 7, 0, 1078),
  (10, 54, 1, 46, 1081),
  (10, 102, 1, 28, 1086),
  (0, 345, 1, 132, 1088),
  (10, 106, 2, 133, 1092),
  (10, 110, 1, 80, 1095),
  (10, 114, 1, 81, 1096),
  (10, 117, 2, 134, 1097),
  (10, 120, 1, 94, 1100),
  (10, 127, 1, 96, 1101),
  (10, 131, 1, 74, 1102),
  (10, 138, 1, 75, 1103),
  (10, 143, 1, 76, 1104),
  (18, 159, 1, 135, 1105),
  (18, 163, 1, 136, 1109),
  (0, 354, 1, 137, 1113),
  (9, 34, 1, 52, 1117),
  (9, 37, 1, 20, 1118),
  (9, 43, 1, 138, 1119),
  (9, 58, 1, 139, 1123),
  (9, 71, 1, 140, 1127),
  (9, 83, 2, 141, 1135),
  (9, 87, 2, 142, 1145),
  (9, 54, 1, 27, 1156),
  (9, 64, 1, 21, 1157),
  (9, 93, 1, 46, 1160),
  (9, 67, 1, 143, 1162),
  (9, 96, 1, 144, 1166),
  (9, 109, 1, 28, 1176),
  (0, 358, 1, 145, 1181),
  (18, 167, 1, 146, 1185),
  (0, 364, 1, 147, 1189),
  (0, 367, 1, 148, 1193),
  (9, 142, 2, 149, 1197),
  (9, 150, 2, 150, 1200),
  (9, 167, 1, 128, 1203),
  (9, 154, 2, 151, 1204),
  (9, 158, 2, 152, 1207),
  (18, 171, 1, 153, 1210),
  (18, 175, 1, 154, 1214),
  (18, 7, 1, 155, 1222),
  (13, 1, 0, 1, 1251),
  (18, 23, 1, 156, 1291),
  (17, 10, 1, 157, 1295),
  (18, 28, 1, 158, 1300),
  (18, 18, 3, 159, 1305),
  (17, 27, 0, 1, 1308),
  (17, 128, 1, 160, 1334),
  (18, 33, 1, 161, 1475),
  (17, 217, 1, 162, 1479),
  (17, 170, 1, 163, 1483),
  (17, 131, 1, 164, 1487),
  (17, 144, 2, 165, 1491),
  (17, 148, 2, 166, 1494),
  (17, 223, 1, 167, 1497),
  (17, 198, 1, 168, 1501),
  (17, 202, 1, 169, 1505),
  (17, 195, 2, 170, 1509),
  (17, 167, 1, 171, 1512),
  (17, 205, 1, 172, 1516),
  (17, 180, 1, 173, 1520),
  (17, 173, 2, 174, 1524),
  (17, 208, 1, 175, 1527),
  (17, 211, 1, 176, 1531),
  (17, 214, 1, 177, 1535),
  (17, 184, 1, 178, 1539),
  (17, 188, 1, 179, 1543),
  (17, 226, 1, 180, 1547),
  (17, 164, 1, 181, 1551),
  (18, 37, 1, 182, 1555),
  (18, 43, 1, 183, 1559),
  (17, 232, 1, 184, 1563),
  (17, 235, 1, 185, 1567),
  (18, 47, 1, 186, 1571),
  (18, 51, 1, 187, 1575),
  (17, 239, 1, 188, 1579),
  (18, 55, 1, 189, 1583),
  (18, 64, 1, 190, 1587),
  (17, 245, 1, 191, 1591),
  (17, 242, 1, 192, 1595),
  (18, 68, 1, 193, 1599),
  (17, 248, 1, 194, 1603),
  (17, 251, 1, 195, 1607),
  (18, 60, 1, 196, 1611),
  (17, 255, 1, 197, 1615),
  (18, 72, 1, 198, 1619),
  (17, 300, 1, 199, 1623),
  (17, 277, 1, 200, 1627),
  (17, 303, 1, 201, 1631),
  (18, 76, 1, 202, 1635),
  (17, 306, 1, 203, 1639),
  (17, 297, 1, 204, 1643),
  (17, 293, 1, 205, 1647),
  (17, 290, 2, 206, 1651),
  (17, 309, 1, 207, 1654),
  (17, 287, 1, 208, 1658),
  (17, 280, 1, 209, 1662),
  (17, 283, 1, 210, 1666),
  (17, 274, 1, 211, 1670),
  (18, 80, 1, 212, 1674),
  (17, 312, 1, 213, 1678),
  (18, 84, 1, 214, 1682),
  (17, 315, 1, 215, 1686),
  (18, 88, 1, 216, 1690),
  (18, 93, 1, 217, 1694),
  (17, 318, 1, 218, 1698),
  (18, 97, 1, 219, 1702),
  (18, 102, 1, 220, 1706),
  (18, 106, 1, 221, 1710),
  (18, 110, 1, 222, 1714),
  (18, 114, 1, 223, 1718),
  (18, 118, 1, 224, 1722),
  (17, 321, 1, 225, 1726),
  (17, 324, 1, 226, 1730),
  (18, 122, 1, 227, 1734),
  (17, 328, 1, 228, 1738),
  (18, 126, 1, 229, 1742),
  (18, 130, 1, 230, 1746),
  (18, 134, 1, 231, 1750),
  (17, 334, 1, 232, 1754),
  (17, 337, 2, 233, 1758),
  (17, 340, 1, 234, 1761),
  (18, 138, 1, 235, 1765),
  (18, 142, 1, 236, 1769),
  (18, 146, 1, 237, 1773),
  (18, 150, 1, 238, 1777),
  (17, 350, 1, 239, 1781),
  (17, 347, 1, 240, 1785),
  (18, 154, 1, 241, 1790),
  (17, 353, 1, 242, 1794),
  (18, 158, 1, 243, 1798),
  (17, 359, 1, 244, 1802),
  (17, 362, 1, 245, 1806),
  (18, 162, 1, 246, 1810),
  (18, 166, 1, 247, 1814),
  (17, 390, 1, 248, 1818),
  (17, 374, 1, 249, 1822),
  (17, 393, 1, 250, 1826),
  (17, 396, 1, 251, 1830),
  (17, 399, 1, 252, 1834),
  (17, 381, 1, 253, 1838),
  (18, 170, 1, 254, 1842),
  (17, 406, 1, 255, 1846),
  (17, 402, 1, 256, 1850),
  (18, 174, 1, 257, 1854),
  (18, 178, 1, 258, 1858),
  (18, 182, 1, 259, 1862)]
end
section
-- the tables against the Statement's words, by program
def pm_fchk (r : Nat × Nat × Nat × Nat × Nat × Nat) : Bool := match vwCl[r.2.2.1]? with
  | none => false
  | some q => decide (r.2.2.2.1 < q.2.2) && (match r.2.2.2.2.1 with
    | 0 => decide (lw_tbl[r.2.2.2.2.2]? = some (.fieldLink (pm_own r.1) r.2.1 (q.2.1 r.2.2.2.1).1 (q.2.1 r.2.2.2.1).2.1 (q.2.1 r.2.2.2.1).2.2.1))
    | _ => decide (lw_tbl[r.2.2.2.2.2]? = some (.fieldLinkNest (pm_own r.1) r.2.1 (q.2.1 r.2.2.2.1).1 (q.2.1 r.2.2.2.1).2.1 (q.2.1 r.2.2.2.1).2.2.1 "BreathingHill")))
set_option maxRecDepth 100000 in
set_option maxHeartbeats 4000000 in
theorem pm_f_ok : pm_ftab.all pm_fchk = true := by decide +kernel
def pm_schk (r : Nat × Nat × Nat × Nat) : Bool := if r.2.2.1 < 35 then decide (lw_tbl[r.2.2.2]? = some (.fieldLink (pm_own r.1) r.2.1 "BreathingHill$Token" (pm_tok.getD r.2.2.1 "") "LBreathingHill$Token;")) else decide (lw_tbl[r.2.2.2]? = some (.fieldLink (pm_own r.1) r.2.1 "BreathingHill$Tape" "TOKENS" "[LBreathingHill$Token;"))
set_option maxRecDepth 100000 in
set_option maxHeartbeats 4000000 in
theorem pm_s_ok : pm_stab.all pm_schk = true := by decide +kernel
def pm_kchk (r : Nat × Nat × Int32 × Nat) : Bool := decide (lw_tbl[r.2.2.2]? = some (.constant (pm_own r.1) r.2.1 r.2.2.1))
set_option maxRecDepth 100000 in
theorem pm_k_ok : pm_ktab.all pm_kchk = true := by decide +kernel
def pm_lchk (r : Nat × Nat × Int64 × Nat) : Bool := decide (lw_tbl[r.2.2.2]? = some (.constantLong (pm_own r.1) r.2.1 r.2.2.1))
set_option maxRecDepth 100000 in
theorem pm_l_ok : pm_ltab.all pm_lchk = true := by decide +kernel
def pm_arr (t : Nat) : FieldType := match t with
  | 0 => .int
  | 1 => .byte
  | 2 => .boolean
  | 3 => .long
  | 4 => .object "BreathingHill$Token"
  | 5 => .object "BreathingHill$Thing"
  | 6 => .object "BreathingHill$Mill"
  | 7 => .object "BreathingHill$Man"
  | 8 => .object "BreathingHill$Hill"
  | _ => .object "BreathingHill$Sentence"
def pm_arrC (t : Nat) : String := match t with
  | 4 => "BreathingHill$Token"
  | 5 => "BreathingHill$Thing"
  | 6 => "BreathingHill$Mill"
  | 7 => "BreathingHill$Man"
  | 8 => "BreathingHill$Hill"
  | _ => "BreathingHill$Sentence"
def pm_nchk (r : Nat × Nat × Nat × Nat × Nat × Nat × Nat × Nat) : Bool :=
  (match vwCl[r.2.2.1]? with
  | none => true
  | some q => decide (lw_tbl[r.2.2.2.2.1]? = some (.classLink (pm_own r.1) r.2.1 q.1)) && decide (lw_tbl[r.2.2.2.2.2.1]? = some (.instantiable q.1 q.2.2)) && decide (lw_tbl[r.2.2.2.2.2.2.1]? = some (.initialized q.1)))
  && (if 4 ≤ r.2.2.2.1 ∧ r.2.2.2.1 < 10 then decide (lw_tbl[r.2.2.2.2.1]? = some (.classLink (pm_own r.1) r.2.1 (pm_arrC r.2.2.2.1))) && decide (lw_tbl[r.2.2.2.2.2.2.2]? = some (.arrayOver (.object (pm_arrC r.2.2.2.1)))) else true)
set_option maxRecDepth 100000 in
theorem pm_n_ok : pm_ntab.all pm_nchk = true := by decide +kernel
/-- parts of a method's row -/
abbrev pM.y (M : pM) : MethodName := M.1
def pm_codeAt (i : Nat) : ByteArray := match lw_tbl[i]? with
  | some (.code _ c _ _) => c
  | _ => ⟨#[]⟩
abbrev pM.p0 (M : pM) : Nat := M.2.1
abbrev pM.code (M : pM) : ByteArray := pm_codeAt M.p0
abbrev pM.maxL (M : pM) : Nat := M.2.2.1
abbrev pM.ret (M : pM) : Option FieldType := M.2.2.2.1
abbrev pM.own (M : pM) : Nat := M.2.2.2.2.1
abbrev pM.np (M : pM) : Nat := M.2.2.2.2.2.1
abbrev pM.st (M : pM) : Bool := M.2.2.2.2.2.2.1
abbrev pM.ci (M : pM) : Nat := M.2.2.2.2.2.2.2.1
abbrev pM.p1 (M : pM) : Nat := M.2.2.2.2.2.2.2.2.1
abbrev pM.p2 (M : pM) : Nat := M.2.2.2.2.2.2.2.2.2.1
abbrev pM.p3 (M : pM) : Nat := M.2.2.2.2.2.2.2.2.2.2
def pm_mchk (M : pM) : Bool := (match lw_tbl[M.p0]? with
  | some (.code y _ n r) => decide (y = M.y ∧ n = M.maxL ∧ r = M.ret)
  | _ => false) && decide (M.y.cls = pm_own M.own) && decide (M.maxL ≤ 9)
  && (decide (M.y.cls = "java/lang/Object") || decide (plainName M.y.cls = true ∧ lw_tbl[M.p1]? = some (.initialized M.y.cls) ∧ (parseMethodDescriptor M.y.desc).map (fun d => d.parameters.length) = some M.np ∧ M.y.cls ≠ "java/lang/invoke/MethodHandle" ∧ M.y.cls ≠ "java/lang/invoke/VarHandle")
    && (match M.st with
      | true => decide (lw_tbl[M.p2]? = some (.static M.y))
      | false => decide (lw_tbl[M.p2]? = some (.instanceMethod M.y)) && (decide (M.y.name = "<init>") || (decide (lw_tbl[M.p3]? = some (.selects M.y.cls M.y M.y)) && decide ((vwCl[M.ci]?).map (fun q => q.1) = some M.y.cls)))))
set_option maxRecDepth 100000 in
set_option maxHeartbeats 4000000 in
theorem pm_m0 : pm_tab0.all pm_mchk = true := by decide +kernel
set_option maxRecDepth 100000 in
set_option maxHeartbeats 4000000 in
theorem pm_m1 : pm_tab1.all pm_mchk = true := by decide +kernel
set_option maxRecDepth 100000 in
set_option maxHeartbeats 4000000 in
theorem pm_m2 : pm_tab2.all pm_mchk = true := by decide +kernel
set_option maxRecDepth 100000 in
set_option maxHeartbeats 4000000 in
theorem pm_m3 : pm_tab3.all pm_mchk = true := by decide +kernel
set_option maxRecDepth 100000 in
set_option maxHeartbeats 4000000 in
theorem pm_m4 : pm_tab4.all pm_mchk = true := by decide +kernel
set_option maxRecDepth 100000 in
set_option maxHeartbeats 4000000 in
theorem pm_m5 : pm_tab5.all pm_mchk = true := by decide +kernel
theorem pm_m_ok : ∀ M ∈ pm_tab, pm_mchk M = true := by
  intro M h
  simp only [pm_tab, List.mem_append] at h
  rcases h with h | h | h | h | h | h
  · exact List.all_eq_true.mp pm_m0 M h
  · exact List.all_eq_true.mp pm_m1 M h
  · exact List.all_eq_true.mp pm_m2 M h
  · exact List.all_eq_true.mp pm_m3 M h
  · exact List.all_eq_true.mp pm_m4 M h
  · exact List.all_eq_true.mp pm_m5 M h
/-- a call's word, its method and kind -/
def pm_mname (k : Nat) : MethodName := match k with
  | 7 => ⟨"java/lang/Math", "max", "(II)I"⟩
  | 8 => ⟨"java/lang/Math", "min", "(II)I"⟩
  | _ => ⟨"java/lang/Math", "abs", "(I)I"⟩
def pm_cchk (r : Nat × Nat × Nat × Nat × Nat) : Bool := if 7 ≤ r.2.2.1 then decide (lw_tbl[r.2.2.2.2]? = some (.methodLink (pm_own r.1) r.2.1 (pm_mname r.2.2.1))) else match pm_tab[r.2.2.2.1]? with
  | none => false
  | some M => (match r.2.2.1 with
    | 0 => decide (M.y = Lib.objectInit ∧ M.maxL = 1 ∧ M.ret = none ∧ lw_tbl[M.p2]? = some (.instanceMethod M.y)) && decide (lw_tbl[r.2.2.2.2]? = some (.methodLink (pm_own r.1) r.2.1 M.y))
    | 1 => decide (lw_tbl[r.2.2.2.2]? = some (.methodLink (pm_own r.1) r.2.1 M.y)) && decide (M.st = false ∧ M.y.name ≠ "<init>" ∧ M.y.cls ≠ "java/lang/Object")
    | 2 => decide (lw_tbl[r.2.2.2.2]? = some (.methodLink (pm_own r.1) r.2.1 M.y)) && decide (M.st = true ∧ M.y.cls ≠ "java/lang/Object")
    | 3 => decide (lw_tbl[r.2.2.2.2]? = some (.methodLink (pm_own r.1) r.2.1 M.y)) && decide (M.st = false ∧ M.y.name = "<init>" ∧ M.y.cls ≠ "java/lang/Object" ∧ M.ret = none)
    | 4 => decide (lw_tbl[r.2.2.2.2]? = some (.methodLinkNest (pm_own r.1) r.2.1 M.y "BreathingHill")) && decide (M.st = false ∧ M.y.name ≠ "<init>" ∧ M.y.cls ≠ "java/lang/Object")
    | 5 => decide (lw_tbl[r.2.2.2.2]? = some (.methodLinkNest (pm_own r.1) r.2.1 M.y "BreathingHill")) && decide (M.st = true ∧ M.y.cls ≠ "java/lang/Object")
    | _ => decide (lw_tbl[r.2.2.2.2]? = some (.methodLinkNest (pm_own r.1) r.2.1 M.y "BreathingHill")) && decide (M.st = false ∧ M.y.name = "<init>" ∧ M.y.cls ≠ "java/lang/Object" ∧ M.ret = none))
set_option maxRecDepth 100000 in
set_option maxHeartbeats 4000000 in
theorem pm_c_ok : pm_ctab.all pm_cchk = true := by decide +kernel
end
section
-- ===== the pure machine: cells by number, values as the machine's, references as numbers of cells =====
abbrev pE : Type := (Nat × vp_A) ⊕ (Nat × List Value)
abbrev pL : Type := List (Nat × Value)
abbrev pR : Type := Nat × pL × List Value × List pE × Nat × Nat
def pm_TB : Nat := 1000000
def pm_SB : Nat := 2000000
def pm_KB : Nat := 3000000
def pm_get (lv : pL) (i : Nat) : Option Value := (lv.find? (fun q => q.1 == i)).map (fun q => q.2)
def pm_put1 (lv : pL) (i : Nat) (v : Value) : pL := (i, v) :: lv.filter (fun q => !(q.1 == i) && !(q.1 + 1 == i && q.2.category == 2))
def pm_put2 (lv : pL) (i : Nat) (v : Value) : pL := (i, v) :: lv.filter (fun q => !(q.1 == i) && (!(q.1 == i + 1) && !(q.1 + 1 == i && q.2.category == 2)))
def pm_tgt (pc : Nat) (off : Int) : Option Nat := if 0 ≤ (pc : Int) + off then some ((pc : Int) + off).toNat else none
def pm_ty (ci : Nat) : Nat → FieldType := match ci with
  | 0 => tyX0
  | 1 => tyX1
  | 2 => tyX2
  | 3 => tyX3
  | 4 => tyX4
  | 5 => tyX5
  | 6 => tyX6
  | 7 => tyX7
  | 8 => tyX8
  | 9 => tyX10
  | _ => tyX11
def pm_N (ci : Nat) : Nat := match vwCl[ci]? with
  | some q => q.2.2
  | none => 0
def pm_fin (ci k : Nat) : Bool := match vwCl[ci]? with
  | some q => (q.2.1 k).2.2.2
  | none => true
def pm_cn (ci : Nat) : String := match vwCl[ci]? with
  | some q => q.1
  | none => ""
def pm_bad (j : Int32) (n : Nat) : Bool := decide (j < 0) || decide (n ≤ j.toNatClampNeg)
def pm_isTok (a : Nat) : Bool := decide (pm_TB ≤ a) && decide (a < pm_TB + 35)
def pm_if (b : Bool) (pc : Nat) (off : Int) (lv : pL) (st : List Value) (G : List pE) : Option pR := match pm_tgt pc off with
  | none => none
  | some t => some (if b then t else pc + 3, lv, st, G, 0, 0)
def pm_holds (c : ClassFile.Cond) (x y : Int32) : Bool := match c with
  | .eq => decide (x = y)
  | .ne => decide (x ≠ y)
  | .lt => decide (x < y)
  | .ge => decide (y ≤ x)
  | .gt => decide (y < x)
  | .le => decide (x ≤ y)
/-- the length of an instruction that the machine takes -/
def pm_len (i : Instr) (n : Nat) : Nat := match i with
  | .iload _ | .lload _ | .aload _ | .istore _ | .lstore _ | .astore _ | .bipush _ | .ldc _ | .newarray _ => 2
  | .sipush _ | .ldc_w _ | .ldc2_w _ | .ifCond _ _ | .if_icmp _ _ | .if_acmp _ _ | .goto _ | .iinc _ _ | .getfield _ | .putfield _ | .getstatic _ | .new _ | .anewarray _ | .invokevirtual _ | .invokespecial _ | .invokestatic _ => 3
  | .tableswitch _ _ _ _ | .lookupswitch _ _ => n
  | _ => 1
def pm_atype (t : ArrayType) : Nat := match t with
  | .int => 0
  | .byte => 1
  | .boolean => 2
  | .long => 3
  | _ => 99
def pm_blank (t N : Nat) : vp_A := match t with
  | 3 => (N, .inr (.inl (fun _ => 0)))
  | _ => (N, .inl (fun _ => 0))
def pm_step (own nL : Nat) (init : Bool) (xs : Nat → Int32) (L J : Nat) (i : Instr) (pc : Nat) (lv : pL) (st : List Value) (G : List pE) : Option pR := match i with
  | .iconst n => some (pc + 1, lv, .int (Int32.ofInt n) :: st, G, 0, 0)
  | .bipush n => some (pc + 2, lv, .int (Int8.ofInt n).toInt32 :: st, G, 0, 0)
  | .sipush n => some (pc + 3, lv, .int (Int16.ofInt n).toInt32 :: st, G, 0, 0)
  | .lconst n => some (pc + 1, lv, .long (Int64.ofNat (n : Nat)) :: st, G, 0, 0)
  | .iload j => match pm_get lv j with
    | some (.int x) => some (pc + 2, lv, .int x :: st, G, 0, 0)
    | _ => none
  | .iload_n j => match pm_get lv (j : Nat) with
    | some (.int x) => some (pc + 1, lv, .int x :: st, G, 0, 0)
    | _ => none
  | .lload j => match pm_get lv j with
    | some (.long x) => some (pc + 2, lv, .long x :: st, G, 0, 0)
    | _ => none
  | .lload_n j => match pm_get lv (j : Nat) with
    | some (.long x) => some (pc + 1, lv, .long x :: st, G, 0, 0)
    | _ => none
  | .aload j => match pm_get lv j with
    | some (.ref x) => some (pc + 2, lv, .ref x :: st, G, 0, 0)
    | some .null => some (pc + 2, lv, .null :: st, G, 0, 0)
    | _ => none
  | .aload_n j => match pm_get lv (j : Nat) with
    | some (.ref x) => some (pc + 1, lv, .ref x :: st, G, 0, 0)
    | some .null => some (pc + 1, lv, .null :: st, G, 0, 0)
    | _ => none
  | .istore j => match st with
    | .int x :: r => if j < nL then some (pc + 2, pm_put1 lv j (.int x), r, G, 0, 0) else none
    | _ => none
  | .istore_n j => match st with
    | .int x :: r => if (j : Nat) < nL then some (pc + 1, pm_put1 lv (j : Nat) (.int x), r, G, 0, 0) else none
    | _ => none
  | .astore j => match st with
    | .ref x :: r => if j < nL then some (pc + 2, pm_put1 lv j (.ref x), r, G, 0, 0) else none
    | .null :: r => if j < nL then some (pc + 2, pm_put1 lv j .null, r, G, 0, 0) else none
    | _ => none
  | .astore_n j => match st with
    | .ref x :: r => if (j : Nat) < nL then some (pc + 1, pm_put1 lv (j : Nat) (.ref x), r, G, 0, 0) else none
    | .null :: r => if (j : Nat) < nL then some (pc + 1, pm_put1 lv (j : Nat) .null, r, G, 0, 0) else none
    | _ => none
  | .iinc j n => match pm_get lv j with
    | some (.int x) => if j < nL then some (pc + 3, pm_put1 lv j (.int (x + Int32.ofInt n)), st, G, 0, 0) else none
    | _ => none
  | .iadd => match st with
    | .int y :: .int x :: r => some (pc + 1, lv, .int (x + y) :: r, G, 0, 0)
    | _ => none
  | .isub => match st with
    | .int y :: .int x :: r => some (pc + 1, lv, .int (x - y) :: r, G, 0, 0)
    | _ => none
  | .imul => match st with
    | .int y :: .int x :: r => some (pc + 1, lv, .int (x * y) :: r, G, 0, 0)
    | _ => none
  | .iand => match st with
    | .int y :: .int x :: r => some (pc + 1, lv, .int (x &&& y) :: r, G, 0, 0)
    | _ => none
  | .ior => match st with
    | .int y :: .int x :: r => some (pc + 1, lv, .int (x ||| y) :: r, G, 0, 0)
    | _ => none
  | .ixor => match st with
    | .int y :: .int x :: r => some (pc + 1, lv, .int (x ^^^ y) :: r, G, 0, 0)
    | _ => none
  | .idiv => match st with
    | .int y :: .int x :: r => if y = 0 then none else some (pc + 1, lv, .int (x / y) :: r, G, 0, 0)
    | _ => none
  | .irem => match st with
    | .int y :: .int x :: r => if y = 0 then none else some (pc + 1, lv, .int (x - x / y * y) :: r, G, 0, 0)
    | _ => none
  | .ishl => match st with
    | .int y :: .int x :: r => some (pc + 1, lv, .int (x <<< (y &&& 31)) :: r, G, 0, 0)
    | _ => none
  | .ishr => match st with
    | .int y :: .int x :: r => some (pc + 1, lv, .int (x >>> (y &&& 31)) :: r, G, 0, 0)
    | _ => none
  | .iushr => match st with
    | .int y :: .int x :: r => some (pc + 1, lv, .int (x.toUInt32 >>> (y.toUInt32 &&& Int32.toUInt32 31)).toInt32 :: r, G, 0, 0)
    | _ => none
  | .i2l => match st with
    | .int x :: r => some (pc + 1, lv, .long x.toInt64 :: r, G, 0, 0)
    | _ => none
  | .i2b => match st with
    | .int x :: r => some (pc + 1, lv, .int x.toInt8.toInt32 :: r, G, 0, 0)
    | _ => none
  | .ladd => match st with
    | .long y :: .long x :: r => some (pc + 1, lv, .long (x + y) :: r, G, 0, 0)
    | _ => none
  | .lmul => match st with
    | .long y :: .long x :: r => some (pc + 1, lv, .long (x * y) :: r, G, 0, 0)
    | _ => none
  | .lor => match st with
    | .long y :: .long x :: r => some (pc + 1, lv, .long (x ||| y) :: r, G, 0, 0)
    | _ => none
  | .lshl => match st with
    | .int y :: .long x :: r => some (pc + 1, lv, .long (x <<< (y.toInt64 &&& 63)) :: r, G, 0, 0)
    | _ => none
  | .lcmp => match st with
    | .long y :: .long x :: r => some (pc + 1, lv, .int (lg_cmp x y) :: r, G, 0, 0)
    | _ => none
  | .dup => match st with
    | v :: r => if v.category = 1 then some (pc + 1, lv, v :: v :: r, G, 0, 0) else none
    | _ => none
  | .pop => match st with
    | v :: r => if v.category = 1 then some (pc + 1, lv, r, G, 0, 0) else none
    | _ => none
  | .dup2 => match st with
    | v :: w :: r => if v.category = 1 ∧ w.category = 1 then some (pc + 1, lv, v :: w :: v :: w :: r, G, 0, 0) else none
    | _ => none
  | .ifCond c o => match st with
    | .int x :: r => pm_if (pm_holds c x 0) pc o lv r G
    | _ => none
  | .if_icmp c o => match st with
    | .int y :: .int x :: r => pm_if (pm_holds c x y) pc o lv r G
    | _ => none
  | .if_acmp c o => match st with
    | .ref b :: .ref a :: r => if pm_isTok a && pm_isTok b then pm_if (match c with
      | .eq => decide (a = b)
      | .ne => !decide (a = b)) pc o lv r G else none
    | .ref _ :: .null :: r => pm_if (match c with
      | .eq => false
      | .ne => true) pc o lv r G
    | .null :: .ref _ :: r => pm_if (match c with
      | .eq => false
      | .ne => true) pc o lv r G
    | _ => none
  | .goto o => match pm_tgt pc o with
    | some t => some (t, lv, st, G, 0, 0)
    | none => none
  | .tableswitch d lo hi offs => match st with
    | .int x :: r => if x.toInt < lo ∨ hi < x.toInt then (match pm_tgt pc d with
        | some t => some (t, lv, r, G, 0, 0)
        | none => none) else (match offs[(x.toInt - lo).toNat]? with
        | some o => (match pm_tgt pc o with
          | some t => some (t, lv, r, G, 0, 0)
          | none => none)
        | none => none)
    | _ => none
  | .lookupswitch d ps => match st with
    | .int x :: r => if (ps.toList.zip (ps.toList.drop 1)).all (fun (a, next) => a.1 < next.1) = true then (match pm_tgt pc (Op.lookupswitch.offset ps.toList d x.toInt) with
        | some t => some (t, lv, r, G, 0, 0)
        | none => none) else none
    | _ => none
  | .ldc k => match pm_ktab.find? (fun r => r.1 == own && r.2.1 == k) with
    | some r => some (pc + 2, lv, .int r.2.2.1 :: st, G, 0, 0)
    | none => none
  | .ldc_w k => match pm_ktab.find? (fun r => r.1 == own && r.2.1 == k) with
    | some r => some (pc + 3, lv, .int r.2.2.1 :: st, G, 0, 0)
    | none => none
  | .ldc2_w k => match pm_ltab.find? (fun r => r.1 == own && r.2.1 == k) with
    | some r => some (pc + 3, lv, .long r.2.2.1 :: st, G, 0, 0)
    | none => none
  | .getstatic k => match pm_stab.find? (fun r => r.1 == own && r.2.1 == k) with
    | some r => some (pc + 3, lv, .ref (if r.2.2.1 < 35 then pm_TB + r.2.2.1 else pm_KB) :: st, G, 0, 0)
    | none => none
  | .getfield k => match st with
    | .ref a :: r => if pm_isTok a then (if own = 2 ∧ k = 79 then some (pc + 3, lv, .long (pm_tokc.getD (a - pm_TB) 0) :: r, G, 0, 0) else none)
      else (match pm_ftab.find? (fun r => r.1 == own && r.2.1 == k) with
      | some q => (match G[a]? with
        | some (.inr (ci, fs)) => if ci = q.2.2.1 then (match fs[q.2.2.2.1]? with
          | some v => some (pc + 3, lv, v :: r, G, 0, 0)
          | none => none) else none
        | _ => none)
      | none => none)
    | _ => none
  | .putfield k => match st with
    | v :: .ref a :: r => (match pm_ftab.find? (fun r => r.1 == own && r.2.1 == k) with
      | some q => (match G[a]? with
        | some (.inr (ci, fs)) => if ci = q.2.2.1 ∧ q.2.2.2.1 < fs.length ∧ narrow (pm_ty ci q.2.2.2.1) v = v ∧ fits (pm_ty ci q.2.2.2.1) v = true ∧ (pm_fin ci q.2.2.2.1 = true → init = true ∧ pm_own own = pm_cn ci ∧ q.2.2.2.2.1 = 0) then some (pc + 3, lv, r, G.set a (.inr (ci, fs.set q.2.2.2.1 v)), 0, 0) else none
        | _ => none)
      | none => none)
    | _ => none
  | .iaload => match st with
    | .int j :: .ref a :: r => if a = pm_SB then (if pm_bad j L then none else some (pc + 1, lv, .int (xs j.toNatClampNeg) :: r, G, 0, 0)) else (match G[a]? with
      | some (.inl (0, n, .inl f)) => if pm_bad j n then none else some (pc + 1, lv, .int (f j.toNatClampNeg) :: r, G, 0, 0)
      | _ => none)
    | _ => none
  | .baload => match st with
    | .int j :: .ref a :: r => (match G[a]? with
      | some (.inl (1, n, .inl f)) => if pm_bad j n then none else some (pc + 1, lv, .int (f j.toNatClampNeg) :: r, G, 0, 0)
      | some (.inl (2, n, .inl f)) => if pm_bad j n then none else some (pc + 1, lv, .int (f j.toNatClampNeg) :: r, G, 0, 0)
      | _ => none)
    | _ => none
  | .laload => match st with
    | .int j :: .ref a :: r => (match G[a]? with
      | some (.inl (3, n, .inr (.inl f))) => if pm_bad j n then none else some (pc + 1, lv, .long (f j.toNatClampNeg) :: r, G, 0, 0)
      | _ => none)
    | _ => none
  | .aaload => match st with
    | .int j :: .ref a :: r => if a = pm_KB then (if pm_bad j 35 then none else some (pc + 1, lv, .ref (pm_TB + j.toNatClampNeg) :: r, G, 0, 0)) else (match G[a]? with
      | some (.inl (t, n, .inr (.inr (.inr (.inr g))))) => if pm_bad j n ∨ t < 4 ∨ 9 < t then none else some (pc + 1, lv, va_rf (g j.toNatClampNeg) :: r, G, 0, 0)
      | _ => none)
    | _ => none
  | .iastore => match st with
    | .int x :: .int j :: .ref a :: r => (match G[a]? with
      | some (.inl (0, n, .inl f)) => if pm_bad j n then none else some (pc + 1, lv, r, G.set a (.inl (0, n, .inl (upd f j.toNatClampNeg x))), 0, 0)
      | _ => none)
    | _ => none
  | .bastore => match st with
    | .int x :: .int j :: .ref a :: r => (match G[a]? with
      | some (.inl (1, n, .inl f)) => if pm_bad j n then none else some (pc + 1, lv, r, G.set a (.inl (1, n, .inl (upd f j.toNatClampNeg (vp_nar .byte x)))), 0, 0)
      | some (.inl (2, n, .inl f)) => if pm_bad j n then none else some (pc + 1, lv, r, G.set a (.inl (2, n, .inl (upd f j.toNatClampNeg (vp_nar .boolean x)))), 0, 0)
      | _ => none)
    | _ => none
  | .lastore => match st with
    | .long x :: .int j :: .ref a :: r => (match G[a]? with
      | some (.inl (3, n, .inr (.inl f))) => if pm_bad j n then none else some (pc + 1, lv, r, G.set a (.inl (3, n, .inr (.inl (vp_updL f j.toNatClampNeg x)))), 0, 0)
      | _ => none)
    | _ => none
  | .aastore => match st with
    | .ref v :: .int j :: .ref a :: r => (match G[a]? with
      | some (.inl (t, n, .inr (.inr (.inr (.inr g))))) => if pm_bad j n ∨ t < 4 ∨ 9 < t then none else (if pm_isTok v then (if t = 4 then some (pc + 1, lv, r, G.set a (.inl (t, n, .inr (.inr (.inr (.inr (va_up g j.toNatClampNeg (some v))))))), 0, 0) else none) else (match G[v]? with
        | some (.inr (ci, _)) => if pm_cn ci = pm_arrC t ∧ ci < 11 then some (pc + 1, lv, r, G.set a (.inl (t, n, .inr (.inr (.inr (.inr (va_up g j.toNatClampNeg (some v))))))), 0, 0) else none
        | _ => none))
      | _ => none)
    | .null :: .int j :: .ref a :: r => (match G[a]? with
      | some (.inl (t, n, .inr (.inr (.inr (.inr g))))) => if pm_bad j n ∨ t < 4 ∨ 9 < t then none else some (pc + 1, lv, r, G.set a (.inl (t, n, .inr (.inr (.inr (.inr (va_up g j.toNatClampNeg none)))))), 0, 0)
      | _ => none)
    | _ => none
  | .arraylength => match st with
    | .ref a :: r => if a = pm_SB then some (pc + 1, lv, .int (Int32.ofNat L) :: r, G, 0, 0) else if a = pm_KB then some (pc + 1, lv, .int (Int32.ofNat 35) :: r, G, 0, 0) else (match G[a]? with
      | some (.inl (t, x)) => if t < 10 then some (pc + 1, lv, .int (Int32.ofNat x.1) :: r, G, 0, 0) else none
      | _ => none)
    | _ => none
  | .new k => match pm_ntab.find? (fun r => r.1 == own && r.2.1 == k) with
    | some q => if q.2.2.1 < 11 ∧ G.length < pm_TB ∧ J = 0 then some (pc + 3, lv, .ref G.length :: st, G ++ [.inr (q.2.2.1, (List.range (pm_N q.2.2.1)).map (fun j => defaultValue (pm_ty q.2.2.1 j)))], 1, pm_N q.2.2.1) else none
    | none => none
  | .newarray t => match st with
    | .int n :: r => if n < 0 ∨ 10000 < n.toNatClampNeg ∨ 3 < pm_atype t ∨ pm_TB ≤ G.length ∨ J ≠ 0 then none else some (pc + 2, lv, .ref G.length :: r, G ++ [.inl (pm_atype t, pm_blank (pm_atype t) n.toNatClampNeg)], 1, n.toNatClampNeg)
    | _ => none
  | .anewarray k => match st with
    | .int n :: r => (match pm_ntab.find? (fun r => r.1 == own && r.2.1 == k) with
      | some q => if n < 0 ∨ 10000 < n.toNatClampNeg ∨ q.2.2.2.1 < 4 ∨ 9 < q.2.2.2.1 ∨ pm_TB ≤ G.length ∨ J ≠ 0 then none else some (pc + 3, lv, .ref G.length :: r, G ++ [.inl (q.2.2.2.1, n.toNatClampNeg, .inr (.inr (.inr (.inr (fun _ => none)))))], 1, n.toNatClampNeg)
      | none => none)
    | _ => none
  | _ => none
/-- what a returning instruction gives -/
def pm_ret (i : Instr) (rt : Option FieldType) (st : List Value) : Option (Option Value) := match i, st with
  | .return_, [] => if rt = none then some none else none
  | .ireturn, [.int v] => (match rt with
    | some ty => if narrow ty (.int v) = .int v ∧ (ty = .int ∨ ty = .boolean) then some (some (.int v)) else none
    | none => none)
  | .areturn, [.ref a] => (match rt with
    | some (.object _) => some (some (.ref a))
    | _ => none)
  | _, _ => none
/-- which calls: index -/
def pm_call (i : Instr) : Option (Nat × Nat) := match i with
  | .invokevirtual k => some (1, k)
  | .invokestatic k => some (2, k)
  | .invokespecial k => some (3, k)
  | _ => none
/-- the receiver is a cell of the method's class -/
def pm_recv (k : Nat) (M : pM) (as : List Value) (G : List pE) : Bool := match M.st with
  | true => true
  | false => (match as with
    | .ref b :: _ => (match k with
      | 3 => true
      | 6 => true
      | _ => (match G[b]? with
        | some (.inr (ci, _)) => decide (ci = M.ci)
        | _ => false))
    | _ => false)
def pm_na (M : pM) : Nat := if M.st then M.np else M.np + 1
/-- n steps at most, calls d deep -/
def pm_run (xs : Nat → Int32) (L J : Nat) : Nat → Nat → pM → Nat → pL → List Value → List pE → Nat → Nat → Option (Option Value × List pE × Nat × Nat)
  | 0, _, _, _, _, _, _, _, _ => none
  | f + 1, d, M, pc, lv, st, G, c, s => match decode M.code pc with
    | .error _ => none
    | .ok (i, n) => if pm_len i n = n then (match pm_ret i M.ret st with
      | some r => some (r, G, c, s)
      | none => (match pm_call i with
        | none => (match pm_step M.own M.maxL (decide (M.y.name = "<init>")) xs L J i pc lv st G with
          | some (pc', lv', st', G', dc, ds) => pm_run xs L J f d M pc' lv' st' G' (c + dc) (s + ds)
          | none => none)
        | some (w, k) => (match pm_ctab.find? (fun r => r.1 == M.own && r.2.1 == k) with
          | none => none
          | some q => (match q.2.2.1 with
            | 0 => (match st with
              | .ref _ :: r => if w = 3 ∧ 0 < d ∧ (r.map fun v => v.category).sum ≤ 8 then pm_run xs L J f d M (pc + 3) lv r G c s else none
              | _ => none)
            | 7 => (match st with
              | .int y :: .int x :: r => if w = 2 ∧ 0 < d ∧ (r.map fun v => v.category).sum ≤ 8 then pm_run xs L J f d M (pc + 3) lv (.int (if x < y then y else x) :: r) G c s else none
              | _ => none)
            | 8 => (match st with
              | .int y :: .int x :: r => if w = 2 ∧ 0 < d ∧ (r.map fun v => v.category).sum ≤ 8 then pm_run xs L J f d M (pc + 3) lv (.int (if y < x then y else x) :: r) G c s else none
              | _ => none)
            | 9 => (match st with
              | .int x :: r => if w = 2 ∧ 0 < d ∧ (r.map fun v => v.category).sum ≤ 8 then pm_run xs L J f d M (pc + 3) lv (.int (if 0 ≤ x then x else 0 - x) :: r) G c s else none
              | _ => none)
            | k => (match d, pm_tab[q.2.2.2.1]? with
              | d' + 1, some M' => if (k = w ∨ k = w + 3) ∧ pm_na M' ≤ st.length ∧ pm_recv k M' (st.take (pm_na M')).reverse G = true ∧ (lg_sl (st.take (pm_na M')).reverse).length ≤ M'.maxL ∧ ((st.drop (pm_na M')).map fun v => v.category).sum ≤ 8 then
                  (match pm_run xs L J f d' M' 0 (lv_args 0 (st.take (pm_na M')).reverse) [] G 0 0 with
                  | some (r, G', mc, ms) => pm_run xs L J f d M (pc + 3) lv (r.toList ++ st.drop (pm_na M')) G' (c + mc) (s + ms)
                  | none => none) else none
              | _, _ => none)))))
      else none
end
section
-- ===== the pure cells in the machine's heap =====
abbrev Om : Type := Nat × Nat × Nat × (Nat → Nat) × (Nat → ClassId) × (Nat → ClassId) × (Nat → Nat → Nat) × Heap × (Nat → Int32) × Nat × Nat
abbrev Om.B (o : Om) : Nat := o.1
abbrev Om.scr (o : Om) : Nat := o.2.1
abbrev Om.tks (o : Om) : Nat := o.2.2.1
abbrev Om.tad (o : Om) : Nat → Nat := o.2.2.2.1
abbrev Om.dA (o : Om) : Nat → ClassId := o.2.2.2.2.1
abbrev Om.dC (o : Om) : Nat → ClassId := o.2.2.2.2.2.1
abbrev Om.dI (o : Om) : Nat → Nat → Nat := o.2.2.2.2.2.2.1
abbrev Om.H0 (o : Om) : Heap := o.2.2.2.2.2.2.2.1
abbrev Om.xs (o : Om) : Nat → Int32 := o.2.2.2.2.2.2.2.2.1
abbrev Om.L (o : Om) : Nat := o.2.2.2.2.2.2.2.2.2.1
/-- how many cells lie behind the pure ones (exceptions that were thrown) -/
abbrev Om.J (o : Om) : Nat := o.2.2.2.2.2.2.2.2.2.2
abbrev Om.A (o : Om) : Nat → Prop := fun q => o.B ≤ q
def pm_ad (o : Om) (n : Nat) : Nat := if n < pm_TB then o.B + n else if n < pm_SB then o.tad (n - pm_TB) else if n < pm_KB then o.scr else o.tks
def pm_v (o : Om) (v : Value) : Value := match v with
  | .ref n => .ref (pm_ad o n)
  | v => v
def pm_a (o : Om) (a : vp_A) : vp_A := match a with
  | (n, .inr (.inr (.inr (.inr g)))) => (n, .inr (.inr (.inr (.inr (fun j => (g j).map (pm_ad o))))))
  | (n, .inr (.inr (.inr (.inl g)))) => (n, .inr (.inr (.inr (.inl g))))
  | (n, .inr (.inr (.inl g))) => (n, .inr (.inr (.inl g)))
  | (n, .inr (.inl g)) => (n, .inr (.inl g))
  | (n, .inl g) => (n, .inl g)
def pm_e (o : Om) (e : pE) : va_E := match e with
  | .inl (t, a) => .inl (o.dA t, pm_a o a)
  | .inr (c, fs) => .inr (c, fs.map (pm_v o))
def pm_w (o : Om) : Nat → List pE → va_W
  | _, [] => []
  | b, e :: es => (b, pm_e o e) :: pm_w o (b + 1) es
theorem pm_w_get (o : Om) : ∀ (G : List pE) (b k : Nat), (pm_w o b G)[k]? = (G[k]?).map (fun e => (b + k, pm_e o e))
  | [], b, k => by simp [pm_w]
  | e :: es, b, 0 => by simp [pm_w]
  | e :: es, b, k + 1 => by
    rw [pm_w, List.getElem?_cons_succ, List.getElem?_cons_succ, pm_w_get o es (b + 1) k]
    rw [Nat.add_assoc, Nat.add_comm 1 k]
theorem pm_w_set (o : Om) (e : pE) : ∀ (G : List pE) (b k : Nat), pm_w o b (G.set k e) = (pm_w o b G).set k (b + k, pm_e o e)
  | [], b, k => by simp [pm_w]
  | x :: es, b, 0 => by simp [pm_w]
  | x :: es, b, k + 1 => by
    rw [List.set_cons_succ, pm_w, pm_w, List.set_cons_succ, pm_w_set o e es (b + 1) k, Nat.add_assoc, Nat.add_comm 1 k]
theorem pm_w_app (o : Om) (e : pE) : ∀ (G : List pE) (b : Nat), pm_w o b (G ++ [e]) = pm_w o b G ++ [(b + G.length, pm_e o e)]
  | [], b => by simp [pm_w]
  | x :: es, b => by
    rw [List.cons_append, pm_w, pm_w, List.cons_append, pm_w_app o e es (b + 1), List.length_cons, Nat.add_assoc, Nat.add_comm 1 es.length]
theorem pm_w_D (o : Om) (b : Nat) (G : List pE) : va_D (fun q => b ≤ q) (pm_w o b G) := by
  refine ⟨fun i j p q hi hj h => ?_, fun k q hk => ?_⟩
  · rw [pm_w_get] at hi hj
    cases hgi : G[i]? with
    | none => rw [hgi] at hi; cases hi
    | some x =>
      cases hgj : G[j]? with
      | none => rw [hgj] at hj; cases hj
      | some y =>
        rw [hgi] at hi
        rw [hgj] at hj
        cases hi
        cases hj
        simp only at h
        omega
  · rw [pm_w_get] at hk
    cases hg : G[k]? with
    | none => rw [hg] at hk; cases hk
    | some x =>
      rw [hg] at hk
      cases hk
      exact Nat.le_add_right b k
/-- the machine's heap holds the cells G, from o.B on, and nothing else there; below it is as at the start -/
def pm_W (o : Om) (G : List pE) (H : Heap) : Prop := va_P (o.dC, o.dI) vwCl (pm_w o o.B G) H ∧ H.size = o.B + G.length + o.J ∧ (∀ q : Nat, q < o.B → H[q]? = o.H0[q]?) ∧ G.length ≤ pm_TB
theorem pm_W.lt {o : Om} {G : List pE} {H : Heap} (h : pm_W o G H) {k : Nat} {e : pE} (hk : G[k]? = some e) : pm_ad o k = o.B + k := by
  have h1 := (List.getElem?_eq_some_iff.mp hk).1
  have h2 := h.2.2.2
  unfold pm_ad
  rw [if_pos (by omega)]
theorem pm_W.at {o : Om} {G : List pE} {H : Heap} (h : pm_W o G H) {k : Nat} {e : pE} (hk : G[k]? = some e) : (pm_w o o.B G)[k]? = some (pm_ad o k, pm_e o e) := by
  rw [pm_w_get, hk, h.lt hk]
  rfl
theorem pm_W.set {o : Om} {G : List pE} {H H1 : Heap} (h : pm_W o G H) {k : Nat} {e0 e : pE} (hk : G[k]? = some e0) (he : va_at (o.dC, o.dI) vwCl (pm_ad o k, pm_e o e) H1) (hz : H1.size = H.size) (ho : ∀ q : Nat, q ≠ pm_ad o k → H1[q]? = H[q]?) : pm_W o (G.set k e) H1 := by
  have hl := h.lt hk
  refine ⟨?_, ?_, fun q hq => ?_, ?_⟩
  · rw [pm_w_set]
    rw [hl] at he ho
    exact h.1.set (pm_w_D o o.B G) (by rw [h.at hk, hl]) he ho
  · rw [hz, h.2.1, List.length_set]
  · rw [ho q (by rw [hl]; have := Nat.le_add_right o.B k; omega)]
    exact h.2.2.1 q hq
  · rw [List.length_set]
    exact h.2.2.2
theorem pm_W.push {o : Om} {G : List pE} {H H1 : Heap} (h : pm_W o G H) {e : pE} (hJ : o.J = 0) (hl : G.length < pm_TB) (he : va_at (o.dC, o.dI) vwCl (H.size, pm_e o e) H1) (hz : H1.size = H.size + 1) (ho : ∀ q : Nat, q < H.size → H1[q]? = H[q]?) : pm_W o (G ++ [e]) H1 := by
  refine ⟨?_, ?_, fun q hq => ?_, ?_⟩
  · rw [pm_w_app]
    refine va_P.app (h.1.kept (fun k q hk => ho q.1 (h.1 k q hk).lt)) (fun k q hk => ?_)
    have hz : k < 1 := (List.getElem?_eq_some_iff.mp hk).1
    rw [show k = 0 by omega] at hk
    cases hk
    have h21 := h.2.1
    rw [hJ, Nat.add_zero] at h21
    rw [← h21]
    exact he
  · rw [hz, h.2.1, List.length_append, List.length_singleton]
    omega
  · rw [ho q (by rw [h.2.1]; omega)]
    exact h.2.2.1 q hq
  · rw [List.length_append]
    exact hl
theorem pm_ad_new {o : Om} {G : List pE} {H : Heap} (h : pm_W o G H) (hJ : o.J = 0) (hl : G.length < pm_TB) : pm_ad o G.length = H.size := by
  unfold pm_ad
  rw [if_pos hl, h.2.1, hJ]
  rfl
-- ===== what holds of the tables =====
def pm_good (w : Cond) : Bool := match w with
  | .fieldLinkNest _ _ _ _ _ _ => true
  | .methodLinkNest _ _ _ _ => true
  | .arrayOver (.object _) => true
  | w => goodWord w
theorem pm_good_at {args a' : Array Value} {s U : State} (hW : s.WarmedH U.vm) {w : Cond} (hg : pm_good w = true) (h : w.before args s = true) : w.before a' U = true := by
  by_cases hn : goodWord w = true
  · exact word_at hW (good_of_word hn) h
  · unfold pm_good at hg
    split at hg
    · exact va_Nw.use rfl (va_Nw.warmF hW (va_Nw.of rfl h))
    · exact va_Nw.use rfl (va_Nw.warmM hW (va_Nw.of rfl h))
    · exact va_AO.use (va_AO.moved hW.alike (va_AO.of h))
    · exact absurd hg hn
def pm_tys (o : Om) : List (ClassId × FieldType) := (List.range 10).map (fun t => (o.dA t, pm_arr t))
theorem pm_tys_at (o : Om) {t : Nat} (h : t < 10) : (pm_tys o)[t]? = some (o.dA t, pm_arr t) := by
  unfold pm_tys
  rw [List.getElem?_map, List.getElem?_range h]
  rfl
def pm_Tk (o : Om) (U : State) : Prop :=
  (∀ k, k < 35 → va_Z "BreathingHill$Token" (pm_tok.getD k "") "LBreathingHill$Token;" (.ref (o.tad k)) o.A U o.H0 ∧ va_O "BreathingHill$Token" (o.tad k) o.A U o.H0 ∧ va_OF "BreathingHill$Token" "code" "J" (.long (pm_tokc.getD k 0)) (o.tad k) o.A U o.H0)
  ∧ va_Z "BreathingHill$Tape" "TOKENS" "[LBreathingHill$Token;" (.ref o.tks) o.A U o.H0 ∧ va_T (.object "BreathingHill$Token") o.tks 35 (fun j => .ref (o.tad j)) o.A U o.H0
  ∧ (∀ i j, i < 35 → j < 35 → o.tad i = o.tad j → i = j) ∧ ∃ cC, ClassAt U "BreathingHill$Token" cC
def pm_K (o : Om) (U : State) : Prop := (∀ w ∈ lw_tbl, pm_good w = true → w.before #[] U = true) ∧ va_K (o.dC, o.dI) vwCl (pm_tys o) U ∧ pm_Tk o U ∧ va_X o.scr o.L o.xs U o.H0 ∧ o.scr < o.B ∧ o.H0.size = o.B
theorem pm_K.warm {o : Om} {s U : State} (hW : s.WarmedH U.vm) (h : pm_K o s) : pm_K o U := by
  obtain ⟨h1, h2, ⟨t1, t2, t3, t4, cC, t5⟩, h4, h5⟩ := h
  have hA := hW.alike
  refine ⟨fun w hw hg => pm_good_at hW hg (h1 w hw hg), va_K.moved hA h2, ⟨fun k hk => ⟨va_Z.moved hA (t1 k hk).1, va_O.moved hA (t1 k hk).2.1, va_OF.moved hA (t1 k hk).2.2⟩, va_Z.moved hA t2, va_T.moved hA t3, t4, cC, ?_⟩, va_X.moved hA h4, h5⟩
  obtain ⟨g1, k, g2, g3⟩ := t5
  obtain ⟨k', hk', he⟩ := hA.2.2 _ _ g2
  exact ⟨by rw [hA.findClass]; exact g1, k', hk', by rw [he]; exact g3⟩
theorem pm_K.calling {o : Om} {U : State} {g : JFrame} {mk : MethodId} {a : Array Value} (h : pm_K o U) : pm_K o (U.calling g mk a) := pm_K.warm (s := U) (U := U.calling g mk a) (State.WarmedH.refl U) h
theorem pm_K.word {o : Om} {s : State} (h : pm_K o s) {i : Nat} {w : Cond} (hi : lw_tbl[i]? = some w) (hg : pm_good w = true) (args : Array Value) : w.before args s = true := pm_good_at (State.WarmedH.refl s) hg (h.1 w (List.mem_of_getElem? hi) hg)
end
section
-- ===== one step of the pure machine is the machine's: what the stack and the locals alone need =====
def pm_l (o : Om) (lv : pL) : List (Nat × Value) := lv.map (fun q => (q.1, pm_v o q.2))
theorem pm_v_cat (o : Om) (v : Value) : (pm_v o v).category = v.category := by cases v <;> rfl
theorem pm_l_get {o : Om} {lv : pL} {ls : Array Slot} {nL i : Nat} {v : Value} (h : lv_has ls nL (pm_l o lv)) (hg : pm_get lv i = some v) : ls[i]? = some (.val (pm_v o v)) := by
  unfold pm_get at hg
  cases hf : lv.find? (fun q => q.1 == i) with
  | none => rw [hf] at hg; cases hg
  | some q =>
    rw [hf] at hg
    cases hg
    have h1 := List.mem_of_find?_eq_some hf
    have h2 := List.find?_some hf
    simp only [beq_iff_eq] at h2
    have h3 := h.2.2 (q.1, pm_v o q.2) (List.mem_map.mpr ⟨q, h1, rfl⟩)
    rw [← h2]
    exact h3
theorem pm_l_at {o : Om} {lv : pL} {i : Nat} {v : Value} (hg : pm_get lv i = some v) : ∃ k : Nat, (pm_l o lv)[k]? = some (i, pm_v o v) := by
  unfold pm_get at hg
  cases hf : lv.find? (fun q => q.1 == i) with
  | none => rw [hf] at hg; cases hg
  | some q =>
    rw [hf] at hg
    cases hg
    have h1 := List.mem_of_find?_eq_some hf
    have h2 := List.find?_some hf
    simp only [beq_iff_eq] at h2
    have h3 : (i, pm_v o q.2) ∈ pm_l o lv := List.mem_map.mpr ⟨q, h1, by rw [h2]⟩
    obtain ⟨k, hk⟩ := List.getElem?_of_mem h3
    exact ⟨k, hk⟩
theorem pm_l_put1 (o : Om) (lv : pL) (i : Nat) (v : Value) : (i, pm_v o v) :: (pm_l o lv).filter (fun q => !(q.1 == i) && !(q.1 + 1 == i && q.2.category == 2)) = pm_l o (pm_put1 lv i v) := by
  unfold pm_l pm_put1
  rw [List.map_cons, List.filter_map]
  congr 2
  apply List.filter_congr
  intro q _
  simp [pm_v_cat]
/-- the machine, from any frame that stands for this pure one, comes to Q -/
def PW (p : Program) (l : Launch) (e : Env) (R : Room) (s : State) (m : MethodId) (args : Array Value) (below : List Frame) (meth : Method) (c : Code) (Q : State → Prop) (o : Om) (M : pM) (pc : Nat) (lv : pL) (st : List Value) (G : List pE) (cells slots : Nat) : Prop :=
  ∀ (H : Heap) (locs : List Loc) (ls : Array Slot), pm_W o G H → (∀ q ∈ locs, o.B ≤ q.base) → lv_has ls M.maxL (pm_l o lv) → W p l e R s m args below meth c H locs cells slots Q (F0 m pc ls (st.map (pm_v o)))
def pm_Fix (p : Program) (s : State) (m : MethodId) (meth : Method) (c : Code) (M : pM) : Prop := p.tables.exec = Jvm.exec ∧ c.code = M.code ∧ c.maxLocals = M.maxL ∧ s.vm.findClass (pm_own M.own) = some m.cls ∧ meth.sig.returnType = M.ret ∧ meth.locks = false ∧ meth.name = M.y.name
theorem pm_tgt_spec {pc t : Nat} {off : Int} (h : pm_tgt pc off = some t) : (pc : Int) + off = (t : Int) := by
  unfold pm_tgt at h
  split at h
  · cases h
    omega
  · cases h
section PSA
variable {p : Program} {l : Launch} {e : Env} {R : Room} {s : State} {m : MethodId} {args : Array Value} {below : List Frame} {meth : Method} {c : Code} {Q : State → Prop} {o : Om} {M : pM} {G G' : List pE} {lv lv' : pL} {st st' : List Value} {pc pc' dc ds n cells slots : Nat}
theorem pm_s_iconst {k : Int} (hx : p.tables.exec = Jvm.exec) (hb : c.code = M.code) (hd : decode M.code pc = .ok (.iconst k, n)) (hn : pm_len (.iconst k) n = n) {ini : Bool} {xs : Nat → Int32} {L J : Nat} (hr : pm_step M.own M.maxL ini xs L J (.iconst k) pc lv st G = some (pc', lv', st', G', dc, ds)) (kk : PW p l e R s m args below meth c Q o M pc' lv' st' G' (cells + dc) (slots + ds)) : PW p l e R s m args below meth c Q o M pc lv st G cells slots := by
  intro H locs ls hW hL hl
  obtain rfl : 1 = n := hn
  dsimp only [pm_step] at hr
  cases hr
  exact lv_iconst hx hb hd rfl (kk H locs ls hW hL hl)
theorem pm_s_bipush {k : Int} (hx : p.tables.exec = Jvm.exec) (hb : c.code = M.code) (hd : decode M.code pc = .ok (.bipush k, n)) (hn : pm_len (.bipush k) n = n) {ini : Bool} {xs : Nat → Int32} {L J : Nat} (hr : pm_step M.own M.maxL ini xs L J (.bipush k) pc lv st G = some (pc', lv', st', G', dc, ds)) (kk : PW p l e R s m args below meth c Q o M pc' lv' st' G' (cells + dc) (slots + ds)) : PW p l e R s m args below meth c Q o M pc lv st G cells slots := by
  intro H locs ls hW hL hl
  obtain rfl : 2 = n := hn
  dsimp only [pm_step] at hr
  cases hr
  exact lv_bipush hx hb hd rfl (kk H locs ls hW hL hl)
theorem pm_s_sipush {k : Int} (hx : p.tables.exec = Jvm.exec) (hb : c.code = M.code) (hd : decode M.code pc = .ok (.sipush k, n)) (hn : pm_len (.sipush k) n = n) {ini : Bool} {xs : Nat → Int32} {L J : Nat} (hr : pm_step M.own M.maxL ini xs L J (.sipush k) pc lv st G = some (pc', lv', st', G', dc, ds)) (kk : PW p l e R s m args below meth c Q o M pc' lv' st' G' (cells + dc) (slots + ds)) : PW p l e R s m args below meth c Q o M pc lv st G cells slots := by
  intro H locs ls hW hL hl
  obtain rfl : 3 = n := hn
  dsimp only [pm_step] at hr
  cases hr
  exact lv_sipush hx hb hd rfl (kk H locs ls hW hL hl)
theorem pm_s_lconst {k : Fin 2} (hx : p.tables.exec = Jvm.exec) (hb : c.code = M.code) (hd : decode M.code pc = .ok (.lconst k, n)) (hn : pm_len (.lconst k) n = n) {ini : Bool} {xs : Nat → Int32} {L J : Nat} (hr : pm_step M.own M.maxL ini xs L J (.lconst k) pc lv st G = some (pc', lv', st', G', dc, ds)) (kk : PW p l e R s m args below meth c Q o M pc' lv' st' G' (cells + dc) (slots + ds)) : PW p l e R s m args below meth c Q o M pc lv st G cells slots := by
  intro H locs ls hW hL hl
  obtain rfl : 1 = n := hn
  dsimp only [pm_step] at hr
  cases hr
  exact lv_lconst hx hb hd rfl (kk H locs ls hW hL hl)
theorem pm_s_iload {k : Nat} (hx : p.tables.exec = Jvm.exec) (hb : c.code = M.code) (hd : decode M.code pc = .ok (.iload k, n)) (hn : pm_len (.iload k) n = n) {ini : Bool} {xs : Nat → Int32} {L J : Nat} (hr : pm_step M.own M.maxL ini xs L J (.iload k) pc lv st G = some (pc', lv', st', G', dc, ds)) (kk : PW p l e R s m args below meth c Q o M pc' lv' st' G' (cells + dc) (slots + ds)) : PW p l e R s m args below meth c Q o M pc lv st G cells slots := by
  intro H locs ls hW hL hl
  obtain rfl : 2 = n := hn
  dsimp only [pm_step] at hr
  split at hr
  · rename_i hg
    cases hr
    exact lv_iload hx hb hd (pm_l_get hl hg) (kk H locs ls hW hL hl)
  · cases hr
theorem pm_s_lload {k : Nat} (hx : p.tables.exec = Jvm.exec) (hb : c.code = M.code) (hd : decode M.code pc = .ok (.lload k, n)) (hn : pm_len (.lload k) n = n) {ini : Bool} {xs : Nat → Int32} {L J : Nat} (hr : pm_step M.own M.maxL ini xs L J (.lload k) pc lv st G = some (pc', lv', st', G', dc, ds)) (kk : PW p l e R s m args below meth c Q o M pc' lv' st' G' (cells + dc) (slots + ds)) : PW p l e R s m args below meth c Q o M pc lv st G cells slots := by
  intro H locs ls hW hL hl
  obtain rfl : 2 = n := hn
  dsimp only [pm_step] at hr
  split at hr
  · rename_i hg
    cases hr
    exact lv_lload hx hb hd (pm_l_get hl hg) (kk H locs ls hW hL hl)
  · cases hr
theorem pm_s_aload {k : Nat} (hx : p.tables.exec = Jvm.exec) (hb : c.code = M.code) (hd : decode M.code pc = .ok (.aload k, n)) (hn : pm_len (.aload k) n = n) {ini : Bool} {xs : Nat → Int32} {L J : Nat} (hr : pm_step M.own M.maxL ini xs L J (.aload k) pc lv st G = some (pc', lv', st', G', dc, ds)) (kk : PW p l e R s m args below meth c Q o M pc' lv' st' G' (cells + dc) (slots + ds)) : PW p l e R s m args below meth c Q o M pc lv st G cells slots := by
  intro H locs ls hW hL hl
  obtain rfl : 2 = n := hn
  dsimp only [pm_step] at hr
  split at hr
  · rename_i hg
    cases hr
    exact lv_aload hx hb hd (pm_l_get hl hg) (kk H locs ls hW hL hl)
  · rename_i hg
    cases hr
    exact lv_aloadN hx hb hd (pm_l_get hl hg) (kk H locs ls hW hL hl)
  · cases hr
theorem pm_s_iload_n {k : Fin 4} (hx : p.tables.exec = Jvm.exec) (hb : c.code = M.code) (hd : decode M.code pc = .ok (.iload_n k, n)) (hn : pm_len (.iload_n k) n = n) {ini : Bool} {xs : Nat → Int32} {L J : Nat} (hr : pm_step M.own M.maxL ini xs L J (.iload_n k) pc lv st G = some (pc', lv', st', G', dc, ds)) (kk : PW p l e R s m args below meth c Q o M pc' lv' st' G' (cells + dc) (slots + ds)) : PW p l e R s m args below meth c Q o M pc lv st G cells slots := by
  intro H locs ls hW hL hl
  obtain rfl : 1 = n := hn
  dsimp only [pm_step] at hr
  split at hr
  · rename_i hg
    cases hr
    exact lv_iload_n hx hb hd rfl (pm_l_get hl hg) (kk H locs ls hW hL hl)
  · cases hr
theorem pm_s_lload_n {k : Fin 4} (hx : p.tables.exec = Jvm.exec) (hb : c.code = M.code) (hd : decode M.code pc = .ok (.lload_n k, n)) (hn : pm_len (.lload_n k) n = n) {ini : Bool} {xs : Nat → Int32} {L J : Nat} (hr : pm_step M.own M.maxL ini xs L J (.lload_n k) pc lv st G = some (pc', lv', st', G', dc, ds)) (kk : PW p l e R s m args below meth c Q o M pc' lv' st' G' (cells + dc) (slots + ds)) : PW p l e R s m args below meth c Q o M pc lv st G cells slots := by
  intro H locs ls hW hL hl
  obtain rfl : 1 = n := hn
  dsimp only [pm_step] at hr
  split at hr
  · rename_i hg
    cases hr
    exact lv_lload_n hx hb hd rfl (pm_l_get hl hg) (kk H locs ls hW hL hl)
  · cases hr
theorem pm_s_aload_n {k : Fin 4} (hx : p.tables.exec = Jvm.exec) (hb : c.code = M.code) (hd : decode M.code pc = .ok (.aload_n k, n)) (hn : pm_len (.aload_n k) n = n) {ini : Bool} {xs : Nat → Int32} {L J : Nat} (hr : pm_step M.own M.maxL ini xs L J (.aload_n k) pc lv st G = some (pc', lv', st', G', dc, ds)) (kk : PW p l e R s m args below meth c Q o M pc' lv' st' G' (cells + dc) (slots + ds)) : PW p l e R s m args below meth c Q o M pc lv st G cells slots := by
  intro H locs ls hW hL hl
  obtain rfl : 1 = n := hn
  dsimp only [pm_step] at hr
  split at hr
  · rename_i hg
    cases hr
    exact lv_aload_n hx hb hd rfl (pm_l_get hl hg) (kk H locs ls hW hL hl)
  · rename_i hg
    cases hr
    exact lv_aload_nN hx hb hd rfl (pm_l_get hl hg) (kk H locs ls hW hL hl)
  · cases hr
theorem pm_s_istore {k : Nat} (hx : p.tables.exec = Jvm.exec) (hb : c.code = M.code) (hd : decode M.code pc = .ok (.istore k, n)) (hn : pm_len (.istore k) n = n) {ini : Bool} {xs : Nat → Int32} {L J : Nat} (hr : pm_step M.own M.maxL ini xs L J (.istore k) pc lv st G = some (pc', lv', st', G', dc, ds)) (kk : PW p l e R s m args below meth c Q o M pc' lv' st' G' (cells + dc) (slots + ds)) : PW p l e R s m args below meth c Q o M pc lv st G cells slots := by
  intro H locs ls hW hL hl
  obtain rfl : 2 = n := hn
  dsimp only [pm_step] at hr
  split at hr
  · split at hr
    · rename_i hi
      cases hr
      exact lv_istore hx hb hd hl hi (pm_l_put1 o lv _ (.int _)) (fun ls hl => kk H locs ls hW hL hl)
    · cases hr
  · cases hr
theorem pm_s_astore {k : Nat} (hx : p.tables.exec = Jvm.exec) (hb : c.code = M.code) (hd : decode M.code pc = .ok (.astore k, n)) (hn : pm_len (.astore k) n = n) {ini : Bool} {xs : Nat → Int32} {L J : Nat} (hr : pm_step M.own M.maxL ini xs L J (.astore k) pc lv st G = some (pc', lv', st', G', dc, ds)) (kk : PW p l e R s m args below meth c Q o M pc' lv' st' G' (cells + dc) (slots + ds)) : PW p l e R s m args below meth c Q o M pc lv st G cells slots := by
  intro H locs ls hW hL hl
  obtain rfl : 2 = n := hn
  dsimp only [pm_step] at hr
  split at hr
  · split at hr
    · rename_i hi
      cases hr
      exact lv_astore hx hb hd hl hi (pm_l_put1 o lv _ (.ref _)) (fun ls hl => kk H locs ls hW hL hl)
    · cases hr
  · split at hr
    · rename_i hi
      cases hr
      exact lv_astoreN hx hb hd hl hi (pm_l_put1 o lv _ .null) (fun ls hl => kk H locs ls hW hL hl)
    · cases hr
  · cases hr
theorem pm_s_istore_n {k : Fin 4} (hx : p.tables.exec = Jvm.exec) (hb : c.code = M.code) (hd : decode M.code pc = .ok (.istore_n k, n)) (hn : pm_len (.istore_n k) n = n) {ini : Bool} {xs : Nat → Int32} {L J : Nat} (hr : pm_step M.own M.maxL ini xs L J (.istore_n k) pc lv st G = some (pc', lv', st', G', dc, ds)) (kk : PW p l e R s m args below meth c Q o M pc' lv' st' G' (cells + dc) (slots + ds)) : PW p l e R s m args below meth c Q o M pc lv st G cells slots := by
  intro H locs ls hW hL hl
  obtain rfl : 1 = n := hn
  dsimp only [pm_step] at hr
  split at hr
  · split at hr
    · rename_i hi
      cases hr
      exact lv_istore_n hx hb hd rfl hl hi (pm_l_put1 o lv _ (.int _)) (fun ls hl => kk H locs ls hW hL hl)
    · cases hr
  · cases hr
theorem pm_s_astore_n {k : Fin 4} (hx : p.tables.exec = Jvm.exec) (hb : c.code = M.code) (hd : decode M.code pc = .ok (.astore_n k, n)) (hn : pm_len (.astore_n k) n = n) {ini : Bool} {xs : Nat → Int32} {L J : Nat} (hr : pm_step M.own M.maxL ini xs L J (.astore_n k) pc lv st G = some (pc', lv', st', G', dc, ds)) (kk : PW p l e R s m args below meth c Q o M pc' lv' st' G' (cells + dc) (slots + ds)) : PW p l e R s m args below meth c Q o M pc lv st G cells slots := by
  intro H locs ls hW hL hl
  obtain rfl : 1 = n := hn
  dsimp only [pm_step] at hr
  split at hr
  · split at hr
    · rename_i hi
      cases hr
      exact lv_astore_n hx hb hd rfl hl hi (pm_l_put1 o lv _ (.ref _)) (fun ls hl => kk H locs ls hW hL hl)
    · cases hr
  · split at hr
    · rename_i hi
      cases hr
      exact lv_astore_nN hx hb hd rfl hl hi (pm_l_put1 o lv _ .null) (fun ls hl => kk H locs ls hW hL hl)
    · cases hr
  · cases hr
theorem pm_s_iinc {k : Nat} {j : Int} (hx : p.tables.exec = Jvm.exec) (hb : c.code = M.code) (hd : decode M.code pc = .ok (.iinc k j, n)) (hn : pm_len (.iinc k j) n = n) {ini : Bool} {xs : Nat → Int32} {L J : Nat} (hr : pm_step M.own M.maxL ini xs L J (.iinc k j) pc lv st G = some (pc', lv', st', G', dc, ds)) (kk : PW p l e R s m args below meth c Q o M pc' lv' st' G' (cells + dc) (slots + ds)) : PW p l e R s m args below meth c Q o M pc lv st G cells slots := by
  intro H locs ls hW hL hl
  obtain rfl : 3 = n := hn
  dsimp only [pm_step] at hr
  split at hr
  · rename_i hg
    split at hr
    · rename_i hi
      cases hr
      obtain ⟨q, hq⟩ := pm_l_at (o := o) hg
      exact lv_iinc hx hb hd hl hq rfl hi (pm_l_put1 o lv _ (.int _)) (fun ls hl => kk H locs ls hW hL hl)
    · cases hr
  · cases hr
theorem pm_s_iadd  (hx : p.tables.exec = Jvm.exec) (hb : c.code = M.code) (hd : decode M.code pc = .ok (.iadd, n)) (hn : pm_len (.iadd) n = n) {ini : Bool} {xs : Nat → Int32} {L J : Nat} (hr : pm_step M.own M.maxL ini xs L J (.iadd) pc lv st G = some (pc', lv', st', G', dc, ds)) (kk : PW p l e R s m args below meth c Q o M pc' lv' st' G' (cells + dc) (slots + ds)) : PW p l e R s m args below meth c Q o M pc lv st G cells slots := by
  intro H locs ls hW hL hl
  obtain rfl : 1 = n := hn
  dsimp only [pm_step] at hr
  split at hr
  · cases hr
    exact lv_iadd hx hb hd (kk H locs ls hW hL hl)
  · cases hr
theorem pm_s_isub  (hx : p.tables.exec = Jvm.exec) (hb : c.code = M.code) (hd : decode M.code pc = .ok (.isub, n)) (hn : pm_len (.isub) n = n) {ini : Bool} {xs : Nat → Int32} {L J : Nat} (hr : pm_step M.own M.maxL ini xs L J (.isub) pc lv st G = some (pc', lv', st', G', dc, ds)) (kk : PW p l e R s m args below meth c Q o M pc' lv' st' G' (cells + dc) (slots + ds)) : PW p l e R s m args below meth c Q o M pc lv st G cells slots := by
  intro H locs ls hW hL hl
  obtain rfl : 1 = n := hn
  dsimp only [pm_step] at hr
  split at hr
  · cases hr
    exact lv_isub hx hb hd (kk H locs ls hW hL hl)
  · cases hr
theorem pm_s_imul  (hx : p.tables.exec = Jvm.exec) (hb : c.code = M.code) (hd : decode M.code pc = .ok (.imul, n)) (hn : pm_len (.imul) n = n) {ini : Bool} {xs : Nat → Int32} {L J : Nat} (hr : pm_step M.own M.maxL ini xs L J (.imul) pc lv st G = some (pc', lv', st', G', dc, ds)) (kk : PW p l e R s m args below meth c Q o M pc' lv' st' G' (cells + dc) (slots + ds)) : PW p l e R s m args below meth c Q o M pc lv st G cells slots := by
  intro H locs ls hW hL hl
  obtain rfl : 1 = n := hn
  dsimp only [pm_step] at hr
  split at hr
  · cases hr
    exact lv_imul hx hb hd (kk H locs ls hW hL hl)
  · cases hr
theorem pm_s_iand  (hx : p.tables.exec = Jvm.exec) (hb : c.code = M.code) (hd : decode M.code pc = .ok (.iand, n)) (hn : pm_len (.iand) n = n) {ini : Bool} {xs : Nat → Int32} {L J : Nat} (hr : pm_step M.own M.maxL ini xs L J (.iand) pc lv st G = some (pc', lv', st', G', dc, ds)) (kk : PW p l e R s m args below meth c Q o M pc' lv' st' G' (cells + dc) (slots + ds)) : PW p l e R s m args below meth c Q o M pc lv st G cells slots := by
  intro H locs ls hW hL hl
  obtain rfl : 1 = n := hn
  dsimp only [pm_step] at hr
  split at hr
  · cases hr
    exact lv_iand hx hb hd (kk H locs ls hW hL hl)
  · cases hr
theorem pm_s_ior  (hx : p.tables.exec = Jvm.exec) (hb : c.code = M.code) (hd : decode M.code pc = .ok (.ior, n)) (hn : pm_len (.ior) n = n) {ini : Bool} {xs : Nat → Int32} {L J : Nat} (hr : pm_step M.own M.maxL ini xs L J (.ior) pc lv st G = some (pc', lv', st', G', dc, ds)) (kk : PW p l e R s m args below meth c Q o M pc' lv' st' G' (cells + dc) (slots + ds)) : PW p l e R s m args below meth c Q o M pc lv st G cells slots := by
  intro H locs ls hW hL hl
  obtain rfl : 1 = n := hn
  dsimp only [pm_step] at hr
  split at hr
  · cases hr
    exact lv_ior hx hb hd (kk H locs ls hW hL hl)
  · cases hr
theorem pm_s_ixor  (hx : p.tables.exec = Jvm.exec) (hb : c.code = M.code) (hd : decode M.code pc = .ok (.ixor, n)) (hn : pm_len (.ixor) n = n) {ini : Bool} {xs : Nat → Int32} {L J : Nat} (hr : pm_step M.own M.maxL ini xs L J (.ixor) pc lv st G = some (pc', lv', st', G', dc, ds)) (kk : PW p l e R s m args below meth c Q o M pc' lv' st' G' (cells + dc) (slots + ds)) : PW p l e R s m args below meth c Q o M pc lv st G cells slots := by
  intro H locs ls hW hL hl
  obtain rfl : 1 = n := hn
  dsimp only [pm_step] at hr
  split at hr
  · cases hr
    exact lv_ixor hx hb hd (kk H locs ls hW hL hl)
  · cases hr
theorem pm_s_ishl  (hx : p.tables.exec = Jvm.exec) (hb : c.code = M.code) (hd : decode M.code pc = .ok (.ishl, n)) (hn : pm_len (.ishl) n = n) {ini : Bool} {xs : Nat → Int32} {L J : Nat} (hr : pm_step M.own M.maxL ini xs L J (.ishl) pc lv st G = some (pc', lv', st', G', dc, ds)) (kk : PW p l e R s m args below meth c Q o M pc' lv' st' G' (cells + dc) (slots + ds)) : PW p l e R s m args below meth c Q o M pc lv st G cells slots := by
  intro H locs ls hW hL hl
  obtain rfl : 1 = n := hn
  dsimp only [pm_step] at hr
  split at hr
  · cases hr
    exact lv_ishl hx hb hd (kk H locs ls hW hL hl)
  · cases hr
theorem pm_s_ishr  (hx : p.tables.exec = Jvm.exec) (hb : c.code = M.code) (hd : decode M.code pc = .ok (.ishr, n)) (hn : pm_len (.ishr) n = n) {ini : Bool} {xs : Nat → Int32} {L J : Nat} (hr : pm_step M.own M.maxL ini xs L J (.ishr) pc lv st G = some (pc', lv', st', G', dc, ds)) (kk : PW p l e R s m args below meth c Q o M pc' lv' st' G' (cells + dc) (slots + ds)) : PW p l e R s m args below meth c Q o M pc lv st G cells slots := by
  intro H locs ls hW hL hl
  obtain rfl : 1 = n := hn
  dsimp only [pm_step] at hr
  split at hr
  · cases hr
    exact lv_ishr hx hb hd (kk H locs ls hW hL hl)
  · cases hr
theorem pm_s_ladd  (hx : p.tables.exec = Jvm.exec) (hb : c.code = M.code) (hd : decode M.code pc = .ok (.ladd, n)) (hn : pm_len (.ladd) n = n) {ini : Bool} {xs : Nat → Int32} {L J : Nat} (hr : pm_step M.own M.maxL ini xs L J (.ladd) pc lv st G = some (pc', lv', st', G', dc, ds)) (kk : PW p l e R s m args below meth c Q o M pc' lv' st' G' (cells + dc) (slots + ds)) : PW p l e R s m args below meth c Q o M pc lv st G cells slots := by
  intro H locs ls hW hL hl
  obtain rfl : 1 = n := hn
  dsimp only [pm_step] at hr
  split at hr
  · cases hr
    exact lv_ladd hx hb hd (kk H locs ls hW hL hl)
  · cases hr
theorem pm_s_lmul  (hx : p.tables.exec = Jvm.exec) (hb : c.code = M.code) (hd : decode M.code pc = .ok (.lmul, n)) (hn : pm_len (.lmul) n = n) {ini : Bool} {xs : Nat → Int32} {L J : Nat} (hr : pm_step M.own M.maxL ini xs L J (.lmul) pc lv st G = some (pc', lv', st', G', dc, ds)) (kk : PW p l e R s m args below meth c Q o M pc' lv' st' G' (cells + dc) (slots + ds)) : PW p l e R s m args below meth c Q o M pc lv st G cells slots := by
  intro H locs ls hW hL hl
  obtain rfl : 1 = n := hn
  dsimp only [pm_step] at hr
  split at hr
  · cases hr
    exact lv_lmul hx hb hd (kk H locs ls hW hL hl)
  · cases hr
theorem pm_s_lor  (hx : p.tables.exec = Jvm.exec) (hb : c.code = M.code) (hd : decode M.code pc = .ok (.lor, n)) (hn : pm_len (.lor) n = n) {ini : Bool} {xs : Nat → Int32} {L J : Nat} (hr : pm_step M.own M.maxL ini xs L J (.lor) pc lv st G = some (pc', lv', st', G', dc, ds)) (kk : PW p l e R s m args below meth c Q o M pc' lv' st' G' (cells + dc) (slots + ds)) : PW p l e R s m args below meth c Q o M pc lv st G cells slots := by
  intro H locs ls hW hL hl
  obtain rfl : 1 = n := hn
  dsimp only [pm_step] at hr
  split at hr
  · cases hr
    exact lv_lor hx hb hd (kk H locs ls hW hL hl)
  · cases hr
theorem pm_s_lcmp  (hx : p.tables.exec = Jvm.exec) (hb : c.code = M.code) (hd : decode M.code pc = .ok (.lcmp, n)) (hn : pm_len (.lcmp) n = n) {ini : Bool} {xs : Nat → Int32} {L J : Nat} (hr : pm_step M.own M.maxL ini xs L J (.lcmp) pc lv st G = some (pc', lv', st', G', dc, ds)) (kk : PW p l e R s m args below meth c Q o M pc' lv' st' G' (cells + dc) (slots + ds)) : PW p l e R s m args below meth c Q o M pc lv st G cells slots := by
  intro H locs ls hW hL hl
  obtain rfl : 1 = n := hn
  dsimp only [pm_step] at hr
  split at hr
  · cases hr
    exact W.lcmp hx hb hd (kk H locs ls hW hL hl)
  · cases hr
theorem pm_s_iushr  (hx : p.tables.exec = Jvm.exec) (hb : c.code = M.code) (hd : decode M.code pc = .ok (.iushr, n)) (hn : pm_len (.iushr) n = n) {ini : Bool} {xs : Nat → Int32} {L J : Nat} (hr : pm_step M.own M.maxL ini xs L J (.iushr) pc lv st G = some (pc', lv', st', G', dc, ds)) (kk : PW p l e R s m args below meth c Q o M pc' lv' st' G' (cells + dc) (slots + ds)) : PW p l e R s m args below meth c Q o M pc lv st G cells slots := by
  intro H locs ls hW hL hl
  obtain rfl : 1 = n := hn
  dsimp only [pm_step] at hr
  split at hr
  · cases hr
    exact lv_iushr hx hb hd rfl (kk H locs ls hW hL hl)
  · cases hr
theorem pm_s_lshl  (hx : p.tables.exec = Jvm.exec) (hb : c.code = M.code) (hd : decode M.code pc = .ok (.lshl, n)) (hn : pm_len (.lshl) n = n) {ini : Bool} {xs : Nat → Int32} {L J : Nat} (hr : pm_step M.own M.maxL ini xs L J (.lshl) pc lv st G = some (pc', lv', st', G', dc, ds)) (kk : PW p l e R s m args below meth c Q o M pc' lv' st' G' (cells + dc) (slots + ds)) : PW p l e R s m args below meth c Q o M pc lv st G cells slots := by
  intro H locs ls hW hL hl
  obtain rfl : 1 = n := hn
  dsimp only [pm_step] at hr
  split at hr
  · cases hr
    exact lv_lshl hx hb hd rfl (kk H locs ls hW hL hl)
  · cases hr
theorem pm_s_i2l  (hx : p.tables.exec = Jvm.exec) (hb : c.code = M.code) (hd : decode M.code pc = .ok (.i2l, n)) (hn : pm_len (.i2l) n = n) {ini : Bool} {xs : Nat → Int32} {L J : Nat} (hr : pm_step M.own M.maxL ini xs L J (.i2l) pc lv st G = some (pc', lv', st', G', dc, ds)) (kk : PW p l e R s m args below meth c Q o M pc' lv' st' G' (cells + dc) (slots + ds)) : PW p l e R s m args below meth c Q o M pc lv st G cells slots := by
  intro H locs ls hW hL hl
  obtain rfl : 1 = n := hn
  dsimp only [pm_step] at hr
  split at hr
  · cases hr
    exact lv_i2l hx hb hd rfl (kk H locs ls hW hL hl)
  · cases hr
theorem pm_s_i2b  (hx : p.tables.exec = Jvm.exec) (hb : c.code = M.code) (hd : decode M.code pc = .ok (.i2b, n)) (hn : pm_len (.i2b) n = n) {ini : Bool} {xs : Nat → Int32} {L J : Nat} (hr : pm_step M.own M.maxL ini xs L J (.i2b) pc lv st G = some (pc', lv', st', G', dc, ds)) (kk : PW p l e R s m args below meth c Q o M pc' lv' st' G' (cells + dc) (slots + ds)) : PW p l e R s m args below meth c Q o M pc lv st G cells slots := by
  intro H locs ls hW hL hl
  obtain rfl : 1 = n := hn
  dsimp only [pm_step] at hr
  split at hr
  · cases hr
    exact lv_i2b hx hb hd rfl (kk H locs ls hW hL hl)
  · cases hr
theorem pm_s_idiv  (hx : p.tables.exec = Jvm.exec) (hb : c.code = M.code) (hd : decode M.code pc = .ok (.idiv, n)) (hn : pm_len (.idiv) n = n) {ini : Bool} {xs : Nat → Int32} {L J : Nat} (hr : pm_step M.own M.maxL ini xs L J (.idiv) pc lv st G = some (pc', lv', st', G', dc, ds)) (kk : PW p l e R s m args below meth c Q o M pc' lv' st' G' (cells + dc) (slots + ds)) : PW p l e R s m args below meth c Q o M pc lv st G cells slots := by
  intro H locs ls hW hL hl
  obtain rfl : 1 = n := hn
  dsimp only [pm_step] at hr
  split at hr
  · split at hr
    · cases hr
    · rename_i hz
      cases hr
      exact lv_idiv hx hb hd hz (kk H locs ls hW hL hl)
  · cases hr
theorem pm_s_irem  (hx : p.tables.exec = Jvm.exec) (hb : c.code = M.code) (hd : decode M.code pc = .ok (.irem, n)) (hn : pm_len (.irem) n = n) {ini : Bool} {xs : Nat → Int32} {L J : Nat} (hr : pm_step M.own M.maxL ini xs L J (.irem) pc lv st G = some (pc', lv', st', G', dc, ds)) (kk : PW p l e R s m args below meth c Q o M pc' lv' st' G' (cells + dc) (slots + ds)) : PW p l e R s m args below meth c Q o M pc lv st G cells slots := by
  intro H locs ls hW hL hl
  obtain rfl : 1 = n := hn
  dsimp only [pm_step] at hr
  split at hr
  · split at hr
    · cases hr
    · rename_i hz
      cases hr
      exact lv_irem hx hb hd hz (kk H locs ls hW hL hl)
  · cases hr
theorem pm_s_dup  (hx : p.tables.exec = Jvm.exec) (hb : c.code = M.code) (hd : decode M.code pc = .ok (.dup, n)) (hn : pm_len (.dup) n = n) {ini : Bool} {xs : Nat → Int32} {L J : Nat} (hr : pm_step M.own M.maxL ini xs L J (.dup) pc lv st G = some (pc', lv', st', G', dc, ds)) (kk : PW p l e R s m args below meth c Q o M pc' lv' st' G' (cells + dc) (slots + ds)) : PW p l e R s m args below meth c Q o M pc lv st G cells slots := by
  intro H locs ls hW hL hl
  obtain rfl : 1 = n := hn
  dsimp only [pm_step] at hr
  split at hr
  · split at hr
    · rename_i hv
      cases hr
      exact lv_dup hx hb hd (by rw [pm_v_cat]; exact hv) (kk H locs ls hW hL hl)
    · cases hr
  · cases hr
theorem pm_s_pop  (hx : p.tables.exec = Jvm.exec) (hb : c.code = M.code) (hd : decode M.code pc = .ok (.pop, n)) (hn : pm_len (.pop) n = n) {ini : Bool} {xs : Nat → Int32} {L J : Nat} (hr : pm_step M.own M.maxL ini xs L J (.pop) pc lv st G = some (pc', lv', st', G', dc, ds)) (kk : PW p l e R s m args below meth c Q o M pc' lv' st' G' (cells + dc) (slots + ds)) : PW p l e R s m args below meth c Q o M pc lv st G cells slots := by
  intro H locs ls hW hL hl
  obtain rfl : 1 = n := hn
  dsimp only [pm_step] at hr
  split at hr
  · split at hr
    · rename_i hv
      cases hr
      exact lv_pop hx hb hd (by rw [pm_v_cat]; exact hv) (kk H locs ls hW hL hl)
    · cases hr
  · cases hr
theorem pm_s_dup2  (hx : p.tables.exec = Jvm.exec) (hb : c.code = M.code) (hd : decode M.code pc = .ok (.dup2, n)) (hn : pm_len (.dup2) n = n) {ini : Bool} {xs : Nat → Int32} {L J : Nat} (hr : pm_step M.own M.maxL ini xs L J (.dup2) pc lv st G = some (pc', lv', st', G', dc, ds)) (kk : PW p l e R s m args below meth c Q o M pc' lv' st' G' (cells + dc) (slots + ds)) : PW p l e R s m args below meth c Q o M pc lv st G cells slots := by
  intro H locs ls hW hL hl
  obtain rfl : 1 = n := hn
  dsimp only [pm_step] at hr
  split at hr
  · split at hr
    · rename_i hv
      cases hr
      exact lv_dup2_11 hx hb hd (by rw [pm_v_cat]; exact hv.1) (by rw [pm_v_cat]; exact hv.2) (kk H locs ls hW hL hl)
    · cases hr
  · cases hr
theorem pm_s_goto {k : Int} (hx : p.tables.exec = Jvm.exec) (hb : c.code = M.code) (hd : decode M.code pc = .ok (.goto k, n)) (hn : pm_len (.goto k) n = n) {ini : Bool} {xs : Nat → Int32} {L J : Nat} (hr : pm_step M.own M.maxL ini xs L J (.goto k) pc lv st G = some (pc', lv', st', G', dc, ds)) (kk : PW p l e R s m args below meth c Q o M pc' lv' st' G' (cells + dc) (slots + ds)) : PW p l e R s m args below meth c Q o M pc lv st G cells slots := by
  intro H locs ls hW hL hl
  obtain rfl : 3 = n := hn
  dsimp only [pm_step] at hr
  split at hr
  · rename_i ht
    cases hr
    exact lv_goto hx hb hd (pm_tgt_spec ht) (kk H locs ls hW hL hl)
  · cases hr
theorem pm_s_ifCond_eq {k : Int} (hx : p.tables.exec = Jvm.exec) (hb : c.code = M.code) (hd : decode M.code pc = .ok (.ifCond .eq k, n)) (hn : pm_len (.ifCond .eq k) n = n) {ini : Bool} {xs : Nat → Int32} {L J : Nat} (hr : pm_step M.own M.maxL ini xs L J (.ifCond .eq k) pc lv st G = some (pc', lv', st', G', dc, ds)) (kk : PW p l e R s m args below meth c Q o M pc' lv' st' G' (cells + dc) (slots + ds)) : PW p l e R s m args below meth c Q o M pc lv st G cells slots := by
  intro H locs ls hW hL hl
  obtain rfl : 3 = n := hn
  dsimp only [pm_step] at hr
  split at hr
  · unfold pm_if at hr
    split at hr
    · cases hr
    · rename_i ht
      cases hr
      have hk := kk H locs ls hW hL hl
      refine lv_if_eq hx hb hd (pm_tgt_spec ht) (fun h => ?_) (fun h => ?_)
      · rw [if_pos (by simp only [pm_holds]; exact decide_eq_true h)] at hk
        exact hk
      · rw [if_neg (by simp only [pm_holds]; exact fun z => h (of_decide_eq_true z))] at hk
        exact hk
  · cases hr
theorem pm_s_ifCond_ne {k : Int} (hx : p.tables.exec = Jvm.exec) (hb : c.code = M.code) (hd : decode M.code pc = .ok (.ifCond .ne k, n)) (hn : pm_len (.ifCond .ne k) n = n) {ini : Bool} {xs : Nat → Int32} {L J : Nat} (hr : pm_step M.own M.maxL ini xs L J (.ifCond .ne k) pc lv st G = some (pc', lv', st', G', dc, ds)) (kk : PW p l e R s m args below meth c Q o M pc' lv' st' G' (cells + dc) (slots + ds)) : PW p l e R s m args below meth c Q o M pc lv st G cells slots := by
  intro H locs ls hW hL hl
  obtain rfl : 3 = n := hn
  dsimp only [pm_step] at hr
  split at hr
  · unfold pm_if at hr
    split at hr
    · cases hr
    · rename_i ht
      cases hr
      have hk := kk H locs ls hW hL hl
      refine lv_if_ne hx hb hd (pm_tgt_spec ht) (fun h => ?_) (fun h => ?_)
      · rw [if_pos (by simp only [pm_holds]; exact decide_eq_true h)] at hk
        exact hk
      · rw [if_neg (by simp only [pm_holds]; exact fun z => of_decide_eq_true z h)] at hk
        exact hk
  · cases hr
theorem pm_s_ifCond_lt {k : Int} (hx : p.tables.exec = Jvm.exec) (hb : c.code = M.code) (hd : decode M.code pc = .ok (.ifCond .lt k, n)) (hn : pm_len (.ifCond .lt k) n = n) {ini : Bool} {xs : Nat → Int32} {L J : Nat} (hr : pm_step M.own M.maxL ini xs L J (.ifCond .lt k) pc lv st G = some (pc', lv', st', G', dc, ds)) (kk : PW p l e R s m args below meth c Q o M pc' lv' st' G' (cells + dc) (slots + ds)) : PW p l e R s m args below meth c Q o M pc lv st G cells slots := by
  intro H locs ls hW hL hl
  obtain rfl : 3 = n := hn
  dsimp only [pm_step] at hr
  split at hr
  · unfold pm_if at hr
    split at hr
    · cases hr
    · rename_i ht
      cases hr
      have hk := kk H locs ls hW hL hl
      refine lv_if_lt hx hb hd (pm_tgt_spec ht) (fun h => ?_) (fun h => ?_)
      · rw [if_pos (by simp only [pm_holds]; exact decide_eq_true h)] at hk
        exact hk
      · rw [if_neg (by simp only [pm_holds]; exact fun z => h (of_decide_eq_true z))] at hk
        exact hk
  · cases hr
theorem pm_s_ifCond_ge {k : Int} (hx : p.tables.exec = Jvm.exec) (hb : c.code = M.code) (hd : decode M.code pc = .ok (.ifCond .ge k, n)) (hn : pm_len (.ifCond .ge k) n = n) {ini : Bool} {xs : Nat → Int32} {L J : Nat} (hr : pm_step M.own M.maxL ini xs L J (.ifCond .ge k) pc lv st G = some (pc', lv', st', G', dc, ds)) (kk : PW p l e R s m args below meth c Q o M pc' lv' st' G' (cells + dc) (slots + ds)) : PW p l e R s m args below meth c Q o M pc lv st G cells slots := by
  intro H locs ls hW hL hl
  obtain rfl : 3 = n := hn
  dsimp only [pm_step] at hr
  split at hr
  · unfold pm_if at hr
    split at hr
    · cases hr
    · rename_i ht
      cases hr
      have hk := kk H locs ls hW hL hl
      refine lv_if_ge hx hb hd (pm_tgt_spec ht) (fun h => ?_) (fun h => ?_)
      · rw [if_pos (by simp only [pm_holds]; exact decide_eq_true h)] at hk
        exact hk
      · rw [if_neg (by simp only [pm_holds]; exact fun z => h (of_decide_eq_true z))] at hk
        exact hk
  · cases hr
theorem pm_s_ifCond_gt {k : Int} (hx : p.tables.exec = Jvm.exec) (hb : c.code = M.code) (hd : decode M.code pc = .ok (.ifCond .gt k, n)) (hn : pm_len (.ifCond .gt k) n = n) {ini : Bool} {xs : Nat → Int32} {L J : Nat} (hr : pm_step M.own M.maxL ini xs L J (.ifCond .gt k) pc lv st G = some (pc', lv', st', G', dc, ds)) (kk : PW p l e R s m args below meth c Q o M pc' lv' st' G' (cells + dc) (slots + ds)) : PW p l e R s m args below meth c Q o M pc lv st G cells slots := by
  intro H locs ls hW hL hl
  obtain rfl : 3 = n := hn
  dsimp only [pm_step] at hr
  split at hr
  · unfold pm_if at hr
    split at hr
    · cases hr
    · rename_i ht
      cases hr
      have hk := kk H locs ls hW hL hl
      refine lv_if_gt hx hb hd (pm_tgt_spec ht) (fun h => ?_) (fun h => ?_)
      · rw [if_pos (by simp only [pm_holds]; exact decide_eq_true h)] at hk
        exact hk
      · rw [if_neg (by simp only [pm_holds]; exact fun z => h (of_decide_eq_true z))] at hk
        exact hk
  · cases hr
theorem pm_s_ifCond_le {k : Int} (hx : p.tables.exec = Jvm.exec) (hb : c.code = M.code) (hd : decode M.code pc = .ok (.ifCond .le k, n)) (hn : pm_len (.ifCond .le k) n = n) {ini : Bool} {xs : Nat → Int32} {L J : Nat} (hr : pm_step M.own M.maxL ini xs L J (.ifCond .le k) pc lv st G = some (pc', lv', st', G', dc, ds)) (kk : PW p l e R s m args below meth c Q o M pc' lv' st' G' (cells + dc) (slots + ds)) : PW p l e R s m args below meth c Q o M pc lv st G cells slots := by
  intro H locs ls hW hL hl
  obtain rfl : 3 = n := hn
  dsimp only [pm_step] at hr
  split at hr
  · unfold pm_if at hr
    split at hr
    · cases hr
    · rename_i ht
      cases hr
      have hk := kk H locs ls hW hL hl
      refine lv_if_le hx hb hd (pm_tgt_spec ht) (fun h => ?_) (fun h => ?_)
      · rw [if_pos (by simp only [pm_holds]; exact decide_eq_true h)] at hk
        exact hk
      · rw [if_neg (by simp only [pm_holds]; exact fun z => h (of_decide_eq_true z))] at hk
        exact hk
  · cases hr
theorem pm_s_if_icmp_eq {k : Int} (hx : p.tables.exec = Jvm.exec) (hb : c.code = M.code) (hd : decode M.code pc = .ok (.if_icmp .eq k, n)) (hn : pm_len (.if_icmp .eq k) n = n) {ini : Bool} {xs : Nat → Int32} {L J : Nat} (hr : pm_step M.own M.maxL ini xs L J (.if_icmp .eq k) pc lv st G = some (pc', lv', st', G', dc, ds)) (kk : PW p l e R s m args below meth c Q o M pc' lv' st' G' (cells + dc) (slots + ds)) : PW p l e R s m args below meth c Q o M pc lv st G cells slots := by
  intro H locs ls hW hL hl
  obtain rfl : 3 = n := hn
  dsimp only [pm_step] at hr
  split at hr
  · unfold pm_if at hr
    split at hr
    · cases hr
    · rename_i ht
      cases hr
      have hk := kk H locs ls hW hL hl
      refine lv_icmp_eq hx hb hd (pm_tgt_spec ht) (fun h => ?_) (fun h => ?_)
      · rw [if_pos (by simp only [pm_holds]; exact decide_eq_true h)] at hk
        exact hk
      · rw [if_neg (by simp only [pm_holds]; exact fun z => h (of_decide_eq_true z))] at hk
        exact hk
  · cases hr
theorem pm_s_if_icmp_ne {k : Int} (hx : p.tables.exec = Jvm.exec) (hb : c.code = M.code) (hd : decode M.code pc = .ok (.if_icmp .ne k, n)) (hn : pm_len (.if_icmp .ne k) n = n) {ini : Bool} {xs : Nat → Int32} {L J : Nat} (hr : pm_step M.own M.maxL ini xs L J (.if_icmp .ne k) pc lv st G = some (pc', lv', st', G', dc, ds)) (kk : PW p l e R s m args below meth c Q o M pc' lv' st' G' (cells + dc) (slots + ds)) : PW p l e R s m args below meth c Q o M pc lv st G cells slots := by
  intro H locs ls hW hL hl
  obtain rfl : 3 = n := hn
  dsimp only [pm_step] at hr
  split at hr
  · unfold pm_if at hr
    split at hr
    · cases hr
    · rename_i ht
      cases hr
      have hk := kk H locs ls hW hL hl
      refine lv_icmp_ne hx hb hd (pm_tgt_spec ht) (fun h => ?_) (fun h => ?_)
      · rw [if_pos (by simp only [pm_holds]; exact decide_eq_true h)] at hk
        exact hk
      · rw [if_neg (by simp only [pm_holds]; exact fun z => of_decide_eq_true z h)] at hk
        exact hk
  · cases hr
theorem pm_s_if_icmp_lt {k : Int} (hx : p.tables.exec = Jvm.exec) (hb : c.code = M.code) (hd : decode M.code pc = .ok (.if_icmp .lt k, n)) (hn : pm_len (.if_icmp .lt k) n = n) {ini : Bool} {xs : Nat → Int32} {L J : Nat} (hr : pm_step M.own M.maxL ini xs L J (.if_icmp .lt k) pc lv st G = some (pc', lv', st', G', dc, ds)) (kk : PW p l e R s m args below meth c Q o M pc' lv' st' G' (cells + dc) (slots + ds)) : PW p l e R s m args below meth c Q o M pc lv st G cells slots := by
  intro H locs ls hW hL hl
  obtain rfl : 3 = n := hn
  dsimp only [pm_step] at hr
  split at hr
  · unfold pm_if at hr
    split at hr
    · cases hr
    · rename_i ht
      cases hr
      have hk := kk H locs ls hW hL hl
      refine lv_icmp_lt hx hb hd (pm_tgt_spec ht) (fun h => ?_) (fun h => ?_)
      · rw [if_pos (by simp only [pm_holds]; exact decide_eq_true h)] at hk
        exact hk
      · rw [if_neg (by simp only [pm_holds]; exact fun z => h (of_decide_eq_true z))] at hk
        exact hk
  · cases hr
theorem pm_s_if_icmp_ge {k : Int} (hx : p.tables.exec = Jvm.exec) (hb : c.code = M.code) (hd : decode M.code pc = .ok (.if_icmp .ge k, n)) (hn : pm_len (.if_icmp .ge k) n = n) {ini : Bool} {xs : Nat → Int32} {L J : Nat} (hr : pm_step M.own M.maxL ini xs L J (.if_icmp .ge k) pc lv st G = some (pc', lv', st', G', dc, ds)) (kk : PW p l e R s m args below meth c Q o M pc' lv' st' G' (cells + dc) (slots + ds)) : PW p l e R s m args below meth c Q o M pc lv st G cells slots := by
  intro H locs ls hW hL hl
  obtain rfl : 3 = n := hn
  dsimp only [pm_step] at hr
  split at hr
  · unfold pm_if at hr
    split at hr
    · cases hr
    · rename_i ht
      cases hr
      have hk := kk H locs ls hW hL hl
      refine lv_icmp_ge hx hb hd (pm_tgt_spec ht) (fun h => ?_) (fun h => ?_)
      · rw [if_pos (by simp only [pm_holds]; exact decide_eq_true h)] at hk
        exact hk
      · rw [if_neg (by simp only [pm_holds]; exact fun z => h (of_decide_eq_true z))] at hk
        exact hk
  · cases hr
theorem pm_s_if_icmp_gt {k : Int} (hx : p.tables.exec = Jvm.exec) (hb : c.code = M.code) (hd : decode M.code pc = .ok (.if_icmp .gt k, n)) (hn : pm_len (.if_icmp .gt k) n = n) {ini : Bool} {xs : Nat → Int32} {L J : Nat} (hr : pm_step M.own M.maxL ini xs L J (.if_icmp .gt k) pc lv st G = some (pc', lv', st', G', dc, ds)) (kk : PW p l e R s m args below meth c Q o M pc' lv' st' G' (cells + dc) (slots + ds)) : PW p l e R s m args below meth c Q o M pc lv st G cells slots := by
  intro H locs ls hW hL hl
  obtain rfl : 3 = n := hn
  dsimp only [pm_step] at hr
  split at hr
  · unfold pm_if at hr
    split at hr
    · cases hr
    · rename_i ht
      cases hr
      have hk := kk H locs ls hW hL hl
      refine lv_icmp_gt hx hb hd (pm_tgt_spec ht) (fun h => ?_) (fun h => ?_)
      · rw [if_pos (by simp only [pm_holds]; exact decide_eq_true h)] at hk
        exact hk
      · rw [if_neg (by simp only [pm_holds]; exact fun z => h (of_decide_eq_true z))] at hk
        exact hk
  · cases hr
theorem pm_s_if_icmp_le {k : Int} (hx : p.tables.exec = Jvm.exec) (hb : c.code = M.code) (hd : decode M.code pc = .ok (.if_icmp .le k, n)) (hn : pm_len (.if_icmp .le k) n = n) {ini : Bool} {xs : Nat → Int32} {L J : Nat} (hr : pm_step M.own M.maxL ini xs L J (.if_icmp .le k) pc lv st G = some (pc', lv', st', G', dc, ds)) (kk : PW p l e R s m args below meth c Q o M pc' lv' st' G' (cells + dc) (slots + ds)) : PW p l e R s m args below meth c Q o M pc lv st G cells slots := by
  intro H locs ls hW hL hl
  obtain rfl : 3 = n := hn
  dsimp only [pm_step] at hr
  split at hr
  · unfold pm_if at hr
    split at hr
    · cases hr
    · rename_i ht
      cases hr
      have hk := kk H locs ls hW hL hl
      refine lv_icmp_le hx hb hd (pm_tgt_spec ht) (fun h => ?_) (fun h => ?_)
      · rw [if_pos (by simp only [pm_holds]; exact decide_eq_true h)] at hk
        exact hk
      · rw [if_neg (by simp only [pm_holds]; exact fun z => h (of_decide_eq_true z))] at hk
        exact hk
  · cases hr
theorem pm_s_tableswitch {d lo hi : Int} {offs : Array Int} (hx : p.tables.exec = Jvm.exec) (hb : c.code = M.code) (hd : decode M.code pc = .ok (.tableswitch d lo hi offs, n)) (hn : pm_len (.tableswitch d lo hi offs) n = n) {ini : Bool} {xs : Nat → Int32} {L J : Nat} (hr : pm_step M.own M.maxL ini xs L J (.tableswitch d lo hi offs) pc lv st G = some (pc', lv', st', G', dc, ds)) (kk : PW p l e R s m args below meth c Q o M pc' lv' st' G' (cells + dc) (slots + ds)) : PW p l e R s m args below meth c Q o M pc lv st G cells slots := by
  intro H locs ls hW hL hl
  dsimp only [pm_step] at hr
  split at hr
  · split at hr
    · rename_i hh
      split at hr
      · rename_i ht
        cases hr
        exact lv_tableOut hx hb hd hh (pm_tgt_spec ht) (kk H locs ls hW hL hl)
      · cases hr
    · rename_i hh
      split at hr
      · rename_i ho
        split at hr
        · rename_i ht
          cases hr
          exact lv_tableIn hx hb hd (fun z => hh (Or.inl z)) (fun z => hh (Or.inr z)) ho (pm_tgt_spec ht) (kk H locs ls hW hL hl)
        · cases hr
      · cases hr
  · cases hr
theorem pm_s_lookupswitch {d : Int} {ps : Array (Int × Int)} (hx : p.tables.exec = Jvm.exec) (hb : c.code = M.code) (hd : decode M.code pc = .ok (.lookupswitch d ps, n)) (hn : pm_len (.lookupswitch d ps) n = n) {ini : Bool} {xs : Nat → Int32} {L J : Nat} (hr : pm_step M.own M.maxL ini xs L J (.lookupswitch d ps) pc lv st G = some (pc', lv', st', G', dc, ds)) (kk : PW p l e R s m args below meth c Q o M pc' lv' st' G' (cells + dc) (slots + ds)) : PW p l e R s m args below meth c Q o M pc lv st G cells slots := by
  intro H locs ls hW hL hl
  dsimp only [pm_step] at hr
  split at hr
  · split at hr
    · rename_i hp
      split at hr
      · rename_i ht
        cases hr
        exact lv_lookup hx hb hd hp rfl (pm_tgt_spec ht) (kk H locs ls hW hL hl)
      · cases hr
    · cases hr
  · cases hr
end PSA
end
section
-- ===== one step: constants, statics, fields, arrays, new cells =====
theorem pm_find {α : Type} {l : List α} {f : α → Bool} {r : α} (h : l.find? f = some r) {g : α → Bool} (ha : l.all g = true) : f r = true ∧ g r = true := ⟨List.find?_some h, List.all_eq_true.mp ha r (List.mem_of_find?_eq_some h)⟩
theorem pm_find2 {α : Type} {l : List (Nat × Nat × α)} {own k : Nat} {r : Nat × Nat × α} (h : l.find? (fun r => r.1 == own && r.2.1 == k) = some r) {g : Nat × Nat × α → Bool} (ha : l.all g = true) : r.1 = own ∧ r.2.1 = k ∧ g r = true := by
  obtain ⟨h1, h2⟩ := pm_find h ha
  simp only [Bool.and_eq_true, beq_iff_eq] at h1
  exact ⟨h1.1, h1.2, h2⟩
theorem pm_cls {ci : Nat} (h : ci < 11) : ∃ q : vw_C, vwCl[ci]? = some q ∧ (∀ k, k < q.2.2 → parseFieldDescriptor (q.2.1 k).2.2.1 = some (pm_ty ci k)) ∧ (∀ a, a < q.2.2 → ∀ b, b < q.2.2 → a ≠ b → (q.2.1 a).2.1 ≠ (q.2.1 b).2.1) ∧ (∀ k, k < q.2.2 → (q.2.1 k).1 = q.1) ∧ q.2.2 = pm_N ci ∧ q.1 = pm_cn ci ∧ (∀ k, (q.2.1 k).2.2.2 = pm_fin ci k) := by
  rcases (show ci = 0 ∨ ci = 1 ∨ ci = 2 ∨ ci = 3 ∨ ci = 4 ∨ ci = 5 ∨ ci = 6 ∨ ci = 7 ∨ ci = 8 ∨ ci = 9 ∨ ci = 10 by omega) with rfl | rfl | rfl | rfl | rfl | rfl | rfl | rfl | rfl | rfl | rfl
  · exact ⟨(RX0, TX0, 8), rfl, tyX0_ok, nmX0, by decide +kernel, rfl, rfl, fun _ => rfl⟩
  · exact ⟨(RX1, TX1, 9), rfl, tyX1_ok, nmX1, by decide +kernel, rfl, rfl, fun _ => rfl⟩
  · exact ⟨(RX2, TX2, 3), rfl, tyX2_ok, nmX2, by decide +kernel, rfl, rfl, fun _ => rfl⟩
  · exact ⟨(RX3, TX3, 6), rfl, tyX3_ok, nmX3, by decide +kernel, rfl, rfl, fun _ => rfl⟩
  · exact ⟨(RX4, TX4, 4), rfl, tyX4_ok, nmX4, by decide +kernel, rfl, rfl, fun _ => rfl⟩
  · exact ⟨(RX5, TX5, 4), rfl, tyX5_ok, nmX5, by decide +kernel, rfl, rfl, fun _ => rfl⟩
  · exact ⟨(RX6, TX6, 6), rfl, tyX6_ok, nmX6, by decide +kernel, rfl, rfl, fun _ => rfl⟩
  · exact ⟨(RX7, TX7, 10), rfl, tyX7_ok, nmX7, by decide +kernel, rfl, rfl, fun _ => rfl⟩
  · exact ⟨(RX8, TX8, 10), rfl, tyX8_ok, nmX8, by decide +kernel, rfl, rfl, fun _ => rfl⟩
  · exact ⟨(RX10, TX10, 18), rfl, tyX10_ok, nmX10, by decide +kernel, rfl, rfl, fun _ => rfl⟩
  · exact ⟨(RX11, TX11, 45), rfl, tyX11_ok, nmX11, by decide +kernel, rfl, rfl, fun _ => rfl⟩
theorem pm_cls_lt {ci : Nat} {q : vw_C} (h : vwCl[ci]? = some q) : ci < 11 := (List.getElem?_eq_some_iff.mp h).1
/-- the words of the fields are among the tables' -/
def pm_lchk2 (ci : Nat) : Bool := match vwCl[ci]? with
  | some q => (u_ws q.1 q.2.1 q.2.2).all (fun w => lw_tbl.contains w && pm_good w)
  | none => true
theorem pm_lays : ∀ ci, ci < 11 → pm_lchk2 ci = true := by decide +kernel
theorem pm_hin {ci : Nat} {q : vw_C} (h : vwCl[ci]? = some q) : ∀ w ∈ u_ws q.1 q.2.1 q.2.2, w ∈ lw_tbl.filter pm_good := by
  intro w hw
  have h1 := pm_lays ci (pm_cls_lt h)
  unfold pm_lchk2 at h1
  rw [h] at h1
  have h2 := List.all_eq_true.mp h1 w hw
  rw [Bool.and_eq_true] at h2
  exact List.mem_filter.mpr ⟨List.contains_iff_mem.mp h2.1, h2.2⟩
theorem pm_hts {o : Om} {s : State} (h : pm_K o s) (args : Array Value) : ∀ w ∈ lw_tbl.filter pm_good, w.before args s = true := by
  intro w hw
  obtain ⟨h1, h2⟩ := List.mem_filter.mp hw
  exact pm_good_at (State.WarmedH.refl s) h2 (h.1 w h1 h2)
theorem pm_bad_in {j : Int32} {n : Nat} (h : ¬ pm_bad j n = true) : vp_in j n := by
  unfold pm_bad at h
  simp only [Bool.or_eq_true, decide_eq_true_eq] at h
  exact h
theorem pm_tokad {o : Om} {a : Nat} (h : pm_isTok a = true) : pm_ad o a = o.tad (a - pm_TB) ∧ a - pm_TB < 35 := by
  unfold pm_isTok at h
  simp only [Bool.and_eq_true, decide_eq_true_eq] at h
  unfold pm_ad
  rw [if_neg (by omega), if_pos (by unfold pm_SB; unfold pm_TB at h; omega)]
  exact ⟨rfl, by omega⟩
theorem pm_v_narrow (o : Om) {ty : FieldType} {v : Value} (h : narrow ty v = v) : narrow ty (pm_v o v) = pm_v o v := by
  cases v <;> first | exact h | (cases ty <;> rfl)
theorem pm_v_fits (o : Om) {ty : FieldType} {v : Value} (h : fits ty v = true) : fits ty (pm_v o v) = true := by
  cases v <;> first | exact h | (cases ty <;> first | rfl | exact h)
def pm_tokplace : Nat := 1882
section PSB
variable {p : Program} {l : Launch} {e : Env} {R : Room} {s : State} {m : MethodId} {args : Array Value} {below : List Frame} {meth : Method} {c : Code} {Q : State → Prop} {o : Om} {M : pM} {G G' : List pE} {lv lv' : pL} {st st' : List Value} {pc pc' dc ds n cells slots : Nat}
set_option maxHeartbeats 1000000 in
theorem pm_s_ldc {k : Nat} (hx : p.tables.exec = Jvm.exec) (hb : c.code = M.code) (hown : s.vm.findClass (pm_own M.own) = some m.cls) (hK : pm_K o s) (hd : decode M.code pc = .ok (.ldc k, n)) (hn : pm_len (.ldc k) n = n) {ini : Bool} (hr : pm_step M.own M.maxL ini o.xs o.L o.J (.ldc k) pc lv st G = some (pc', lv', st', G', dc, ds)) (kk : PW p l e R s m args below meth c Q o M pc' lv' st' G' (cells + dc) (slots + ds)) : PW p l e R s m args below meth c Q o M pc lv st G cells slots := by
  intro H locs ls hW hL hl
  obtain rfl : 2 = n := hn
  dsimp only [pm_step] at hr
  split at hr
  · rename_i r hf
    cases hr
    obtain ⟨h1, h2, h3⟩ := pm_find2 hf pm_k_ok
    unfold pm_kchk at h3
    rw [h1, h2] at h3
    exact lv_ldc hx hb hown (hK.word (of_decide_eq_true h3) rfl args) hd (kk H locs ls hW hL hl)
  · cases hr
set_option maxHeartbeats 1000000 in
theorem pm_s_ldc_w {k : Nat} (hx : p.tables.exec = Jvm.exec) (hb : c.code = M.code) (hown : s.vm.findClass (pm_own M.own) = some m.cls) (hK : pm_K o s) (hd : decode M.code pc = .ok (.ldc_w k, n)) (hn : pm_len (.ldc_w k) n = n) {ini : Bool} (hr : pm_step M.own M.maxL ini o.xs o.L o.J (.ldc_w k) pc lv st G = some (pc', lv', st', G', dc, ds)) (kk : PW p l e R s m args below meth c Q o M pc' lv' st' G' (cells + dc) (slots + ds)) : PW p l e R s m args below meth c Q o M pc lv st G cells slots := by
  intro H locs ls hW hL hl
  obtain rfl : 3 = n := hn
  dsimp only [pm_step] at hr
  split at hr
  · rename_i r hf
    cases hr
    obtain ⟨h1, h2, h3⟩ := pm_find2 hf pm_k_ok
    unfold pm_kchk at h3
    rw [h1, h2] at h3
    exact lv_ldcw hx hb hown (hK.word (of_decide_eq_true h3) rfl args) hd (kk H locs ls hW hL hl)
  · cases hr
set_option maxHeartbeats 1000000 in
theorem pm_s_ldc2_w {k : Nat} (hx : p.tables.exec = Jvm.exec) (hb : c.code = M.code) (hown : s.vm.findClass (pm_own M.own) = some m.cls) (hK : pm_K o s) (hd : decode M.code pc = .ok (.ldc2_w k, n)) (hn : pm_len (.ldc2_w k) n = n) {ini : Bool} (hr : pm_step M.own M.maxL ini o.xs o.L o.J (.ldc2_w k) pc lv st G = some (pc', lv', st', G', dc, ds)) (kk : PW p l e R s m args below meth c Q o M pc' lv' st' G' (cells + dc) (slots + ds)) : PW p l e R s m args below meth c Q o M pc lv st G cells slots := by
  intro H locs ls hW hL hl
  obtain rfl : 3 = n := hn
  dsimp only [pm_step] at hr
  split at hr
  · rename_i r hf
    cases hr
    obtain ⟨h1, h2, h3⟩ := pm_find2 hf pm_l_ok
    unfold pm_lchk at h3
    rw [h1, h2] at h3
    exact lv_ldc2 hx hb hown (hK.word (of_decide_eq_true h3) rfl args) hd (kk H locs ls hW hL hl)
  · cases hr
set_option maxHeartbeats 1000000 in
theorem pm_s_getstatic {k : Nat} (hx : p.tables.exec = Jvm.exec) (hb : c.code = M.code) (hown : s.vm.findClass (pm_own M.own) = some m.cls) (hK : pm_K o s) (hd : decode M.code pc = .ok (.getstatic k, n)) (hn : pm_len (.getstatic k) n = n) {ini : Bool} (hr : pm_step M.own M.maxL ini o.xs o.L o.J (.getstatic k) pc lv st G = some (pc', lv', st', G', dc, ds)) (kk : PW p l e R s m args below meth c Q o M pc' lv' st' G' (cells + dc) (slots + ds)) : PW p l e R s m args below meth c Q o M pc lv st G cells slots := by
  have hK0 := hK
  intro H locs ls hW hL hl
  obtain rfl : 3 = n := hn
  dsimp only [pm_step] at hr
  split at hr
  · rename_i r hf
    cases hr
    obtain ⟨h1, h2, h3⟩ := pm_find2 hf pm_s_ok
    unfold pm_schk at h3
    rw [h1, h2] at h3
    have hk := kk H locs ls hW hL hl
    obtain ⟨-, -, ⟨t1, t2, -⟩, -, -, hz⟩ := hK0
    by_cases hlt : r.2.2.1 < 35
    · rw [if_pos hlt] at h3 hk
      have hw := hK.word (of_decide_eq_true h3) rfl args
      obtain ⟨cf, kf, fi, f, a, cell, z1, z2, z3, z4, z5, z6, z7, z8⟩ := (t1 _ hlt).1
      refine W.gets hx hb hown hw z1 z2 z3 z4 (by rw [hW.2.2.1 a (Nat.not_le.mp z8)]; exact z5) (fun q => by rw [q] at z6; cases z6) z7 rfl hd ?_
      rw [List.map_cons] at hk
      have he : pm_v o (.ref (pm_TB + r.2.2.1)) = .ref (o.tad r.2.2.1) := by
        show Value.ref (pm_ad o _) = _
        rw [(pm_tokad (o := o) (a := pm_TB + r.2.2.1) (by simp [pm_isTok, hlt])).1, Nat.add_sub_cancel_left]
      rw [he] at hk
      exact hk
    · rw [if_neg hlt] at h3 hk
      have hw := hK.word (of_decide_eq_true h3) rfl args
      obtain ⟨cf, kf, fi, f, a, cell, z1, z2, z3, z4, z5, z6, z7, z8⟩ := t2
      exact W.gets hx hb hown hw z1 z2 z3 z4 (by rw [hW.2.2.1 a (Nat.not_le.mp z8)]; exact z5) (fun q => by rw [q] at z6; cases z6) z7 rfl hd hk
  · cases hr
set_option maxHeartbeats 1000000 in
theorem pm_s_getfield {k : Nat} (hx : p.tables.exec = Jvm.exec) (hb : c.code = M.code) (hown : s.vm.findClass (pm_own M.own) = some m.cls) (hK : pm_K o s) (hd : decode M.code pc = .ok (.getfield k, n)) (hn : pm_len (.getfield k) n = n) {ini : Bool} (hr : pm_step M.own M.maxL ini o.xs o.L o.J (.getfield k) pc lv st G = some (pc', lv', st', G', dc, ds)) (kk : PW p l e R s m args below meth c Q o M pc' lv' st' G' (cells + dc) (slots + ds)) : PW p l e R s m args below meth c Q o M pc lv st G cells slots := by
  intro H locs ls hW hL hl
  obtain rfl : 3 = n := hn
  dsimp only [pm_step] at hr
  split at hr
  · rename_i a r
    split at hr
    · rename_i ht
      split at hr
      · rename_i hok
        cases hr
        have hk := kk H locs ls hW hL hl
        obtain ⟨q1, q2⟩ := pm_tokad (o := o) ht
        obtain ⟨cf, kk0, fi, f, cell, z1, z2, z3, z4, z5, z6⟩ := ((id hK).2.2.1.1 _ q2).2.2
        have hw : (Cond.fieldLinkNest "BreathingHill$Tape" 79 "BreathingHill$Token" "code" "J" "BreathingHill").before args s = true := hK.word (i := pm_tokplace) (by decide +kernel) rfl args
        have hown2 : s.vm.findClass "BreathingHill$Tape" = some m.cls := by rw [hok.1] at hown; exact hown
        rw [hok.2] at hd
        refine va_Wgetf hx hb hown2 hw z1 z2 (a := pm_ad o a) (by rw [q1, hW.2.2.1 _ (Nat.not_le.mp z6)]; exact z3) z4 z5 rfl rfl hd ?_
        exact hk
      · cases hr
    · split at hr
      · rename_i q hf
        split at hr
        · rename_i ci fs hg
          split at hr
          · rename_i hci
            split at hr
            · rename_i v hv
              cases hr
              obtain ⟨h1, h2, h3⟩ := pm_find2 hf pm_f_ok
              have hk := kk H locs ls hW hL hl
              unfold pm_fchk at h3
              split at h3
              · cases h3
              · rename_i r hcl
                rw [Bool.and_eq_true] at h3
                obtain ⟨h4, h5⟩ := h3
                have h4 := of_decide_eq_true h4
                rw [← hci] at hcl
                have he := hW.at hg
                have hvv : (fs.map (pm_v o))[q.2.2.2.1]? = some (pm_v o v) := by rw [List.getElem?_map, hv]; rfl
                split at h5
                · have h5 := of_decide_eq_true h5
                  rw [h1, h2] at h5
                  exact va_get hx hb (pm_hts hK args) (pm_hin hcl) hown hK.2.1 hW.1 a he hcl q.2.2.2.1 h4 (hK.word h5 rfl args) (fun _ z => z) hvv hd hk
                · have h5 := of_decide_eq_true h5
                  rw [h1, h2] at h5
                  exact va_getN hx hb (pm_hts hK args) (pm_hin hcl) hown hK.2.1 hW.1 a he hcl q.2.2.2.1 h4 (hK.word h5 rfl args) (fun _ z => z) hvv hd hk
            · cases hr
          · cases hr
        · cases hr
      · cases hr
  · cases hr
end PSB
end
section
-- ===== one step: stores, array loads, lengths, new cells, references compared =====
theorem pm_locs {o : Om} {G : List pE} {H : Heap} {locs : List Loc} (hW : pm_W o G H) (hL : ∀ q ∈ locs, o.B ≤ q.base) {a k : Nat} {e : pE} (ha : G[a]? = some e) : ∀ q ∈ locs ++ [⟨pm_ad o a, k⟩], o.B ≤ q.base := by
  intro q hq
  rcases List.mem_append.mp hq with h | h
  · exact hL q h
  · rw [List.mem_singleton.mp h]
    show o.B ≤ pm_ad o a
    rw [hW.lt ha]
    exact Nat.le_add_right _ _
theorem pm_v_default (o : Om) (ty : FieldType) : pm_v o (defaultValue ty) = defaultValue ty := by cases ty <;> rfl
theorem pm_arr_obj {t : Nat} (h1 : ¬ t < 4) (h2 : ¬ 9 < t) : pm_arr t = .object (pm_arrC t) := by
  rcases (show t = 4 ∨ t = 5 ∨ t = 6 ∨ t = 7 ∨ t = 8 ∨ t = 9 by omega) with rfl | rfl | rfl | rfl | rfl | rfl <;> rfl
def pm_aplace (t : Nat) : Nat := match t with
  | 0 => 184
  | 1 => 165
  | 2 => 458
  | _ => 1474
theorem pm_aword {t : Nat} (h : ¬ 3 < t) : lw_tbl[pm_aplace t]? = some (.arrayClass (pm_arr t)) := by
  rcases (show t = 0 ∨ t = 1 ∨ t = 2 ∨ t = 3 by omega) with rfl | rfl | rfl | rfl <;> decide +kernel
section PSC
variable {p : Program} {l : Launch} {e : Env} {R : Room} {s : State} {m : MethodId} {args : Array Value} {below : List Frame} {meth : Method} {c : Code} {Q : State → Prop} {o : Om} {M : pM} {G G' : List pE} {lv lv' : pL} {st st' : List Value} {pc pc' dc ds n cells slots : Nat}
set_option maxHeartbeats 1000000 in
theorem pm_s_putfield {k : Nat} {ini : Bool} (hini : ini = true → meth.name = "<init>") (hx : p.tables.exec = Jvm.exec) (hb : c.code = M.code) (hown : s.vm.findClass (pm_own M.own) = some m.cls) (hK : pm_K o s) (hd : decode M.code pc = .ok (.putfield k, n)) (hn : pm_len (.putfield k) n = n) (hr : pm_step M.own M.maxL (ini) o.xs o.L o.J (.putfield k) pc lv st G = some (pc', lv', st', G', dc, ds)) (kk : PW p l e R s m args below meth c Q o M pc' lv' st' G' (cells + dc) (slots + ds)) : PW p l e R s m args below meth c Q o M pc lv st G cells slots := by
  intro H locs ls hW hL hl
  obtain rfl : 3 = n := hn
  dsimp only [pm_step] at hr
  split at hr
  · rename_i v a r
    split at hr
    · rename_i q hf
      split at hr
      · rename_i ci fs hg
        split at hr
        · rename_i hok
          cases hr
          obtain ⟨hci, hlen, hna, hfi, hfin⟩ := hok
          obtain ⟨h1, h2, h3⟩ := pm_find2 hf pm_f_ok
          unfold pm_fchk at h3
          split at h3
          · cases h3
          · rename_i w hcl
            rw [Bool.and_eq_true] at h3
            obtain ⟨h4, h5⟩ := h3
            have h4 := of_decide_eq_true h4
            rw [← hci] at hcl
            obtain ⟨w2, hw2, hty, hnm, hdecl, -, hcn, hfn⟩ := pm_cls (pm_cls_lt hcl)
            obtain rfl : w = w2 := Option.some.inj (hcl.symm.trans hw2)
            have hts := pm_hts hK args
            have hin := pm_hin hcl
            have he : (pm_w o o.B G)[a]? = some (pm_ad o a, .inr (ci, fs.map (pm_v o))) := hW.at hg
            have hap := va_apart (own := pm_own M.own) hts hin (pm_ty ci) hty hnm hK.2.1 hcl
            obtain ⟨w3, hw3, cell, q1, q2, q3, q4⟩ := hW.1 a _ he
            obtain rfl : w = w3 := Option.some.inj (hcl.symm.trans hw3)
            obtain ⟨hS, hfc, kC, hkC, hkind⟩ := hK.2.1.1 ci _ hcl
            obtain ⟨cf, kf, fi, f, hi, hsl⟩ := hS q.2.2.2.1 h4
            have hlay := hts _ (hin _ (u_in_lay h4))
            have hst := (u_facts hfc hkC (u_lays hts hin h4) hi).1
            have hlen2 : q.2.2.2.1 < (fs.map (pm_v o)).length := by rw [List.length_map]; exact hlen
            have fin : ∀ (H1 : Heap), H1[pm_ad o a]? = some (cell.setSlot f.slot (pm_v o v)) → H1.size = H.size → (∀ q, q ≠ pm_ad o a → H1[q]? = H[q]?) → W p l e R s m args below meth c H1 (locs ++ [⟨pm_ad o a, f.slot⟩]) cells slots Q (F0 m (pc + 3) ls (st'.map (pm_v o))) := by
              intro H1 e1 e2 e3
              rw [hsl] at e1
              refine kk H1 _ ls (hW.set hg (e := .inr (ci, fs.set q.2.2.2.1 v)) ⟨_, hcl, ?_⟩ e2 e3) (pm_locs hW hL hg) hl
              refine t_OB.to (V := updV (vp_V (fs.map (pm_v o))) q.2.2.2.1 (pm_v o v)) ⟨_, e1, q2, q3, t_set q4 hap h4 _⟩ (fun j _ => ?_)
              rw [vp_updV_set hlen2, ← List.map_set]
            unfold u_lay at hlay
            by_cases hfl : (w.2.1 q.2.2.2.1).2.2.2 = true
            · rw [if_pos hfl] at hlay
              obtain ⟨g1, g2, g3⟩ := hfin (by rw [← hfn]; exact hfl)
              rw [g3] at h5
              have h5 := of_decide_eq_true h5
              rw [h1, h2] at h5
              have hcf : m.cls = cf := by
                obtain ⟨_, _, c', _, _, _, -, -, hf', -, -, -, hown2, -⟩ := Cond.laysFinal_spec hlay
                have e1 : c' = cf := by have := hi.symm.trans hf'; simp at this; exact this.1.symm
                rw [hdecl _ h4, hcn, ← g2] at hown2
                rw [← e1]; exact Option.some.inj (hown.symm.trans hown2)
              have h6 := u_fits hfc hkC hkind (Or.inr hlay) hi (hty _ h4) (pm_v_narrow o hna) (pm_v_fits o hfi)
              exact W.putFinK hx hb hown (hK.word h5 rfl args) hi hst hcf (hini g1) (by rw [q2]; exact h6) q1 q3 (by rw [hsl]; exact k2_hasslot (q4 _ h4)) rfl rfl hd fin
            · rw [if_neg hfl] at hlay
              have h6 := u_store hfc hkC hkind hlay hi (hty _ h4) (pm_v_narrow o hna) (pm_v_fits o hfi)
              split at h5
              · have h5 := of_decide_eq_true h5
                rw [h1, h2] at h5
                exact W.putK hx hb (f := f) ⟨hown, hK.word h5 rfl args, ⟨_, _, _, hi⟩, hst⟩ (by rw [q2]; exact h6) q1 q3 (by rw [hsl]; exact k2_hasslot (q4 _ h4)) rfl rfl hd fin
              · have h5 := of_decide_eq_true h5
                rw [h1, h2] at h5
                exact va_WputK hx hb (f := f) hown (hK.word h5 rfl args) hi hst (by rw [q2]; exact h6) q1 q3 (by rw [hsl]; exact k2_hasslot (q4 _ h4)) rfl rfl hd fin
        · cases hr
      · cases hr
    · cases hr
  · cases hr
set_option maxHeartbeats 1000000 in
theorem pm_s_iaload  (hx : p.tables.exec = Jvm.exec) (hb : c.code = M.code) (hown : s.vm.findClass (pm_own M.own) = some m.cls) (hK : pm_K o s) (hd : decode M.code pc = .ok (.iaload, n)) (hn : pm_len (.iaload) n = n) {ini : Bool} (hr : pm_step M.own M.maxL ini o.xs o.L o.J (.iaload) pc lv st G = some (pc', lv', st', G', dc, ds)) (kk : PW p l e R s m args below meth c Q o M pc' lv' st' G' (cells + dc) (slots + ds)) : PW p l e R s m args below meth c Q o M pc lv st G cells slots := by
  intro H locs ls hW hL hl
  obtain rfl : 1 = n := hn
  dsimp only [pm_step] at hr
  split at hr
  · rename_i j a r
    split at hr
    · rename_i hsb
      split at hr
      · cases hr
      · rename_i hbd
        cases hr
        have hk := kk H locs ls hW hL hl
        obtain ⟨scr, x1, x2, x3, x4, x5⟩ := (id hK).2.2.2.1
        have hlt : j.toNatClampNeg < o.L := Nat.not_le.mp fun q => (pm_bad_in hbd) (Or.inr q)
        have had : pm_ad o a = o.scr := by rw [hsb]; unfold pm_ad pm_SB pm_TB pm_KB; simp
        exact W.iald (v := .int (o.xs j.toNatClampNeg)) (a := pm_ad o a) hx hb (by rw [had, hW.2.2.1 _ (id hK).2.2.2.2.1]; exact x1) x2 x3 (by rw [x4]; exact pm_bad_in hbd) (x5 _ hlt) rfl rfl hd hk
    · split at hr
      · rename_i nn f hg
        split at hr
        · cases hr
        · rename_i hbd
          cases hr
          have ha : (pm_w o o.B G)[a]? = some (pm_ad o a, .inl (o.dA 0, nn, .inl f)) := hW.at hg
          exact va_iald hx hb hK.2.1 hW.1 a 0 ha (pm_tys_at o (by omega)) (pm_bad_in hbd) hd (kk H locs ls hW hL hl)
      · cases hr
  · cases hr
set_option maxHeartbeats 1000000 in
theorem pm_s_baload  (hx : p.tables.exec = Jvm.exec) (hb : c.code = M.code) (hown : s.vm.findClass (pm_own M.own) = some m.cls) (hK : pm_K o s) (hd : decode M.code pc = .ok (.baload, n)) (hn : pm_len (.baload) n = n) {ini : Bool} (hr : pm_step M.own M.maxL ini o.xs o.L o.J (.baload) pc lv st G = some (pc', lv', st', G', dc, ds)) (kk : PW p l e R s m args below meth c Q o M pc' lv' st' G' (cells + dc) (slots + ds)) : PW p l e R s m args below meth c Q o M pc lv st G cells slots := by
  intro H locs ls hW hL hl
  obtain rfl : 1 = n := hn
  dsimp only [pm_step] at hr
  split at hr
  · rename_i j a r
    split at hr
    · rename_i nn f hg
      split at hr
      · cases hr
      · rename_i hbd
        cases hr
        have ha : (pm_w o o.B G)[a]? = some (pm_ad o a, .inl (o.dA 1, nn, .inl f)) := hW.at hg
        exact va_bald hx hb hK.2.1 hW.1 a 1 ha (pm_tys_at o (by omega)) (pm_bad_in hbd) hd (kk H locs ls hW hL hl)
    · rename_i nn f hg
      split at hr
      · cases hr
      · rename_i hbd
        cases hr
        have ha : (pm_w o o.B G)[a]? = some (pm_ad o a, .inl (o.dA 2, nn, .inl f)) := hW.at hg
        exact va_zald hx hb hK.2.1 hW.1 a 2 ha (pm_tys_at o (by omega)) (pm_bad_in hbd) hd (kk H locs ls hW hL hl)
    · cases hr
  · cases hr
set_option maxHeartbeats 1000000 in
theorem pm_s_laload  (hx : p.tables.exec = Jvm.exec) (hb : c.code = M.code) (hown : s.vm.findClass (pm_own M.own) = some m.cls) (hK : pm_K o s) (hd : decode M.code pc = .ok (.laload, n)) (hn : pm_len (.laload) n = n) {ini : Bool} (hr : pm_step M.own M.maxL ini o.xs o.L o.J (.laload) pc lv st G = some (pc', lv', st', G', dc, ds)) (kk : PW p l e R s m args below meth c Q o M pc' lv' st' G' (cells + dc) (slots + ds)) : PW p l e R s m args below meth c Q o M pc lv st G cells slots := by
  intro H locs ls hW hL hl
  obtain rfl : 1 = n := hn
  dsimp only [pm_step] at hr
  split at hr
  · rename_i j a r
    split at hr
    · rename_i nn f hg
      split at hr
      · cases hr
      · rename_i hbd
        cases hr
        have ha : (pm_w o o.B G)[a]? = some (pm_ad o a, .inl (o.dA 3, nn, .inr (.inl f))) := hW.at hg
        exact va_lald hx hb hK.2.1 hW.1 a 3 ha (pm_tys_at o (by omega)) (pm_bad_in hbd) hd (kk H locs ls hW hL hl)
    · cases hr
  · cases hr
set_option maxHeartbeats 1000000 in
theorem pm_s_aaload  (hx : p.tables.exec = Jvm.exec) (hb : c.code = M.code) (hown : s.vm.findClass (pm_own M.own) = some m.cls) (hK : pm_K o s) (hd : decode M.code pc = .ok (.aaload, n)) (hn : pm_len (.aaload) n = n) {ini : Bool} (hr : pm_step M.own M.maxL ini o.xs o.L o.J (.aaload) pc lv st G = some (pc', lv', st', G', dc, ds)) (kk : PW p l e R s m args below meth c Q o M pc' lv' st' G' (cells + dc) (slots + ds)) : PW p l e R s m args below meth c Q o M pc lv st G cells slots := by
  intro H locs ls hW hL hl
  obtain rfl : 1 = n := hn
  dsimp only [pm_step] at hr
  split at hr
  · rename_i j a r
    split at hr
    · rename_i hsb
      split at hr
      · cases hr
      · rename_i hbd
        cases hr
        have hk := kk H locs ls hW hL hl
        obtain ⟨cell, x1, x2, x3, x4, x5, x6, x7⟩ := (id hK).2.2.1.2.2.1
        have hlt : j.toNatClampNeg < 35 := Nat.not_le.mp fun q => (pm_bad_in hbd) (Or.inr q)
        have had : pm_ad o a = o.tks := by rw [hsb]; unfold pm_ad pm_SB pm_TB pm_KB; simp
        have hv : pm_v o (.ref (pm_TB + j.toNatClampNeg)) = .ref (o.tad j.toNatClampNeg) := by
          show Value.ref (pm_ad o _) = _
          rw [(pm_tokad (o := o) (a := pm_TB + j.toNatClampNeg) (by simp [pm_isTok, hlt])).1, Nat.add_sub_cancel_left]
        rw [List.map_cons, hv] at hk
        have hb0 := pm_bad_in hbd
        exact W.aald (v := .ref (o.tad j.toNatClampNeg)) (ty := .object "BreathingHill$Token") (a := pm_ad o a) hx hb (by rw [had, hW.2.2.1 _ (Nat.not_le.mp x7)]; exact x1) x2 rfl x3 (fun z => hb0 (z.elim Or.inl (fun z => Or.inr (Nat.le_trans x4 z)))) (x6 _ hlt) rfl rfl hd hk
    · split at hr
      · rename_i t nn f hg
        split at hr
        · cases hr
        · rename_i hbd
          cases hr
          have hk := kk H locs ls hW hL hl
          have hb1 : ¬ pm_bad j nn = true := fun z => hbd (Or.inl z)
          have ht1 : ¬ t < 4 := fun z => hbd (Or.inr (Or.inl z))
          have ht2 : ¬ 9 < t := fun z => hbd (Or.inr (Or.inr z))
          have ha : (pm_w o o.B G)[a]? = some (pm_ad o a, .inl (o.dA t, nn, .inr (.inr (.inr (.inr (fun j => (f j).map (pm_ad o))))))) := hW.at hg
          have htt := pm_tys_at o (t := t) (by omega)
          rw [pm_arr_obj ht1 ht2] at htt
          have hv : pm_v o (va_rf (f j.toNatClampNeg)) = va_rf ((f j.toNatClampNeg).map (pm_ad o)) := by cases f j.toNatClampNeg <;> rfl
          rw [List.map_cons, hv] at hk
          exact va_aldq hx hb hK.2.1 hW.1 a t ha htt (pm_bad_in hb1) hd hk
      · cases hr
  · cases hr
set_option maxHeartbeats 1000000 in
theorem pm_s_iastore  (hx : p.tables.exec = Jvm.exec) (hb : c.code = M.code) (hown : s.vm.findClass (pm_own M.own) = some m.cls) (hK : pm_K o s) (hd : decode M.code pc = .ok (.iastore, n)) (hn : pm_len (.iastore) n = n) {ini : Bool} (hr : pm_step M.own M.maxL ini o.xs o.L o.J (.iastore) pc lv st G = some (pc', lv', st', G', dc, ds)) (kk : PW p l e R s m args below meth c Q o M pc' lv' st' G' (cells + dc) (slots + ds)) : PW p l e R s m args below meth c Q o M pc lv st G cells slots := by
  intro H locs ls hW hL hl
  obtain rfl : 1 = n := hn
  dsimp only [pm_step] at hr
  split at hr
  · rename_i x j a r
    split at hr
    · rename_i nn f hg
      split at hr
      · cases hr
      · rename_i hbd
        cases hr
        have ha : (pm_w o o.B G)[a]? = some (pm_ad o a, .inl (o.dA 0, nn, .inl f)) := hW.at hg
        refine W.iast hx hb (hW.1 a _ ha) ((hK.2.1.2 0 _ (pm_tys_at o (by omega))).1 nn (fun j => .int (f j))) (fun q => by cases q) (by show ¬ (j < 0 ∨ (arrV _ _ _).slots.size ≤ _); rw [arrV_size]; exact pm_bad_in hbd) rfl rfl hd fun H1 e z oq => ?_
        refine kk H1 _ ls (hW.set hg (e := .inl (0, nn, .inl (upd f j.toNatClampNeg x))) ?_ z oq) (pm_locs hW hL hg) hl
        show H1[pm_ad o a]? = some (vp_cell (o.dA 0) (nn, .inl (upd f j.toNatClampNeg x)))
        rw [e]
        rw [vp_cell_i, vp_cell_i, arrV_store]
        congr 2
        funext q
        by_cases hq : q = j.toNatClampNeg
        · subst hq
          simp [updV, upd]
          try rfl
        · simp [updV, upd, hq]
    · cases hr
  · cases hr
set_option maxHeartbeats 1000000 in
theorem pm_s_bastore  (hx : p.tables.exec = Jvm.exec) (hb : c.code = M.code) (hown : s.vm.findClass (pm_own M.own) = some m.cls) (hK : pm_K o s) (hd : decode M.code pc = .ok (.bastore, n)) (hn : pm_len (.bastore) n = n) {ini : Bool} (hr : pm_step M.own M.maxL ini o.xs o.L o.J (.bastore) pc lv st G = some (pc', lv', st', G', dc, ds)) (kk : PW p l e R s m args below meth c Q o M pc' lv' st' G' (cells + dc) (slots + ds)) : PW p l e R s m args below meth c Q o M pc lv st G cells slots := by
  intro H locs ls hW hL hl
  obtain rfl : 1 = n := hn
  dsimp only [pm_step] at hr
  split at hr
  · rename_i x j a r
    split at hr
    · rename_i nn f hg
      split at hr
      · cases hr
      · rename_i hbd
        cases hr
        have ha : (pm_w o o.B G)[a]? = some (pm_ad o a, .inl (o.dA 1, nn, .inl f)) := hW.at hg
        refine W.bast hx hb (hW.1 a _ ha) ((hK.2.1.2 1 _ (pm_tys_at o (by omega))).1 nn (fun j => .int (f j))) (fun q => by cases q) (by show ¬ (j < 0 ∨ (arrV _ _ _).slots.size ≤ _); rw [arrV_size]; exact pm_bad_in hbd) rfl rfl hd fun H1 e z oq => ?_
        refine kk H1 _ ls (hW.set hg (e := .inl (1, nn, .inl (upd f j.toNatClampNeg (vp_nar .byte x)))) ?_ z oq) (pm_locs hW hL hg) hl
        show H1[pm_ad o a]? = some (vp_cell (o.dA 1) (nn, .inl (upd f j.toNatClampNeg (vp_nar .byte x))))
        rw [e]
        rw [vp_cell_i, vp_cell_i, arrV_store]
        congr 2
        funext q
        by_cases hq : q = j.toNatClampNeg
        · subst hq
          simp [updV, upd, vp_nar]
          try rfl
        · simp [updV, upd, vp_nar, hq]
    · rename_i nn f hg
      split at hr
      · cases hr
      · rename_i hbd
        cases hr
        have ha : (pm_w o o.B G)[a]? = some (pm_ad o a, .inl (o.dA 2, nn, .inl f)) := hW.at hg
        refine W.zast hx hb (hW.1 a _ ha) ((hK.2.1.2 2 _ (pm_tys_at o (by omega))).1 nn (fun j => .int (f j))) (fun q => by cases q) (by show ¬ (j < 0 ∨ (arrV _ _ _).slots.size ≤ _); rw [arrV_size]; exact pm_bad_in hbd) rfl rfl hd fun H1 e z oq => ?_
        refine kk H1 _ ls (hW.set hg (e := .inl (2, nn, .inl (upd f j.toNatClampNeg (vp_nar .boolean x)))) ?_ z oq) (pm_locs hW hL hg) hl
        show H1[pm_ad o a]? = some (vp_cell (o.dA 2) (nn, .inl (upd f j.toNatClampNeg (vp_nar .boolean x))))
        rw [e]
        rw [vp_cell_i, vp_cell_i, arrV_store]
        congr 2
        funext q
        by_cases hq : q = j.toNatClampNeg
        · subst hq
          simp [updV, upd, vp_nar]
          try rfl
        · simp [updV, upd, vp_nar, hq]
    · cases hr
  · cases hr
set_option maxHeartbeats 1000000 in
theorem pm_s_lastore  (hx : p.tables.exec = Jvm.exec) (hb : c.code = M.code) (hown : s.vm.findClass (pm_own M.own) = some m.cls) (hK : pm_K o s) (hd : decode M.code pc = .ok (.lastore, n)) (hn : pm_len (.lastore) n = n) {ini : Bool} (hr : pm_step M.own M.maxL ini o.xs o.L o.J (.lastore) pc lv st G = some (pc', lv', st', G', dc, ds)) (kk : PW p l e R s m args below meth c Q o M pc' lv' st' G' (cells + dc) (slots + ds)) : PW p l e R s m args below meth c Q o M pc lv st G cells slots := by
  intro H locs ls hW hL hl
  obtain rfl : 1 = n := hn
  dsimp only [pm_step] at hr
  split at hr
  · rename_i x j a r
    split at hr
    · rename_i nn f hg
      split at hr
      · cases hr
      · rename_i hbd
        cases hr
        have ha : (pm_w o o.B G)[a]? = some (pm_ad o a, .inl (o.dA 3, nn, .inr (.inl f))) := hW.at hg
        refine W.last hx hb (hW.1 a _ ha) ((hK.2.1.2 3 _ (pm_tys_at o (by omega))).1 nn (fun j => .long (f j))) (fun q => by cases q) (by show ¬ (j < 0 ∨ (arrV _ _ _).slots.size ≤ _); rw [arrV_size]; exact pm_bad_in hbd) rfl rfl hd fun H1 e z oq => ?_
        refine kk H1 _ ls (hW.set hg (e := .inl (3, nn, .inr (.inl (vp_updL f j.toNatClampNeg x)))) ?_ z oq) (pm_locs hW hL hg) hl
        show H1[pm_ad o a]? = some (vp_cell (o.dA 3) (nn, .inr (.inl (vp_updL f j.toNatClampNeg x))))
        rw [e]
        rw [vp_cell_l, vp_cell_l, arrV_store]
        congr 2
        funext q
        by_cases hq : q = j.toNatClampNeg
        · subst hq
          simp [updV, vp_updL]
          try rfl
        · simp [updV, vp_updL, hq]
    · cases hr
  · cases hr
set_option maxHeartbeats 1000000 in
theorem pm_s_aastore  (hx : p.tables.exec = Jvm.exec) (hb : c.code = M.code) (hown : s.vm.findClass (pm_own M.own) = some m.cls) (hK : pm_K o s) (hd : decode M.code pc = .ok (.aastore, n)) (hn : pm_len (.aastore) n = n) {ini : Bool} (hr : pm_step M.own M.maxL ini o.xs o.L o.J (.aastore) pc lv st G = some (pc', lv', st', G', dc, ds)) (kk : PW p l e R s m args below meth c Q o M pc' lv' st' G' (cells + dc) (slots + ds)) : PW p l e R s m args below meth c Q o M pc lv st G cells slots := by
  intro H locs ls hW hL hl
  obtain rfl : 1 = n := hn
  dsimp only [pm_step] at hr
  split at hr
  · rename_i v j a r
    split at hr
    · rename_i t nn f hg
      split at hr
      · cases hr
      · rename_i hbd
        have hb1 : ¬ pm_bad j nn = true := fun z => hbd (Or.inl z)
        have ht1 : ¬ t < 4 := fun z => hbd (Or.inr (Or.inl z))
        have ht2 : ¬ 9 < t := fun z => hbd (Or.inr (Or.inr z))
        split at hr
        · rename_i htk
          split at hr
          · rename_i ht4
            cases hr
            obtain ⟨q1, q2⟩ := pm_tokad (o := o) htk
            obtain ⟨cv, c1, c2, c3, c4⟩ := ((id hK).2.2.1.1 _ q2).2.1
            obtain ⟨cC, hcC⟩ := (id hK).2.2.1.2.2.2.2
            have hcv : H[pm_ad o v]? = some cv := by rw [q1, hW.2.2.1 _ (Nat.not_le.mp c4)]; exact c1
            have hvs : ∀ q, cv.vm ≠ .statics q := fun q z => by rw [z] at c2; cases c2
            have hca : ClassAt s (pm_arrC t) cv.cls := by
              rw [ht4]
              have : cC = cv.cls := Option.some.inj (hcC.1.symm.trans c3)
              rw [← this]
              exact hcC
            have ha : (pm_w o o.B G)[a]? = some (pm_ad o a, .inl (o.dA t, nn, .inr (.inr (.inr (.inr (fun j => (f j).map (pm_ad o))))))) := hW.at hg
            have htt := pm_tys_at o (t := t) (by omega)
            rw [pm_arr_obj ht1 ht2] at htt
            obtain ⟨kA, comp, k1, k2, k3, -⟩ := (hK.2.1.2 t _ htt).2
            have hcc : comp = cv.cls := Option.some.inj (k3.symm.trans hca.1)
            subst hcc
            obtain ⟨kC, hkC, -⟩ := id hca.2
            have hb0 := pm_bad_in hb1
            refine W.aast hx hb (hW.1 a _ ha) (fun q h => by cases h) (fun h => by cases h) k1 k2 rfl hkC ⟨fun z => hb0 (Or.inl z), by show _ < (arrV _ _ _).slots.size; rw [arrV_size]; exact Nat.not_le.mp fun z => hb0 (Or.inr z)⟩ hcv hvs hkC (va_assign hca) rfl rfl hd fun H1 e z oq => ?_
            refine kk H1 _ ls (hW.set hg (e := .inl (t, nn, .inr (.inr (.inr (.inr (va_up f j.toNatClampNeg (some v))))))) ?_ z oq) (pm_locs hW hL hg) hl
            show H1[pm_ad o a]? = some (vp_cell (o.dA t) (nn, .inr (.inr (.inr (.inr (fun i => (va_up f j.toNatClampNeg (some v) i).map (pm_ad o)))))))
            rw [e]
            rw [vp_cell_q, vp_cell_q, arrV_store]
            congr 2
            funext q
            by_cases hq : q = j.toNatClampNeg
            · subst hq
              simp [updV, va_up, va_rf]
            · simp [updV, va_up, hq]
          · cases hr
        · split at hr
          · rename_i ci vs hgv
            split at hr
            · rename_i hcn
              cases hr
              obtain ⟨w2, hw2, -, -, -, -, hcn2, -⟩ := pm_cls hcn.2
              have hev : (pm_w o o.B G)[v]? = some (pm_ad o v, .inr (ci, vs.map (pm_v o))) := hW.at hgv
              obtain ⟨w3, hw3, cv, hcv, g2, g3, -⟩ := hW.1 v _ hev
              have hvs : ∀ q, cv.vm ≠ .statics q := fun q z => by rw [g3] at z; cases z
              have hca : ClassAt s (pm_arrC t) cv.cls := by
                rw [← hcn.1, ← hcn2, g2]
                exact (hK.2.1.1 ci _ hw2).2
              have ha : (pm_w o o.B G)[a]? = some (pm_ad o a, .inl (o.dA t, nn, .inr (.inr (.inr (.inr (fun j => (f j).map (pm_ad o))))))) := hW.at hg
              have htt := pm_tys_at o (t := t) (by omega)
              rw [pm_arr_obj ht1 ht2] at htt
              obtain ⟨kA, comp, k1, k2, k3, -⟩ := (hK.2.1.2 t _ htt).2
              have hcc : comp = cv.cls := Option.some.inj (k3.symm.trans hca.1)
              subst hcc
              obtain ⟨kC, hkC, -⟩ := id hca.2
              have hb0 := pm_bad_in hb1
              refine W.aast hx hb (hW.1 a _ ha) (fun q h => by cases h) (fun h => by cases h) k1 k2 rfl hkC ⟨fun z => hb0 (Or.inl z), by show _ < (arrV _ _ _).slots.size; rw [arrV_size]; exact Nat.not_le.mp fun z => hb0 (Or.inr z)⟩ hcv hvs hkC (va_assign hca) rfl rfl hd fun H1 e z oq => ?_
              refine kk H1 _ ls (hW.set hg (e := .inl (t, nn, .inr (.inr (.inr (.inr (va_up f j.toNatClampNeg (some v))))))) ?_ z oq) (pm_locs hW hL hg) hl
              show H1[pm_ad o a]? = some (vp_cell (o.dA t) (nn, .inr (.inr (.inr (.inr (fun i => (va_up f j.toNatClampNeg (some v) i).map (pm_ad o)))))))
              rw [e]
              rw [vp_cell_q, vp_cell_q, arrV_store]
              congr 2
              funext q
              by_cases hq : q = j.toNatClampNeg
              · subst hq
                simp [updV, va_up, va_rf]
              · simp [updV, va_up, hq]
            · cases hr
          · cases hr
    · cases hr
  · rename_i j a r
    split at hr
    · rename_i t nn f hg
      split at hr
      · cases hr
      · rename_i hbd
        cases hr
        have hb1 : ¬ pm_bad j nn = true := fun z => hbd (Or.inl z)
        have ht1 : ¬ t < 4 := fun z => hbd (Or.inr (Or.inl z))
        have ht2 : ¬ 9 < t := fun z => hbd (Or.inr (Or.inr z))
        have ha : (pm_w o o.B G)[a]? = some (pm_ad o a, .inl (o.dA t, nn, .inr (.inr (.inr (.inr (fun j => (f j).map (pm_ad o))))))) := hW.at hg
        have htt := pm_tys_at o (t := t) (by omega)
        rw [pm_arr_obj ht1 ht2] at htt
        refine va_WaastN (C := pm_arrC t) hx hb (hW.1 a _ ha) ((hK.2.1.2 t _ htt).1 nn (fun j => va_rf ((f j).map (pm_ad o)))) (fun h => by cases h) (by show ¬ (j < 0 ∨ (arrV _ _ _).slots.size ≤ _); rw [arrV_size]; exact pm_bad_in hb1) rfl rfl hd fun H1 e z oq => ?_
        refine kk H1 _ ls (hW.set hg (e := .inl (t, nn, .inr (.inr (.inr (.inr (va_up f j.toNatClampNeg none)))))) ?_ z oq) (pm_locs hW hL hg) hl
        show H1[pm_ad o a]? = some (vp_cell (o.dA t) (nn, .inr (.inr (.inr (.inr (fun i => (va_up f j.toNatClampNeg none i).map (pm_ad o)))))))
        rw [e]
        rw [vp_cell_q, vp_cell_q, arrV_store]
        congr 2
        funext q
        by_cases hq : q = j.toNatClampNeg
        · subst hq
          simp [updV, va_up, va_rf]
        · simp [updV, va_up, hq]
    · cases hr
  · cases hr
set_option maxHeartbeats 1000000 in
theorem pm_s_arraylength  (hx : p.tables.exec = Jvm.exec) (hb : c.code = M.code) (hown : s.vm.findClass (pm_own M.own) = some m.cls) (hK : pm_K o s) (hd : decode M.code pc = .ok (.arraylength, n)) (hn : pm_len (.arraylength) n = n) {ini : Bool} (hr : pm_step M.own M.maxL ini o.xs o.L o.J (.arraylength) pc lv st G = some (pc', lv', st', G', dc, ds)) (kk : PW p l e R s m args below meth c Q o M pc' lv' st' G' (cells + dc) (slots + ds)) : PW p l e R s m args below meth c Q o M pc lv st G cells slots := by
  intro H locs ls hW hL hl
  obtain rfl : 1 = n := hn
  dsimp only [pm_step] at hr
  split at hr
  · rename_i a r
    split at hr
    · rename_i hsb
      cases hr
      have hk := kk H locs ls hW hL hl
      obtain ⟨scr, x1, x2, x3, x4, x5⟩ := (id hK).2.2.2.1
      have had : pm_ad o a = o.scr := by rw [hsb]; unfold pm_ad pm_SB pm_TB pm_KB; simp
      exact W.alen (n := Int32.ofNat o.L) (a := pm_ad o a) hx hb (by rw [had, hW.2.2.1 _ (id hK).2.2.2.2.1]; exact x1) x2 (by rw [x4] <;> rfl) rfl rfl hd hk
    · split at hr
      · rename_i hsb
        cases hr
        have hk := kk H locs ls hW hL hl
        obtain ⟨cell, x1, x2, x3, x4, x5, x6, x7⟩ := (id hK).2.2.1.2.2.1
        have had : pm_ad o a = o.tks := by rw [hsb]; unfold pm_ad pm_SB pm_TB pm_KB; simp
        exact W.alen (n := Int32.ofNat 35) (a := pm_ad o a) hx hb (by rw [had, hW.2.2.1 _ (Nat.not_le.mp x7)]; exact x1) x2 x5 rfl rfl hd hk
      · split at hr
        · rename_i t x hg
          split at hr
          · rename_i ht
            cases hr
            have hk := kk H locs ls hW hL hl
            have ha : (pm_w o o.B G)[a]? = some (pm_ad o a, .inl (o.dA t, pm_a o x)) := hW.at hg
            exact va_alen hx hb hK.2.1 hW.1 a t ha (pm_tys_at o ht) (by obtain ⟨nn, f | f | f | f | f⟩ := x <;> rfl) hd hk
          · cases hr
        · cases hr
  · cases hr
set_option maxHeartbeats 1000000 in
theorem pm_s_new {k : Nat} (hx : p.tables.exec = Jvm.exec) (hb : c.code = M.code) (hown : s.vm.findClass (pm_own M.own) = some m.cls) (hK : pm_K o s) (hd : decode M.code pc = .ok (.new k, n)) (hn : pm_len (.new k) n = n) {ini : Bool} (hr : pm_step M.own M.maxL ini o.xs o.L o.J (.new k) pc lv st G = some (pc', lv', st', G', dc, ds)) (hcR : cells + dc ≤ R.cells) (hsR : slots + ds ≤ R.slots) (kk : PW p l e R s m args below meth c Q o M pc' lv' st' G' (cells + dc) (slots + ds)) : PW p l e R s m args below meth c Q o M pc lv st G cells slots := by
  intro H locs ls hW hL hl
  obtain rfl : 3 = n := hn
  dsimp only [pm_step] at hr
  split at hr
  · rename_i q hf
    split at hr
    · rename_i hok
      cases hr
      have hk := fun H1 => kk H1 locs ls
      obtain ⟨h1, h2, h3⟩ := pm_find2 hf pm_n_ok
      obtain ⟨w, hcl, hty, -, -, hN, -, -⟩ := pm_cls hok.1
      unfold pm_nchk at h3
      rw [hcl] at h3
      simp only [Bool.and_eq_true, decide_eq_true_eq] at h3
      obtain ⟨⟨⟨h5, h6⟩, h7⟩, -⟩ := h3
      rw [h1, h2] at h5
      have hKn := hK.2.1.1 _ _ hcl
      rw [← hN] at hk hsR
      refine W.newcK hx hb hown (hK.word h5 rfl args) (hK.word h6 rfl args) (hK.word h7 rfl args) rfl hd hcR hsR hKn.2.1 rfl fun H1 kC hkC e1 z1 o1 => ?_
      have hk := hk H1 (hW.push hok.2.2 hok.2.1 ⟨_, hcl, (u_born (pm_ty q.2.2.1) (pm_hts hK args) (pm_hin hcl) hKn hkC e1 hty).to (fun j hj => ?_)⟩ z1 o1) hL hl
      · rw [List.map_cons] at hk
        have hv : pm_v o (.ref G.length) = .ref H.size := by
          show Value.ref (pm_ad o _) = _
          rw [pm_ad_new hW hok.2.2 hok.2.1]
        rw [hv] at hk
        exact hk
      · simp [vp_V, hj, pm_v_default]
    · cases hr
  · cases hr
set_option maxHeartbeats 1000000 in
theorem pm_s_newarray {k : ArrayType} (hx : p.tables.exec = Jvm.exec) (hb : c.code = M.code) (hown : s.vm.findClass (pm_own M.own) = some m.cls) (hK : pm_K o s) (hd : decode M.code pc = .ok (.newarray k, n)) (hn : pm_len (.newarray k) n = n) {ini : Bool} (hr : pm_step M.own M.maxL ini o.xs o.L o.J (.newarray k) pc lv st G = some (pc', lv', st', G', dc, ds)) (hcR : cells + dc ≤ R.cells) (hsR : slots + ds ≤ R.slots) (kk : PW p l e R s m args below meth c Q o M pc' lv' st' G' (cells + dc) (slots + ds)) : PW p l e R s m args below meth c Q o M pc lv st G cells slots := by
  intro H locs ls hW hL hl
  obtain rfl : 2 = n := hn
  dsimp only [pm_step] at hr
  split at hr
  · rename_i nn r
    split at hr
    · cases hr
    · rename_i hok
      cases hr
      have g1 : ¬ nn < 0 := fun z => hok (Or.inl z)
      have g2 : ¬ 10000 < nn.toNatClampNeg := fun z => hok (Or.inr (Or.inl z))
      have g3 : ¬ 3 < pm_atype k := fun z => hok (Or.inr (Or.inr (Or.inl z)))
      have g4 : G.length < pm_TB := Nat.not_le.mp fun z => hok (Or.inr (Or.inr (Or.inr (Or.inl z))))
      have gJ : o.J = 0 := Decidable.not_not.mp fun z => hok (Or.inr (Or.inr (Or.inr (Or.inr z))))
      have hte : newarray.typeOf k = pm_arr (pm_atype k) := by cases k <;> first | rfl | (exfalso; exact g3 (by decide))
      have hwd := hK.word (pm_aword g3) rfl args
      rw [← hte] at hwd
      refine va_newaK hx hb hwd rfl hd rfl g1 rfl (by have : componentBytes (newarray.typeOf k) ≤ 8 := (by cases k <;> decide); calc _ ≤ 10000 * 8 := Nat.mul_le_mul (Nat.not_lt.mp g2) this
          _ ≤ _ := by decide) hcR hsR rfl fun H1 cA e1 z1 o1 hAr hNm => ?_
      have hcA : cA = o.dA (pm_atype k) := by
        have hra := (hK.2.1.2 _ _ (pm_tys_at o (t := pm_atype k) (by omega))).2
        rw [← hte] at hra
        cases k <;> first | exact Option.some.inj (hNm.symm.trans hra) | (exfalso; exact g3 (by decide))
      subst hcA
      have hk := kk H1 locs ls (hW.push (e := .inl (pm_atype k, pm_blank (pm_atype k) nn.toNatClampNeg)) gJ g4 (by
      show H1[H.size]? = some (vp_cell _ _)
      rw [e1]
      cases k <;> first | rfl | (exfalso; exact g3 (by decide))) z1 o1) hL hl
      rw [List.map_cons] at hk
      have hv : pm_v o (.ref G.length) = .ref H.size := by
        show Value.ref (pm_ad o _) = _
        rw [pm_ad_new hW gJ g4]
      rw [hv] at hk
      exact hk
  · cases hr
set_option maxHeartbeats 1000000 in
theorem pm_s_anewarray {k : Nat} (hx : p.tables.exec = Jvm.exec) (hb : c.code = M.code) (hown : s.vm.findClass (pm_own M.own) = some m.cls) (hK : pm_K o s) (hd : decode M.code pc = .ok (.anewarray k, n)) (hn : pm_len (.anewarray k) n = n) {ini : Bool} (hr : pm_step M.own M.maxL ini o.xs o.L o.J (.anewarray k) pc lv st G = some (pc', lv', st', G', dc, ds)) (hcR : cells + dc ≤ R.cells) (hsR : slots + ds ≤ R.slots) (kk : PW p l e R s m args below meth c Q o M pc' lv' st' G' (cells + dc) (slots + ds)) : PW p l e R s m args below meth c Q o M pc lv st G cells slots := by
  intro H locs ls hW hL hl
  obtain rfl : 3 = n := hn
  dsimp only [pm_step] at hr
  split at hr
  · rename_i nn r
    split at hr
    · rename_i q hf
      split at hr
      · cases hr
      · rename_i hok
        cases hr
        have g1 : ¬ nn < 0 := fun z => hok (Or.inl z)
        have g2 : ¬ 10000 < nn.toNatClampNeg := fun z => hok (Or.inr (Or.inl z))
        have ht1 : ¬ q.2.2.2.1 < 4 := fun z => hok (Or.inr (Or.inr (Or.inl z)))
        have ht2 : ¬ 9 < q.2.2.2.1 := fun z => hok (Or.inr (Or.inr (Or.inr (Or.inl z))))
        have g4 : G.length < pm_TB := Nat.not_le.mp fun z => hok (Or.inr (Or.inr (Or.inr (Or.inr (Or.inl z)))))
        have gJ : o.J = 0 := Decidable.not_not.mp fun z => hok (Or.inr (Or.inr (Or.inr (Or.inr (Or.inr z)))))
        obtain ⟨h1, h2, h3⟩ := pm_find2 hf pm_n_ok
        unfold pm_nchk at h3
        rw [Bool.and_eq_true] at h3
        have h3 := h3.2
        rw [if_pos ⟨by omega, by omega⟩] at h3
        simp only [Bool.and_eq_true, decide_eq_true_eq] at h3
        obtain ⟨h5, h6⟩ := h3
        rw [h1, h2] at h5
        have htt := pm_tys_at o (t := q.2.2.2.1) (by omega)
        rw [pm_arr_obj ht1 ht2] at htt
        obtain ⟨kA, comp, k1, k2, k3, k4⟩ := (hK.2.1.2 _ _ htt).2
        refine W.anew hx hb hown (hK.word h5 rfl args) (hK.word h6 rfl args) rfl hd rfl g1 (by omega) hcR hsR fun cA kA2 comp2 f1 f2 f3 f4 => ?_
        have hcA : cA = o.dA q.2.2.2.1 := Option.some.inj (f1.symm.trans k4)
        subst hcA
        have hk := kk _ locs ls (hW.push (H1 := H.push ({ cls := o.dA q.2.2.2.1, slots := Array.replicate nn.toNatClampNeg .null, vm := .none } : Cell)) (e := .inl (q.2.2.2.1, nn.toNatClampNeg, .inr (.inr (.inr (.inr (fun _ => none)))))) gJ g4 (by
        show _ = some (vp_cell _ _)
        rw [Array.getElem?_push_size, arrV_new]
        rfl) (by rw [Array.size_push]) (fun z hz => by rw [Array.getElem?_push, if_neg (Nat.ne_of_lt hz)])) hL hl
        rw [List.map_cons] at hk
        have hv : pm_v o (.ref G.length) = .ref H.size := by
          show Value.ref (pm_ad o _) = _
          rw [pm_ad_new hW gJ g4]
        rw [hv] at hk
        exact hk
    · cases hr
  · cases hr
set_option maxHeartbeats 1000000 in
theorem pm_s_if_acmp_eq {k : Int} (hx : p.tables.exec = Jvm.exec) (hb : c.code = M.code) (hown : s.vm.findClass (pm_own M.own) = some m.cls) (hK : pm_K o s) (hd : decode M.code pc = .ok (.if_acmp .eq k, n)) (hn : pm_len (.if_acmp .eq k) n = n) {ini : Bool} (hr : pm_step M.own M.maxL ini o.xs o.L o.J (.if_acmp .eq k) pc lv st G = some (pc', lv', st', G', dc, ds)) (kk : PW p l e R s m args below meth c Q o M pc' lv' st' G' (cells + dc) (slots + ds)) : PW p l e R s m args below meth c Q o M pc lv st G cells slots := by
  intro H locs ls hW hL hl
  obtain rfl : 3 = n := hn
  dsimp only [pm_step] at hr
  split at hr
  · rename_i b a r
    split at hr
    · rename_i htk
      rw [Bool.and_eq_true] at htk
      unfold pm_if at hr
      split at hr
      · cases hr
      · rename_i ht
        cases hr
        have hk := kk H locs ls hW hL hl
        obtain ⟨a1, a2⟩ := pm_tokad (o := o) htk.1
        obtain ⟨b1, b2⟩ := pm_tokad (o := o) htk.2
        have heq : (some (pm_ad o a) : Option Nat) = some (pm_ad o b) → a = b := by
          intro z
          have z := Option.some.inj z
          rw [a1, b1] at z
          have z2 : a - pm_TB = b - pm_TB := (id hK).2.2.1.2.2.2.1 _ _ a2 b2 z
          have h1 := htk.1
          have h2 := htk.2
          unfold pm_isTok at h1 h2
          simp only [Bool.and_eq_true, decide_eq_true_eq] at h1 h2
          have z3 : (a - pm_TB) + pm_TB = (b - pm_TB) + pm_TB := by rw [z2]
          rw [Nat.sub_add_cancel h1.1, Nat.sub_add_cancel h2.1] at z3
          exact z3
        refine lv_acmp_eq (rx := some (pm_ad o a)) (ry := some (pm_ad o b)) hx hb hd (pm_tgt_spec ht) (fun h => ?_) (fun h => ?_)
        · rw [if_pos (decide_eq_true (heq h))] at hk
          exact hk
        · rw [if_neg (fun z => h (by rw [of_decide_eq_true z]))] at hk
          exact hk
    · cases hr
  · unfold pm_if at hr
    split at hr
    · cases hr
    · rename_i ht
      cases hr
      have hk := kk H locs ls hW hL hl
      refine lv_acmp_eq (rx := none) (ry := some (pm_ad o _)) hx hb hd (pm_tgt_spec ht) (fun h => ?_) (fun h => ?_)
      · cases h
      · rw [if_neg (by decide)] at hk
        exact hk
  · unfold pm_if at hr
    split at hr
    · cases hr
    · rename_i ht
      cases hr
      have hk := kk H locs ls hW hL hl
      refine lv_acmp_eq (rx := some (pm_ad o _)) (ry := none) hx hb hd (pm_tgt_spec ht) (fun h => ?_) (fun h => ?_)
      · cases h
      · rw [if_neg (by decide)] at hk
        exact hk
  · cases hr
set_option maxHeartbeats 1000000 in
theorem pm_s_if_acmp_ne {k : Int} (hx : p.tables.exec = Jvm.exec) (hb : c.code = M.code) (hown : s.vm.findClass (pm_own M.own) = some m.cls) (hK : pm_K o s) (hd : decode M.code pc = .ok (.if_acmp .ne k, n)) (hn : pm_len (.if_acmp .ne k) n = n) {ini : Bool} (hr : pm_step M.own M.maxL ini o.xs o.L o.J (.if_acmp .ne k) pc lv st G = some (pc', lv', st', G', dc, ds)) (kk : PW p l e R s m args below meth c Q o M pc' lv' st' G' (cells + dc) (slots + ds)) : PW p l e R s m args below meth c Q o M pc lv st G cells slots := by
  intro H locs ls hW hL hl
  obtain rfl : 3 = n := hn
  dsimp only [pm_step] at hr
  split at hr
  · rename_i b a r
    split at hr
    · rename_i htk
      rw [Bool.and_eq_true] at htk
      unfold pm_if at hr
      split at hr
      · cases hr
      · rename_i ht
        cases hr
        have hk := kk H locs ls hW hL hl
        obtain ⟨a1, a2⟩ := pm_tokad (o := o) htk.1
        obtain ⟨b1, b2⟩ := pm_tokad (o := o) htk.2
        have heq : (some (pm_ad o a) : Option Nat) = some (pm_ad o b) → a = b := by
          intro z
          have z := Option.some.inj z
          rw [a1, b1] at z
          have z2 : a - pm_TB = b - pm_TB := (id hK).2.2.1.2.2.2.1 _ _ a2 b2 z
          have h1 := htk.1
          have h2 := htk.2
          unfold pm_isTok at h1 h2
          simp only [Bool.and_eq_true, decide_eq_true_eq] at h1 h2
          have z3 : (a - pm_TB) + pm_TB = (b - pm_TB) + pm_TB := by rw [z2]
          rw [Nat.sub_add_cancel h1.1, Nat.sub_add_cancel h2.1] at z3
          exact z3
        refine lv_acmp_ne (rx := some (pm_ad o a)) (ry := some (pm_ad o b)) hx hb hd (pm_tgt_spec ht) (fun h => ?_) (fun h => ?_)
        · rw [if_pos (by rw [decide_eq_false (fun z => h (by rw [z]))]; rfl)] at hk
          exact hk
        · rw [if_neg (by rw [decide_eq_true (heq h)]; decide)] at hk
          exact hk
    · cases hr
  · unfold pm_if at hr
    split at hr
    · cases hr
    · rename_i ht
      cases hr
      have hk := kk H locs ls hW hL hl
      refine lv_acmp_ne (rx := none) (ry := some (pm_ad o _)) hx hb hd (pm_tgt_spec ht) (fun h => ?_) (fun h => ?_)
      · rw [if_pos rfl] at hk
        exact hk
      · cases h
  · unfold pm_if at hr
    split at hr
    · cases hr
    · rename_i ht
      cases hr
      have hk := kk H locs ls hW hL hl
      refine lv_acmp_ne (rx := some (pm_ad o _)) (ry := none) hx hb hd (pm_tgt_spec ht) (fun h => ?_) (fun h => ?_)
      · rw [if_pos rfl] at hk
        exact hk
      · cases h
  · cases hr
end PSC
end
section
-- ===== a step; a run =====
section PST
variable {p : Program} {l : Launch} {e : Env} {R : Room} {s : State} {m : MethodId} {args : Array Value} {below : List Frame} {meth : Method} {c : Code} {Q : State → Prop} {o : Om} {M : pM} {G G' : List pE} {lv lv' : pL} {st st' : List Value} {pc pc' dc ds n cells slots : Nat}
set_option maxHeartbeats 4000000 in
theorem pm_step_ok {i : Instr} (hF : pm_Fix p s m meth c M) (hK : pm_K o s) (hd : decode M.code pc = .ok (i, n)) (hn : pm_len i n = n) (hr : pm_step M.own M.maxL (decide (M.y.name = "<init>")) o.xs o.L o.J i pc lv st G = some (pc', lv', st', G', dc, ds)) (hcR : cells + dc ≤ R.cells) (hsR : slots + ds ≤ R.slots) (kk : PW p l e R s m args below meth c Q o M pc' lv' st' G' (cells + dc) (slots + ds)) : PW p l e R s m args below meth c Q o M pc lv st G cells slots := by
  obtain ⟨hx, hb, hml, hown, hret, hlk, hnm⟩ := hF
  cases i
  case iconst => exact pm_s_iconst hx hb hd hn hr kk
  case bipush => exact pm_s_bipush hx hb hd hn hr kk
  case sipush => exact pm_s_sipush hx hb hd hn hr kk
  case lconst => exact pm_s_lconst hx hb hd hn hr kk
  case iload => exact pm_s_iload hx hb hd hn hr kk
  case lload => exact pm_s_lload hx hb hd hn hr kk
  case aload => exact pm_s_aload hx hb hd hn hr kk
  case iload_n => exact pm_s_iload_n hx hb hd hn hr kk
  case lload_n => exact pm_s_lload_n hx hb hd hn hr kk
  case aload_n => exact pm_s_aload_n hx hb hd hn hr kk
  case istore => exact pm_s_istore hx hb hd hn hr kk
  case astore => exact pm_s_astore hx hb hd hn hr kk
  case istore_n => exact pm_s_istore_n hx hb hd hn hr kk
  case astore_n => exact pm_s_astore_n hx hb hd hn hr kk
  case iinc => exact pm_s_iinc hx hb hd hn hr kk
  case iadd => exact pm_s_iadd hx hb hd hn hr kk
  case isub => exact pm_s_isub hx hb hd hn hr kk
  case imul => exact pm_s_imul hx hb hd hn hr kk
  case iand => exact pm_s_iand hx hb hd hn hr kk
  case ior => exact pm_s_ior hx hb hd hn hr kk
  case ixor => exact pm_s_ixor hx hb hd hn hr kk
  case ishl => exact pm_s_ishl hx hb hd hn hr kk
  case ishr => exact pm_s_ishr hx hb hd hn hr kk
  case ladd => exact pm_s_ladd hx hb hd hn hr kk
  case lmul => exact pm_s_lmul hx hb hd hn hr kk
  case lor => exact pm_s_lor hx hb hd hn hr kk
  case lcmp => exact pm_s_lcmp hx hb hd hn hr kk
  case iushr => exact pm_s_iushr hx hb hd hn hr kk
  case lshl => exact pm_s_lshl hx hb hd hn hr kk
  case i2l => exact pm_s_i2l hx hb hd hn hr kk
  case i2b => exact pm_s_i2b hx hb hd hn hr kk
  case idiv => exact pm_s_idiv hx hb hd hn hr kk
  case irem => exact pm_s_irem hx hb hd hn hr kk
  case dup => exact pm_s_dup hx hb hd hn hr kk
  case pop => exact pm_s_pop hx hb hd hn hr kk
  case dup2 => exact pm_s_dup2 hx hb hd hn hr kk
  case goto => exact pm_s_goto hx hb hd hn hr kk
  case tableswitch => exact pm_s_tableswitch hx hb hd hn hr kk
  case lookupswitch => exact pm_s_lookupswitch hx hb hd hn hr kk
  case ldc => exact pm_s_ldc hx hb hown hK hd hn hr kk
  case ldc_w => exact pm_s_ldc_w hx hb hown hK hd hn hr kk
  case ldc2_w => exact pm_s_ldc2_w hx hb hown hK hd hn hr kk
  case getstatic => exact pm_s_getstatic hx hb hown hK hd hn hr kk
  case getfield => exact pm_s_getfield hx hb hown hK hd hn hr kk
  case iaload => exact pm_s_iaload hx hb hown hK hd hn hr kk
  case baload => exact pm_s_baload hx hb hown hK hd hn hr kk
  case laload => exact pm_s_laload hx hb hown hK hd hn hr kk
  case aaload => exact pm_s_aaload hx hb hown hK hd hn hr kk
  case iastore => exact pm_s_iastore hx hb hown hK hd hn hr kk
  case bastore => exact pm_s_bastore hx hb hown hK hd hn hr kk
  case lastore => exact pm_s_lastore hx hb hown hK hd hn hr kk
  case aastore => exact pm_s_aastore hx hb hown hK hd hn hr kk
  case arraylength => exact pm_s_arraylength hx hb hown hK hd hn hr kk
  case new => exact pm_s_new hx hb hown hK hd hn hr hcR hsR kk
  case newarray => exact pm_s_newarray hx hb hown hK hd hn hr hcR hsR kk
  case anewarray => exact pm_s_anewarray hx hb hown hK hd hn hr hcR hsR kk
  case putfield => exact pm_s_putfield (fun h => by rw [hnm]; exact of_decide_eq_true h) hx hb hown hK hd hn hr kk
  case ifCond c0 k0 => cases c0 <;> first | exact pm_s_ifCond_eq hx hb hd hn hr kk | exact pm_s_ifCond_ne hx hb hd hn hr kk | exact pm_s_ifCond_lt hx hb hd hn hr kk | exact pm_s_ifCond_ge hx hb hd hn hr kk | exact pm_s_ifCond_gt hx hb hd hn hr kk | exact pm_s_ifCond_le hx hb hd hn hr kk
  case if_icmp c0 k0 => cases c0 <;> first | exact pm_s_if_icmp_eq hx hb hd hn hr kk | exact pm_s_if_icmp_ne hx hb hd hn hr kk | exact pm_s_if_icmp_lt hx hb hd hn hr kk | exact pm_s_if_icmp_ge hx hb hd hn hr kk | exact pm_s_if_icmp_gt hx hb hd hn hr kk | exact pm_s_if_icmp_le hx hb hd hn hr kk
  case if_acmp c0 k0 => cases c0 <;> first | exact pm_s_if_acmp_eq hx hb hown hK hd hn hr kk | exact pm_s_if_acmp_ne hx hb hown hK hd hn hr kk
  all_goals cases hr
end PST
/-- what a call gives: the answer, the cells -/
def pm_Qc (o : Om) (r : Option Value) (G : List pE) : Array Value → State → Outcome → State → Prop := fun _ _ oc t => oc = .returned (r.map (pm_v o)) ∧ pm_W o G t.heap
def pm_Pc (o : Om) (as : List Value) (G : List pE) : Array Value → State → Prop := fun a U => a = (as.map (pm_v o)).toArray ∧ pm_K o U ∧ pm_W o G U.heap
def pm_rm (d mc ms : Nat) : Room := { frames := d, cells := mc, slots := ms, locals := 28 * d }
def pm_ws (M : pM) : List Cond := [.code M.y M.code M.maxL M.ret]
def pm_Met (l : Launch) (o : Om) (M : pM) (d : Nat) (as : List Value) (G : List pE) (r : Option Value) (G' : List pE) (mc ms : Nat) : Prop :=
  Met l M.y (pm_ws M) (pm_rm d mc ms) (pm_Pc o as G) (pm_Qc o r G') mc ms (fun q => o.B ≤ q)
theorem pm_sl_len (o : Om) : ∀ as : List Value, (lg_sl (as.map (pm_v o))).length = (lg_sl as).length
  | [] => rfl
  | v :: as => by
    have h := pm_sl_len o as
    unfold lg_sl at h ⊢
    rw [List.map_cons, List.flatMap_cons, List.flatMap_cons, List.length_append, List.length_append, h, pm_v_cat]
    split <;> rfl
theorem pm_l_args (o : Om) : ∀ (as : List Value) (i : Nat), lv_args i (as.map (pm_v o)) = pm_l o (lv_args i as)
  | [], i => rfl
  | v :: as, i => by
    rw [List.map_cons, lv_args, lv_args, pm_l_args o as, pm_v_cat]
    rfl
theorem pm_cats (o : Om) (st : List Value) : ((st.map (pm_v o)).map fun v => v.category).sum = (st.map fun v => v.category).sum := by
  rw [List.map_map]
  congr 1
  apply List.map_congr_left
  intro v _
  exact pm_v_cat o v
/-- a method's row against the tables -/
theorem pm_M {M : pM} {k : Nat} (h : pm_tab[k]? = some M) (hno : M.y.cls ≠ "java/lang/Object") : lw_tbl[M.p0]? = some (.code M.y M.code M.maxL M.ret) ∧ M.y.cls = pm_own M.own ∧ M.maxL ≤ 9 ∧ plainName M.y.cls = true ∧ lw_tbl[M.p1]? = some (.initialized M.y.cls) ∧ (parseMethodDescriptor M.y.desc).map (fun d => d.parameters.length) = some M.np ∧ (M.y.cls ≠ "java/lang/invoke/MethodHandle" ∧ M.y.cls ≠ "java/lang/invoke/VarHandle") ∧ (M.st = true → lw_tbl[M.p2]? = some (.static M.y)) ∧ (M.st = false → lw_tbl[M.p2]? = some (.instanceMethod M.y)) ∧ (M.st = false → M.y.name ≠ "<init>" → lw_tbl[M.p3]? = some (.selects M.y.cls M.y M.y) ∧ (vwCl[M.ci]?).map (fun q => q.1) = some M.y.cls) := by
  have h1 := pm_m_ok M (List.mem_of_getElem? h)
  unfold pm_mchk at h1
  simp only [Bool.and_eq_true, Bool.or_eq_true, decide_eq_true_eq] at h1
  obtain ⟨⟨⟨h2, h3⟩, h4⟩, h5⟩ := h1
  have h6 := h5.resolve_left hno
  obtain ⟨⟨a1, a2, a3, a4, a5⟩, h7⟩ := h6
  have hcode : lw_tbl[M.p0]? = some (.code M.y M.code M.maxL M.ret) := by
    unfold pM.code pm_codeAt
    split at h2
    · rename_i y cc nn rr he
      rw [he]
      obtain ⟨z1, z2, z3⟩ := of_decide_eq_true h2
      rw [z1, z2, z3]
    · cases h2
  refine ⟨hcode, h3, h4, a1, a2, a3, ⟨a4, a5⟩, fun hs => ?_, fun hs => ?_, fun hs hn => ?_⟩
  · rw [hs] at h7
    exact of_decide_eq_true h7
  · rw [hs] at h7
    simp only [Bool.and_eq_true, decide_eq_true_eq] at h7
    exact h7.1
  · rw [hs] at h7
    simp only [Bool.and_eq_true, Bool.or_eq_true, decide_eq_true_eq] at h7
    exact h7.2.resolve_left hn
/-- behind a call -/
theorem pm_after {p : Program} {l : Launch} {e : Env} {R : Room} {s : State} {m : MethodId} {args : Array Value} {below : List Frame} {meth : Method} {c : Code} {Q : State → Prop} {o : Om} {M : pM} {G' : List pE} {lv : pL} {rest : List Value} {pc cells slots mc ms : Nat} {H : Heap} {locs : List Loc} {ls : Array Slot} {st0 : List Value} {a : Array Value} {r : Option Value}
    (hr : va_Run p l e R s m args below meth c H locs cells slots mc ms (F0 m pc ls st0) (rest.map (pm_v o)) (pm_Qc o r G' a) (fun q => o.B ≤ q)) (hL : ∀ q ∈ locs, o.B ≤ q.base) (hl : lv_has ls M.maxL (pm_l o lv))
    (kk : PW p l e R s m args below meth c Q o M (pc + 3) lv (r.toList ++ rest) G' (cells + mc) (slots + ms)) : W p l e R s m args below meth c H locs cells slots Q (F0 m pc ls st0) := by
  intro T hT X
  obtain ⟨v, st₀, t, T', L, h0, X', hL2, e1, e2, ⟨hv, hw⟩, stp⟩ := hr T hT X
  have hv : v = r.map (pm_v o) := by cases hv; rfl
  subst hv
  have hk := kk T'.heap (locs ++ L) ls (by rw [e1]; exact hw) (fun q hq => (List.mem_append.mp hq).elim (hL q) (hL2 q)) hl
  have hst : (r.toList ++ rest).map (pm_v o) = (r.map (pm_v o)).toList ++ rest.map (pm_v o) := by cases r <;> rfl
  rw [hst] at hk
  obtain ⟨t2, a1, b1⟩ := hk T' rfl X'
  exact ⟨t2, stp t2 a1, b1⟩
theorem pm_blind (o : Om) (as : List Value) (G : List pE) : FrameBlind (pm_Pc o as G) := fun a U g mk ⟨h1, h2, h3⟩ => ⟨h1, h2.calling, h3⟩
theorem pm_split {st : List Value} {na : Nat} (h : na ≤ st.length) {as : List Value} (ha : (st.take na).reverse = as) : st = as.reverse ++ st.drop na ∧ as.length = na := by
  constructor
  · rw [← ha, List.reverse_reverse, List.take_append_drop]
  · rw [← ha, List.length_reverse, List.length_take]
    omega
section PCL
variable {p : Program} {l : Launch} {e : Env} {R : Room} {s : State} {m : MethodId} {args : Array Value} {below : List Frame} {meth : Method} {c : Code} {Q : State → Prop} {o : Om} {M M' : pM} {G G' : List pE} {lv : pL} {st : List Value} {pc d mc ms cells slots k kd idx place w : Nat} {as : List Value} {r : Option Value}
theorem pm_callB (hK : pm_K o s) (hM' : pm_tab[k]? = some M') (hno : M'.y.cls ≠ "java/lang/Object") (hlink : (Cond.methodLink (pm_own M.own) idx M'.y).before args s = true) (hRf : d + 1 ≤ R.frames) (hRl : 28 * (d + 1) ≤ R.locals) : CallB R s args (pm_own M.own) idx M'.y M'.code M'.maxL M'.ret (pm_ws M') (pm_rm d mc ms) mc ms M'.np := by
  obtain ⟨q1, q2, q3, q4, q5, q6, q7, -⟩ := pm_M hM' hno
  refine ⟨rfl, rfl, hRf, ?_, ?_, List.mem_cons_self, hK.word q1 rfl args, hK.word q5 rfl args, q7, fun sig h => ?_, hlink⟩
  · show 8 + (M'.maxL + 11) + 28 * d ≤ R.locals
    omega
  · intro x hx a' U hW
    rw [List.mem_singleton.mp hx]
    exact pm_good_at hW rfl (hK.word q1 rfl args)
  · rw [h] at q6
    exact (Option.some.inj q6).symm
theorem pm_callN (hK : pm_K o s) (hM' : pm_tab[k]? = some M') (hno : M'.y.cls ≠ "java/lang/Object") (hlink : (Cond.methodLinkNest (pm_own M.own) idx M'.y "BreathingHill").before args s = true) (hRf : d + 1 ≤ R.frames) (hRl : 28 * (d + 1) ≤ R.locals) : va_CN R s args (pm_own M.own) idx M'.y "BreathingHill" M'.code M'.maxL M'.ret (pm_ws M') (pm_rm d mc ms) mc ms M'.np := by
  obtain ⟨q1, q2, q3, q4, q5, q6, q7, -⟩ := pm_M hM' hno
  refine ⟨⟨rfl, rfl, hRf, ?_, ?_, List.mem_cons_self⟩, hK.word q1 rfl args, hK.word q5 rfl args, q7, fun sig h => ?_, hlink⟩
  · show 8 + (M'.maxL + 11) + 28 * d ≤ R.locals
    omega
  · intro x hx a' U hW
    rw [List.mem_singleton.mp hx]
    exact pm_good_at hW rfl (hK.word q1 rfl args)
  · rw [h] at q6
    exact (Option.some.inj q6).symm
set_option maxHeartbeats 4000000 in
/-- a call of a method that has its contract -/
theorem pm_call_ok {i : Instr} {n : Nat} {q : Nat × Nat × Nat × Nat × Nat} (hF : pm_Fix p s m meth c M) (hK : pm_K o s) (hd : decode M.code pc = .ok (i, n)) (hn : pm_len i n = n) (hi : pm_call i = some (w, idx)) (hf : pm_ctab.find? (fun r => r.1 == M.own && r.2.1 == idx) = some q) (hq : q.2.2.1 ≠ 0 ∧ q.2.2.1 ≠ 7 ∧ q.2.2.1 ≠ 8 ∧ q.2.2.1 ≠ 9) (hkw : q.2.2.1 = w ∨ q.2.2.1 = w + 3) (hM' : pm_tab[q.2.2.2.1]? = some M') (hna : pm_na M' ≤ st.length) (hrc : pm_recv q.2.2.1 M' (st.take (pm_na M')).reverse G = true) (hsum : ((st.drop (pm_na M')).map fun v => v.category).sum ≤ 8)
    (hRf : d + 1 ≤ R.frames) (hRl : 28 * (d + 1) ≤ R.locals) (hM : pm_Met l o M' d (st.take (pm_na M')).reverse G r G' mc ms) (hcR : cells + mc ≤ R.cells) (hsR : slots + ms ≤ R.slots)
    (kk : PW p l e R s m args below meth c Q o M (pc + 3) lv (r.toList ++ st.drop (pm_na M')) G' (cells + mc) (slots + ms)) : PW p l e R s m args below meth c Q o M pc lv st G cells slots := by
  intro H locs ls hW hL hl
  obtain ⟨hx, hb, hml, hown, hret, hlk, hnm⟩ := hF
  obtain ⟨h1, h2, h3⟩ := pm_find2 hf pm_c_ok
  unfold pm_cchk at h3
  have hw : w = 1 ∨ w = 2 ∨ w = 3 := by
    unfold pm_call at hi
    split at hi <;> first | (cases hi; omega) | cases hi
  rw [if_neg (by omega), hM', h1, h2] at h3
  dsimp only at h3
  generalize hkd : q.2.2.1 = kd at *
  generalize hasd : (st.take (pm_na M')).reverse = as at *
  obtain ⟨hst, hlen⟩ := pm_split hna hasd
  have hS : CallFix p m c M.code M.maxL s args [] (pm_own M.own) := ⟨hx, hb, hml, hown, fun w hw => by cases hw⟩
  have hroom : (((st.drop (pm_na M')).map (pm_v o)).map fun v => v.category).sum ≤ 8 := by rw [pm_cats]; exact hsum
  have hpre : ∀ U : State, U.heap = H → s.WarmedH U.vm → pm_Pc o as G (as.map (pm_v o)).toArray U := fun U hU hWm => ⟨rfl, hK.warm hWm, by rw [hU]; exact hW⟩
  have hstk : st.map (pm_v o) = (as.map (pm_v o)).reverse ++ (st.drop (pm_na M')).map (pm_v o) := by
    conv => lhs; rw [hst]
    rw [List.map_append, List.map_reverse]
  have hn3 : n = 3 := by
    unfold pm_call at hi
    split at hi <;> first | exact hn.symm | cases hi
  subst hn3
  -- static methods
  have hstat : M'.st = true → i = .invokestatic idx → (kd = 2 ∨ kd = 5) → W p l e R s m args below meth c H locs cells slots Q (F0 m pc ls (st.map (pm_v o))) := by
    intro hs hie hk2
    subst hie
    have hnp : (as.map (pm_v o)).length = M'.np := by rw [List.length_map, hlen]; unfold pm_na; rw [if_pos hs]
    rcases hk2 with rfl | rfl
    · simp only [Bool.and_eq_true, decide_eq_true_eq] at h3
      have hms := pm_M hM' h3.2.2
      exact pm_after (va_runS hS hM ⟨pm_callB hK hM' h3.2.2 (hK.word h3.1 rfl args) hRf hRl, hK.word (hms.2.2.2.2.2.2.2.1 hs) rfl args⟩ ⟨pm_blind o as G, hpre⟩ rfl hnp hl.1 hstk (lv_room hroom) hd ⟨hcR, hsR⟩) hL hl kk
    · simp only [Bool.and_eq_true, decide_eq_true_eq] at h3
      have hms := pm_M hM' h3.2.2
      exact pm_after (va_runSN hS hM ⟨pm_callN hK hM' h3.2.2 (hK.word h3.1 rfl args) hRf hRl, hK.word (hms.2.2.2.2.2.2.2.1 hs) rfl args, trivial⟩ ⟨pm_blind o as G, hpre⟩ rfl hnp hl.1 hstk (lv_room hroom) hd ⟨hcR, hsR⟩) hL hl kk
  have hinst : M'.st = false → ∃ (b : Nat) (As : List Value), as = .ref b :: As ∧ As.length = M'.np ∧ (kd ≠ 3 → kd ≠ 6 → ∃ fs, G[b]? = some (.inr (M'.ci, fs))) := by
    intro hs
    unfold pm_recv at hrc
    rw [hs] at hrc
    dsimp only at hrc
    split at hrc
    · rename_i b As
      refine ⟨b, As, rfl, ?_, fun k3 k6 => ?_⟩
      · have := hlen
        unfold pm_na at this
        rw [if_neg (by rw [hs]; decide)] at this
        rw [List.length_cons] at this
        omega
      · split at hrc
        · exact absurd rfl k3
        · exact absurd rfl k6
        · split at hrc
          · rename_i ci fs hg
            have := of_decide_eq_true hrc
            subst this
            exact ⟨fs, hg⟩
          · cases hrc
    · cases hrc
  unfold pm_call at hi
  split at hi
  · -- invokevirtual
    cases hi
    have hk1 : kd = 1 ∨ kd = 4 := hkw
    have hs : M'.st = false := by
      rcases hk1 with rfl | rfl <;> (simp only [Bool.and_eq_true, decide_eq_true_eq] at h3; exact h3.2.1)
    obtain ⟨b, As, rfl, hAl, hgb⟩ := hinst hs
    obtain ⟨fs, hgc⟩ := hgb (by omega) (by omega)
    have hnp : (As.map (pm_v o)).length = M'.np := by rw [List.length_map, hAl]
    have hstk2 : st.map (pm_v o) = (As.map (pm_v o)).reverse ++ .ref (pm_ad o b) :: (st.drop (pm_na M')).map (pm_v o) := by
      rw [hstk, List.map_cons, List.reverse_cons, List.append_assoc]
      rfl
    rcases hk1 with rfl | rfl
    · simp only [Bool.and_eq_true, decide_eq_true_eq] at h3
      have hms := pm_M hM' h3.2.2.2
      obtain ⟨m1, m2⟩ := hms.2.2.2.2.2.2.2.2.2 hs h3.2.2.1
      have hrv : ∃ cellB : Cell, H[pm_ad o b]? = some cellB ∧ cellB.vm.isStatics = false ∧ s.vm.findClass M'.y.cls = some cellB.cls := by
        cases hvc : vwCl[M'.ci]? with
        | none => rw [hvc] at m2; cases m2
        | some q0 =>
          rw [hvc] at m2
          have m3 : q0.1 = M'.y.cls := Option.some.inj m2
          obtain ⟨cB, g1, g2, g3⟩ := va_recv hK.2.1 hW.1 hvc (hW.at hgc)
          rw [m3] at g3
          exact ⟨cB, g1, g2, g3⟩
      exact pm_after (va_runV hS hM ⟨pm_callB hK hM' h3.2.2.2 (hK.word h3.1 rfl args) hRf hRl, hK.word (hms.2.2.2.2.2.2.2.2.1 hs) rfl args, hK.word m1 rfl args⟩ ⟨pm_blind o _ G, hrv, hpre⟩ rfl hnp hl.1 hstk2 (lv_room hroom) hd ⟨hcR, hsR⟩) hL hl kk
    · simp only [Bool.and_eq_true, decide_eq_true_eq] at h3
      have hms := pm_M hM' h3.2.2.2
      obtain ⟨m1, m2⟩ := hms.2.2.2.2.2.2.2.2.2 hs h3.2.2.1
      have hrv : ∃ cellB : Cell, H[pm_ad o b]? = some cellB ∧ cellB.vm.isStatics = false ∧ s.vm.findClass M'.y.cls = some cellB.cls := by
        cases hvc : vwCl[M'.ci]? with
        | none => rw [hvc] at m2; cases m2
        | some q0 =>
          rw [hvc] at m2
          have m3 : q0.1 = M'.y.cls := Option.some.inj m2
          obtain ⟨cB, g1, g2, g3⟩ := va_recv hK.2.1 hW.1 hvc (hW.at hgc)
          rw [m3] at g3
          exact ⟨cB, g1, g2, g3⟩
      exact pm_after (va_runVN hS hM ⟨pm_callN hK hM' h3.2.2.2 (hK.word h3.1 rfl args) hRf hRl, hK.word (hms.2.2.2.2.2.2.2.2.1 hs) rfl args, hK.word m1 rfl args⟩ ⟨pm_blind o _ G, hrv, hpre⟩ rfl hnp hl.1 hstk2 (lv_room hroom) hd ⟨hcR, hsR⟩) hL hl kk
  · -- invokestatic
    cases hi
    have hk1 : kd = 2 ∨ kd = 5 := hkw
    have hs : M'.st = true := by
      rcases hk1 with rfl | rfl <;> (simp only [Bool.and_eq_true, decide_eq_true_eq] at h3; exact h3.2.1)
    exact hstat hs rfl hk1
  · -- invokespecial
    cases hi
    have hk1 : kd = 3 ∨ kd = 6 := hkw
    have hs : M'.st = false := by
      rcases hk1 with rfl | rfl <;> (simp only [Bool.and_eq_true, decide_eq_true_eq] at h3; exact h3.2.1)
    obtain ⟨b, As, rfl, hAl, -⟩ := hinst hs
    have hnp : (As.map (pm_v o)).length = M'.np := by rw [List.length_map, hAl]
    have hstk2 : st.map (pm_v o) = (As.map (pm_v o)).reverse ++ .ref (pm_ad o b) :: (st.drop (pm_na M')).map (pm_v o) := by
      rw [hstk, List.map_cons, List.reverse_cons, List.append_assoc]
      rfl
    rcases hk1 with rfl | rfl
    · simp only [Bool.and_eq_true, decide_eq_true_eq] at h3
      have hms := pm_M hM' h3.2.2.2.1
      have hcb := pm_callB (mc := mc) (ms := ms) hK hM' h3.2.2.2.1 (hK.word h3.1 rfl args) hRf hRl
      rw [h3.2.2.2.2] at hcb
      exact pm_after (va_runI hS hM ⟨hcb, h3.2.2.1, hK.word (hms.2.2.2.2.2.2.2.2.1 hs) rfl args⟩ ⟨pm_blind o _ G, hpre⟩ rfl hnp hl.1 hstk2 (lv_room hroom) hd ⟨hcR, hsR⟩) hL hl kk
    · simp only [Bool.and_eq_true, decide_eq_true_eq] at h3
      have hms := pm_M hM' h3.2.2.2.1
      have hcb := pm_callN (mc := mc) (ms := ms) hK hM' h3.2.2.2.1 (hK.word h3.1 rfl args) hRf hRl
      rw [h3.2.2.2.2] at hcb
      exact pm_after (va_runIN hS hM ⟨hcb, h3.2.2.1, hK.word (hms.2.2.2.2.2.2.2.2.1 hs) rfl args⟩ ⟨pm_blind o _ G, hpre⟩ rfl hnp hl.1 hstk2 (lv_room hroom) hd ⟨hcR, hsR⟩) hL hl kk
  · cases hi
end PCL
end
section
-- ===== a run of the pure machine is a run of the machine =====
theorem pm_wobj : lw_tbl[117]? = some (.code Lib.objectInit ⟨#[0xb1]⟩ 1 none) := by decide +kernel
theorem pm_wobji : lw_tbl[116]? = some (.instanceMethod Lib.objectInit) := by decide +kernel
theorem pm_wmath : lw_tbl[108]? = some (.initialized "java/lang/Math") := by decide +kernel
theorem pm_wmax : lw_tbl[882]? = some (.code Lib.Math.max.name Lib.Math.max.code 2 (some .int)) := by decide +kernel
theorem pm_wmaxs : lw_tbl[881]? = some (.static Lib.Math.max.name) := by decide +kernel
theorem pm_wmin : lw_tbl[850]? = some (.code Lib.Math.min.name Lib.Math.min.code 2 (some .int)) := by decide +kernel
theorem pm_wmins : lw_tbl[849]? = some (.static Lib.Math.min.name) := by decide +kernel
theorem pm_wabs : lw_tbl[847]? = some (.code Lib.Math.abs.name Lib.Math.abs.code 1 (some .int)) := by decide +kernel
theorem pm_wabss : lw_tbl[846]? = some (.static Lib.Math.abs.name) := by decide +kernel
theorem pm_ret_ok {p : Program} {l : Launch} {e : Env} {R : Room} {s : State} {m : MethodId} {args : Array Value} {below : List Frame} {meth : Method} {c : Code} {o : Om} {M : pM} {G : List pE} {lv : pL} {st : List Value} {pc n cells slots : Nat} {i : Instr} {r : Option Value} (hF : pm_Fix p s m meth c M) (hd : decode M.code pc = .ok (i, n)) (hn : pm_len i n = n) (hr : pm_ret i M.ret st = some r) : PW p l e R s m args below meth c (MQ below (pm_Qc o r G) args s cells slots (fun q => o.B ≤ q)) o M pc lv st G cells slots := by
  intro H locs ls hW hL hl
  obtain ⟨hx, hb, hml, hown, hret, hlk, hnm⟩ := hF
  unfold pm_ret at hr
  split at hr
  · split at hr
    · rename_i ht
      cases hr
      obtain rfl : 1 = n := hn
      rw [ht] at hret
      exact W.vret hx hb hret (fun t ht _ => ⟨rfl, by rw [ht]; exact hW⟩) hL hd hlk
    · cases hr
  · split at hr
    · rename_i ty hty
      split at hr
      · rename_i hnr
        cases hr
        obtain rfl : 1 = n := hn
        rw [hty] at hret
        exact W.zret hx hb hret hnr.1 (fun t ht _ => ⟨rfl, by rw [ht]; exact hW⟩) hL hd hlk
      · cases hr
    · cases hr
  · split at hr
    · rename_i nm hty
      cases hr
      obtain rfl : 1 = n := hn
      rw [hty] at hret
      exact W.aret hx hb hret (Or.inl ⟨_, rfl⟩) (Or.inr ⟨_, rfl⟩) (fun t ht _ => ⟨rfl, by rw [ht]; exact hW⟩) hL hd hlk
    · cases hr
  · cases hr
/-- the pure run gives the machine's -/
def pm_Ok (o : Om) (f : Nat) : Prop := ∀ (d : Nat) (M : pM) (pc : Nat) (lv : pL) (st : List Value) (G : List pE) (c0 s0 : Nat) (r : Option Value) (G' : List pE) (c1 s1 : Nat), pm_run o.xs o.L o.J f d M pc lv st G c0 s0 = some (r, G', c1, s1) →
  ∀ (p : Program) (l : Launch) (e : Env) (R : Room) (s : State) (m : MethodId) (args : Array Value) (below : List Frame) (meth : Method) (c : Code), pm_Fix p s m meth c M → pm_K o s → d ≤ R.frames → 28 * d ≤ R.locals → c1 ≤ R.cells → s1 ≤ R.slots → c0 ≤ c1 ∧ s0 ≤ s1 ∧ PW p l e R s m args below meth c (MQ below (pm_Qc o r G') args s c1 s1 (fun q => o.B ≤ q)) o M pc lv st G c0 s0
/-- a method's contract out of its run -/
theorem pm_met {o : Om} {f : Nat} (ih : pm_Ok o f) {d k : Nat} {M : pM} {as : List Value} {G : List pE} {r : Option Value} {G' : List pE} {mc ms : Nat} (hM : pm_tab[k]? = some M) (hno : M.y.cls ≠ "java/lang/Object") (hl : (lg_sl as).length ≤ M.maxL) (hr : pm_run o.xs o.L o.J f d M 0 (lv_args 0 as) [] G 0 0 = some (r, G', mc, ms)) (l : Launch) : pm_Met l o M d as G r G' mc ms := by
  obtain ⟨q1, q2, q3, q4, -⟩ := pm_M hM hno
  refine Met.ofW (cc := M.code) (maxL := M.maxL) (ret := M.ret) q4 rfl ?_
  intro p e s m args below meth c s₁ B hml hv
  obtain ⟨rfl, hK, hW⟩ := hv
  have hown : s.vm.findClass (pm_own M.own) = some m.cls := by rw [← q2]; exact findClass_of_methodNamed B.named
  have hF : pm_Fix p s m meth c M := ⟨B.exec, B.bytes, hml, hown, B.returns, B.notSynchronized, (name_of_methodNamed B.named B.method).1⟩
  obtain ⟨-, -, hP⟩ := ih d M 0 _ [] G 0 0 r G' mc ms hr p l e (headSpec (pm_ws M) (pm_rm d mc ms)).room s m (as.map (pm_v o)).toArray below meth c hF hK (Nat.le_refl _) (Nat.le_refl _) (Nat.le_refl _) (Nat.le_refl _)
  have hl2 := lv_entry (as.map (pm_v o)) (n := M.maxL) (by rw [pm_sl_len]; exact hl)
  rw [lg_entry_eq]
  rw [pm_l_args] at hl2
  exact hP s.heap [] _ hW (fun q hq => by cases hq) hl2
set_option maxHeartbeats 4000000 in
theorem pm_run_ok (o : Om) : ∀ f, pm_Ok o f
  | 0 => by
    intro d M pc lv st G c0 s0 r G' c1 s1 h
    cases h
  | f + 1 => by
    have ih := pm_run_ok o f
    intro d M pc lv st G c0 s0 r G' c1 s1 h p l e R s m args below meth c hF hK hRf hRl hRc hRs
    rw [pm_run] at h
    split at h
    · cases h
    · rename_i i n hd
      split at h
      · rename_i hn
        split at h
        · rename_i r0 hret
          cases h
          exact ⟨Nat.le_refl _, Nat.le_refl _, pm_ret_ok hF hd hn hret⟩
        · rename_i hrn
          clear hrn
          split at h
          · -- a step
            split at h
            · rename_i pc' lv' st' G2 dc ds hst
              obtain ⟨h1, h2, hP⟩ := ih d M pc' lv' st' G2 (c0 + dc) (s0 + ds) r G' c1 s1 h p l e R s m args below meth c hF hK hRf hRl hRc hRs
              exact ⟨by omega, by omega, pm_step_ok hF hK hd hn hst (by omega) (by omega) hP⟩
            · cases h
          · -- a call
            rename_i w idx hcl
            split at h
            · cases h
            · rename_i q hfd
              have hn3 : n = 3 := by
                unfold pm_call at hcl
                split at hcl <;> first | exact hn.symm | cases hcl
              obtain ⟨hx, hb, hml, hown, hret, hlk, hnm⟩ := id hF
              obtain ⟨g1, g2, g3⟩ := pm_find2 hfd pm_c_ok
              unfold pm_cchk at g3
              split at h
              · -- Object()
                rename_i hq0
                split at h
                · rename_i a rr
                  split at h
                  · rename_i hok
                    obtain ⟨h1, h2, hP⟩ := ih d M (pc + 3) lv rr G c0 s0 r G' c1 s1 h p l e R s m args below meth c hF hK hRf hRl hRc hRs
                    refine ⟨h1, h2, fun H locs ls hW hL hl => ?_⟩
                    rw [hq0, if_neg (by omega)] at g3
                    split at g3
                    · cases g3
                    · rename_i M0 hM0
                      simp only [Bool.and_eq_true, decide_eq_true_eq] at g3
                      obtain ⟨⟨y1, -⟩, y2⟩ := g3
                      rw [g1, g2, y1] at y2
                      have hie : i = .invokespecial idx := by
                        unfold pm_call at hcl
                        split at hcl <;> first | (cases hcl; rfl) | (cases hcl; omega) | cases hcl
                      subst hie
                      subst hn3
                      have hsum : (((rr.map (pm_v o)).map fun v => v.category).sum) ≤ 8 := by rw [pm_cats]; exact hok.2.2
                      exact W.objInit hx hb hown (hK.word y2 rfl args) (hK.word pm_wobji rfl args) (hK.word pm_wobj rfl args) (a := pm_ad o a) (rest := rr.map (pm_v o)) rfl (by rw [hml]; exact hl.1) rfl hd (by omega) (by show 2 * 0 + _ + 12 ≤ _; omega) (hP H locs ls hW hL hl)
                  · cases h
                · cases h
              · -- Math.max
                rename_i hq0
                split at h
                · rename_i y x rr
                  split at h
                  · rename_i hok
                    obtain ⟨h1, h2, hP⟩ := ih d M (pc + 3) lv _ G c0 s0 r G' c1 s1 h p l e R s m args below meth c hF hK hRf hRl hRc hRs
                    refine ⟨h1, h2, fun H locs ls hW hL hl => ?_⟩
                    rw [hq0, if_pos (by omega)] at g3
                    have g3 := of_decide_eq_true g3
                    rw [g1, g2] at g3
                    have hie : i = .invokestatic idx := by
                      unfold pm_call at hcl
                      split at hcl <;> first | (cases hcl; rfl) | (cases hcl; omega) | cases hcl
                    subst hie
                    subst hn3
                    have hsum : (((rr.map (pm_v o)).map fun v => v.category).sum) ≤ 8 := by rw [pm_cats]; exact hok.2.2
                    exact va_mmax hx hb (by rw [hml]; exact hl.1.symm) hown (hK.word g3 rfl args) (hK.word pm_wmaxs rfl args) (hK.word pm_wmath rfl args) (hK.word pm_wmax rfl args) (by omega) (by omega) (by omega) (by omega) hd (hP H locs ls hW hL hl)
                  · cases h
                · cases h
              · -- Math.min
                rename_i hq0
                split at h
                · rename_i y x rr
                  split at h
                  · rename_i hok
                    obtain ⟨h1, h2, hP⟩ := ih d M (pc + 3) lv _ G c0 s0 r G' c1 s1 h p l e R s m args below meth c hF hK hRf hRl hRc hRs
                    refine ⟨h1, h2, fun H locs ls hW hL hl => ?_⟩
                    rw [hq0, if_pos (by omega)] at g3
                    have g3 := of_decide_eq_true g3
                    rw [g1, g2] at g3
                    have hie : i = .invokestatic idx := by
                      unfold pm_call at hcl
                      split at hcl <;> first | (cases hcl; rfl) | (cases hcl; omega) | cases hcl
                    subst hie
                    subst hn3
                    have hsum : (((rr.map (pm_v o)).map fun v => v.category).sum) ≤ 8 := by rw [pm_cats]; exact hok.2.2
                    exact va_mmin hx hb (by rw [hml]; exact hl.1.symm) hown (hK.word g3 rfl args) (hK.word pm_wmins rfl args) (hK.word pm_wmath rfl args) (hK.word pm_wmin rfl args) (by omega) (by omega) (by omega) (by omega) hd (hP H locs ls hW hL hl)
                  · cases h
                · cases h
              · -- Math.abs
                rename_i hq0
                split at h
                · rename_i x rr
                  split at h
                  · rename_i hok
                    obtain ⟨h1, h2, hP⟩ := ih d M (pc + 3) lv _ G c0 s0 r G' c1 s1 h p l e R s m args below meth c hF hK hRf hRl hRc hRs
                    refine ⟨h1, h2, fun H locs ls hW hL hl => ?_⟩
                    rw [hq0, if_pos (by omega)] at g3
                    have g3 := of_decide_eq_true g3
                    rw [g1, g2] at g3
                    have hie : i = .invokestatic idx := by
                      unfold pm_call at hcl
                      split at hcl <;> first | (cases hcl; rfl) | (cases hcl; omega) | cases hcl
                    subst hie
                    subst hn3
                    have hsum : (((rr.map (pm_v o)).map fun v => v.category).sum) ≤ 8 := by rw [pm_cats]; exact hok.2.2
                    exact va_mabs hx hb (by rw [hml]; exact hl.1.symm) hown (hK.word g3 rfl args) (hK.word pm_wabss rfl args) (hK.word pm_wmath rfl args) (hK.word pm_wabs rfl args) (by omega) (by omega) (by omega) (by omega) hd (hP H locs ls hW hL hl)
                  · cases h
                · cases h
              · -- a method of the tables
                rename_i z0 z7 z8 z9
                split at h
                · rename_i d' M' hM'
                  split at h
                  · rename_i hok
                    obtain ⟨k1, k2, k3, k4, k5⟩ := hok
                    split at h
                    · rename_i r1 G1 mc ms hcall
                      obtain ⟨h1, h2, hP⟩ := ih (d' + 1) M (pc + 3) lv _ G1 (c0 + mc) (s0 + ms) r G' c1 s1 h p l e R s m args below meth c hF hK hRf hRl hRc hRs
                      have hno : M'.y.cls ≠ "java/lang/Object" := by
                        rw [hM'] at g3
                        have hw : w = 1 ∨ w = 2 ∨ w = 3 := by
                          unfold pm_call at hcl
                          split at hcl <;> first | (cases hcl; omega) | cases hcl
                        rw [if_neg (by omega)] at g3
                        dsimp only at g3
                        rcases (show q.2.2.1 = 1 ∨ q.2.2.1 = 2 ∨ q.2.2.1 = 3 ∨ q.2.2.1 = 4 ∨ q.2.2.1 = 5 ∨ q.2.2.1 = 6 by omega) with e6 | e6 | e6 | e6 | e6 | e6 <;> rw [e6] at g3 <;> simp only [Bool.and_eq_true, decide_eq_true_eq] at g3
                        · exact g3.2.2.2
                        · exact g3.2.2
                        · exact g3.2.2.2.1
                        · exact g3.2.2.2
                        · exact g3.2.2
                        · exact g3.2.2.2.1
                      have hMet := pm_met ih hM' hno k4 hcall l
                      exact ⟨by omega, by omega, pm_call_ok hF hK hd hn hcl hfd ⟨fun z => z0 z, fun z => z7 z, fun z => z8 z, fun z => z9 z⟩ k1 hM' k2 k3 k5 hRf hRl hMet (by omega) (by omega) hP⟩
                    · cases h
                  · cases h
                · cases h
      · cases h
end
section
-- ===== linear expressions over symbols, and what a list of them (each at least 0) gives =====
abbrev xL : Type := List (Nat × Int) × Int
def xt_ev : List (Nat × Int) → (Nat → Int) → Int
  | [], _ => 0
  | q :: r, v => q.2 * v q.1 + xt_ev r v
def xl_ev (l : xL) (v : Nat → Int) : Int := xt_ev l.1 v + l.2
def xt_ins (i : Nat) (a : Int) : List (Nat × Int) → List (Nat × Int)
  | [] => if a = 0 then [] else [(i, a)]
  | q :: r => if i < q.1 then (if a = 0 then q :: r else (i, a) :: q :: r) else if i = q.1 then (if a + q.2 = 0 then r else (i, a + q.2) :: r) else q :: xt_ins i a r
theorem xt_ins_ev (i : Nat) (a : Int) (v : Nat → Int) : ∀ r, xt_ev (xt_ins i a r) v = a * v i + xt_ev r v
  | [] => by
    unfold xt_ins
    split
    · rename_i h
      rw [h]
      simp [xt_ev]
    · rfl
  | q :: r => by
    unfold xt_ins
    split
    · split
      · rename_i h
        rw [h]
        simp [xt_ev]
      · rfl
    · split
      · rename_i h
        subst h
        split
        · rename_i h
          show xt_ev r v = a * v q.1 + (q.2 * v q.1 + xt_ev r v)
          rw [← Int.add_assoc, ← Int.add_mul, h]
          simp
        · show (a + q.2) * v q.1 + xt_ev r v = a * v q.1 + (q.2 * v q.1 + xt_ev r v)
          rw [← Int.add_assoc, ← Int.add_mul]
      · show q.2 * v q.1 + xt_ev (xt_ins i a r) v = a * v i + (q.2 * v q.1 + xt_ev r v)
        rw [xt_ins_ev i a v r]
        omega
def xt_add : List (Nat × Int) → List (Nat × Int) → List (Nat × Int)
  | [], m => m
  | q :: r, m => xt_ins q.1 q.2 (xt_add r m)
theorem xt_add_ev (v : Nat → Int) : ∀ l m, xt_ev (xt_add l m) v = xt_ev l v + xt_ev m v
  | [], m => by simp [xt_add, xt_ev]
  | q :: r, m => by
    rw [xt_add, xt_ins_ev, xt_add_ev v r m, xt_ev, Int.add_assoc]
def xt_mul (k : Int) : List (Nat × Int) → List (Nat × Int)
  | [] => []
  | q :: r => (q.1, k * q.2) :: xt_mul k r
theorem xt_mul_ev (k : Int) (v : Nat → Int) : ∀ l, xt_ev (xt_mul k l) v = k * xt_ev l v
  | [] => by simp [xt_mul, xt_ev]
  | q :: r => by
    show k * q.2 * v q.1 + xt_ev (xt_mul k r) v = k * (q.2 * v q.1 + xt_ev r v)
    rw [xt_mul_ev k v r, Int.mul_add, Int.mul_assoc]
def xl_add (l m : xL) : xL := (xt_add l.1 m.1, l.2 + m.2)
def xl_mul (k : Int) (l : xL) : xL := if k = 0 then ([], 0) else (xt_mul k l.1, k * l.2)
def xl_sub (l m : xL) : xL := xl_add l (xl_mul (-1) m)
def xl_c (k : Int) : xL := ([], k)
def xl_s (i : Nat) : xL := ([(i, 1)], 0)
theorem xl_add_ev (l m : xL) (v : Nat → Int) : xl_ev (xl_add l m) v = xl_ev l v + xl_ev m v := by
  unfold xl_ev xl_add
  rw [xt_add_ev]
  omega
theorem xl_mul_ev (k : Int) (l : xL) (v : Nat → Int) : xl_ev (xl_mul k l) v = k * xl_ev l v := by
  unfold xl_mul
  split
  · rename_i h
    rw [h]
    simp [xl_ev, xt_ev]
  · unfold xl_ev
    rw [xt_mul_ev, Int.mul_add]
theorem xl_sub_ev (l m : xL) (v : Nat → Int) : xl_ev (xl_sub l m) v = xl_ev l v - xl_ev m v := by
  unfold xl_sub
  rw [xl_add_ev, xl_mul_ev]
  omega
theorem xl_c_ev (k : Int) (v : Nat → Int) : xl_ev (xl_c k) v = k := by simp [xl_ev, xl_c, xt_ev]
theorem xl_s_ev (i : Nat) (v : Nat → Int) : xl_ev (xl_s i) v = v i := by simp [xl_ev, xl_s, xt_ev]
-- bounds
def x_Bd (v : Nat → Int) : Prop := ∀ i, -2147483648 ≤ v i ∧ v i ≤ 2147483647
def x_Cs (cs : List xL) (v : Nat → Int) : Prop := ∀ c ∈ cs, 0 ≤ xl_ev c v
def x_lo : List xL → Nat → Int
  | [], _ => -2147483648
  | c :: cs, i => match c.1 with
    | [q] => if q.2 = 1 ∧ q.1 = i ∧ x_lo cs i < -c.2 then -c.2 else x_lo cs i
    | _ => x_lo cs i
def x_hi : List xL → Nat → Int
  | [], _ => 2147483647
  | c :: cs, i => match c.1 with
    | [q] => if q.2 = -1 ∧ q.1 = i ∧ c.2 < x_hi cs i then c.2 else x_hi cs i
    | _ => x_hi cs i
theorem x_lo_ok {v : Nat → Int} (hB : x_Bd v) (i : Nat) : ∀ cs, x_Cs cs v → x_lo cs i ≤ v i
  | [], _ => (hB i).1
  | c :: cs, h => by
    have ih := x_lo_ok hB i cs (fun d hd => h d (List.mem_cons_of_mem _ hd))
    have hc := h c List.mem_cons_self
    unfold x_lo
    split
    · rename_i q hq
      split
      · rename_i hh
        unfold xl_ev at hc
        rw [hq] at hc
        simp only [xt_ev] at hc
        rw [hh.1, hh.2.1] at hc
        omega
      · exact ih
    · exact ih
theorem x_hi_ok {v : Nat → Int} (hB : x_Bd v) (i : Nat) : ∀ cs, x_Cs cs v → v i ≤ x_hi cs i
  | [], _ => (hB i).2
  | c :: cs, h => by
    have ih := x_hi_ok hB i cs (fun d hd => h d (List.mem_cons_of_mem _ hd))
    have hc := h c List.mem_cons_self
    unfold x_hi
    split
    · rename_i q hq
      split
      · rename_i hh
        unfold xl_ev at hc
        rw [hq] at hc
        simp only [xt_ev] at hc
        rw [hh.1, hh.2.1] at hc
        omega
      · exact ih
    · exact ih
def xt_lb (cs : List xL) : List (Nat × Int) → Int
  | [] => 0
  | q :: r => (if 0 ≤ q.2 then q.2 * x_lo cs q.1 else q.2 * x_hi cs q.1) + xt_lb cs r
def x_lb (cs : List xL) (l : xL) : Int := xt_lb cs l.1 + l.2
theorem xt_lb_ok {v : Nat → Int} (hB : x_Bd v) {cs : List xL} (h : x_Cs cs v) : ∀ l, xt_lb cs l ≤ xt_ev l v
  | [] => Int.le_refl _
  | q :: r => by
    have ih := xt_lb_ok hB h r
    have h1 := x_lo_ok hB q.1 cs h
    have h2 := x_hi_ok hB q.1 cs h
    show (if 0 ≤ q.2 then q.2 * x_lo cs q.1 else q.2 * x_hi cs q.1) + xt_lb cs r ≤ q.2 * v q.1 + xt_ev r v
    split
    · rename_i hq
      have := Int.mul_le_mul_of_nonneg_left h1 hq
      omega
    · rename_i hq
      have := Int.mul_le_mul_of_nonpos_left (a := q.2) (by omega) h2
      omega
theorem x_lb_ok {v : Nat → Int} (hB : x_Bd v) {cs : List xL} (h : x_Cs cs v) (l : xL) : x_lb cs l ≤ xl_ev l v := by
  have := xt_lb_ok hB h l.1
  unfold x_lb xl_ev
  omega
/-- l is at least 0 wherever cs are -/
def x_ent (cs : List xL) (l : xL) : Bool := decide (0 ≤ x_lb cs l) || cs.any (fun c => decide (0 ≤ x_lb cs (xl_sub l c))) || cs.any (fun c => cs.any (fun d => decide (0 ≤ x_lb cs (xl_sub (xl_sub l c) d))))
theorem x_ent_ok {v : Nat → Int} (hB : x_Bd v) {cs : List xL} (h : x_Cs cs v) {l : xL} (he : x_ent cs l = true) : 0 ≤ xl_ev l v := by
  unfold x_ent at he
  simp only [Bool.or_eq_true, decide_eq_true_eq, List.any_eq_true] at he
  rcases he with (he | ⟨c, hc, he⟩) | ⟨c, hc, d, hd, he⟩
  · have := x_lb_ok hB h l
    omega
  · have h1 := x_lb_ok hB h (xl_sub l c)
    have h2 := h c hc
    rw [xl_sub_ev] at h1
    omega
  · have h1 := x_lb_ok hB h (xl_sub (xl_sub l c) d)
    have h2 := h c hc
    have h3 := h d hd
    rw [xl_sub_ev, xl_sub_ev] at h1
    omega
-- substitution
def xt_sub (b : Nat → xL) : List (Nat × Int) → xL
  | [] => ([], 0)
  | q :: r => xl_add (xl_mul q.2 (b q.1)) (xt_sub b r)
def xl_subst (b : Nat → xL) (l : xL) : xL := xl_add (xt_sub b l.1) (xl_c l.2)
theorem xt_sub_ev (b : Nat → xL) (v : Nat → Int) : ∀ l, xl_ev (xt_sub b l) v = xt_ev l (fun i => xl_ev (b i) v)
  | [] => by simp [xt_sub, xl_ev, xt_ev]
  | q :: r => by
    rw [xt_sub, xl_add_ev, xl_mul_ev, xt_sub_ev b v r]
    rfl
theorem xl_subst_ev (b : Nat → xL) (l : xL) (v : Nat → Int) : xl_ev (xl_subst b l) v = xl_ev l (fun i => xl_ev (b i) v) := by
  unfold xl_subst
  rw [xl_add_ev, xt_sub_ev, xl_c_ev]
  rfl
-- a symbol that doesn't stand in an expression
def xt_no (i : Nat) : List (Nat × Int) → Bool
  | [] => true
  | q :: r => !(q.1 == i) && xt_no i r
def x_up (v : Nat → Int) (i : Nat) (x : Int) : Nat → Int := fun j => if j = i then x else v j
theorem xt_no_ev {i : Nat} (v : Nat → Int) (x : Int) : ∀ l, xt_no i l = true → xt_ev l (x_up v i x) = xt_ev l v
  | [], _ => rfl
  | q :: r, h => by
    unfold xt_no at h
    rw [Bool.and_eq_true] at h
    have h1 : q.1 ≠ i := by simpa using h.1
    rw [xt_ev, xt_ev, xt_no_ev v x r h.2]
    simp [x_up, h1]
theorem xl_no_ev {i : Nat} (v : Nat → Int) (x : Int) {l : xL} (h : xt_no i l.1 = true) : xl_ev l (x_up v i x) = xl_ev l v := by
  unfold xl_ev
  rw [xt_no_ev v x l.1 h]
theorem x_up_Bd {v : Nat → Int} (h : x_Bd v) {i : Nat} {x : Int} (h1 : -2147483648 ≤ x) (h2 : x ≤ 2147483647) : x_Bd (x_up v i x) := by
  intro j
  unfold x_up
  split
  · exact ⟨h1, h2⟩
  · exact h j
end
section
-- ===== the pure cells by slots, and their types =====
abbrev xF : Type := Nat × Int × Int
abbrev xT : Type := Nat × Nat × Nat × List (Nat × xF)
/-- what the i-th slot holds: runs -/
def x_at : List (Nat × xF) → Nat → Option xF
  | [], _ => none
  | q :: r, i => if i < q.1 then some q.2 else x_at r (i - q.1)
def x_slot (e : pE) (i : Nat) : Option Value := match e with
  | .inr (_, fs) => fs[i]?
  | .inl (_, n, .inl f) => if i < n then some (.int (f i)) else none
  | .inl (_, n, .inr (.inl f)) => if i < n then some (.long (f i)) else none
  | .inl (_, n, .inr (.inr (.inr (.inr g)))) => if i < n then some (va_rf (g i)) else none
  | _ => none
def x_sl (G : List pE) (k i : Nat) : Option Value := match G[k]? with
  | some e => x_slot e i
  | none => none
def x_shape (t : xT) (e : pE) : Prop := match e with
  | .inr (ci, fs) => t.1 = 0 ∧ ci = t.2.1 ∧ fs.length = t.2.2.1
  | .inl (c, n, .inl _) => t.1 = 1 ∧ c = t.2.1 ∧ n = t.2.2.1 ∧ c < 3
  | .inl (c, n, .inr (.inl _)) => t.1 = 1 ∧ c = t.2.1 ∧ n = t.2.2.1 ∧ c = 3
  | .inl (c, n, .inr (.inr (.inr (.inr _)))) => t.1 = 1 ∧ c = t.2.1 ∧ n = t.2.2.1 ∧ 4 ≤ c ∧ c ≤ 9
  | _ => False
def xf_ok (th : List Nat) (f : xF) (v : Value) : Prop := match f.1 with
  | 0 => ∃ x : Int32, v = .int x ∧ f.2.1 ≤ x.toInt ∧ x.toInt ≤ f.2.2
  | 1 => ∃ x : Int64, v = .long x
  | 3 => ∃ k : Nat, v = .ref k ∧ pm_isTok k = true
  | 4 => v = .null ∨ ∃ k : Nat, v = .ref k ∧ pm_isTok k = true
  | t + 10 => ∃ a : Nat, v = .ref a ∧ th[a]? = some t
  | _ => False
/-- the cells are of their types -/
def xI (tb : Nat → xT) (th : List Nat) (G : List pE) : Prop := G.length = th.length ∧ th.length ≤ pm_TB ∧ ∀ k t : Nat, th[k]? = some t → (∃ e, G[k]? = some e ∧ x_shape (tb t) e) ∧ ∀ i f, x_at (tb t).2.2.2 i = some f → ∃ v, x_sl G k i = some v ∧ xf_ok th f v
/-- one slot is written -/
def x_upd (G G' : List pE) (a i : Nat) (v : Value) : Prop := G'.length = G.length ∧ (∀ k j : Nat, x_sl G' k j = if k = a ∧ j = i then some v else x_sl G k j) ∧ ∀ (k : Nat) (t : xT), (∃ e, G[k]? = some e ∧ x_shape t e) → ∃ e, G'[k]? = some e ∧ x_shape t e
theorem x_upd_of {G : List pE} {a i : Nat} {v : Value} {e e' : pE} (hg : G[a]? = some e) (hs : ∀ j, x_slot e' j = if j = i then some v else x_slot e j) (hsh : ∀ t, x_shape t e → x_shape t e') : x_upd G (G.set a e') a i v := by
  have hl := (List.getElem?_eq_some_iff.mp hg).1
  refine ⟨List.length_set, fun k j => ?_, fun k t h => ?_⟩
  · unfold x_sl
    by_cases hk : k = a
    · subst hk
      rw [List.getElem?_set_self hl, hg]
      simp only [true_and]
      exact hs j
    · rw [List.getElem?_set_ne (Ne.symm hk)]
      simp [hk]
  · obtain ⟨e0, h1, h2⟩ := h
    by_cases hk : k = a
    · subst hk
      rw [hg] at h1
      cases h1
      exact ⟨e', List.getElem?_set_self hl, hsh t h2⟩
    · exact ⟨e0, by rw [List.getElem?_set_ne (Ne.symm hk)]; exact h1, h2⟩
theorem x_upd_put {G : List pE} {a i ci : Nat} {fs : List Value} {v : Value} (hg : G[a]? = some (.inr (ci, fs))) (hi : i < fs.length) : x_upd G (G.set a (.inr (ci, fs.set i v))) a i v := by
  refine x_upd_of hg (fun j => ?_) (fun t h => ?_)
  · show (fs.set i v)[j]? = if j = i then some v else fs[j]?
    split
    · rename_i h
      subst h
      exact List.getElem?_set_self hi
    · rename_i h
      exact List.getElem?_set_ne (Ne.symm h)
  · exact ⟨h.1, h.2.1, by rw [List.length_set]; exact h.2.2⟩
theorem x_upd_int {G : List pE} {a i c n : Nat} {f : Nat → Int32} {x : Int32} (hg : G[a]? = some (.inl (c, n, .inl f))) (hi : i < n) : x_upd G (G.set a (.inl (c, n, .inl (upd f i x)))) a i (.int x) := by
  refine x_upd_of hg (fun j => ?_) (fun t h => h)
  show (if j < n then some (Value.int (upd f i x j)) else none) = if j = i then some (.int x) else if j < n then some (Value.int (f j)) else none
  by_cases h : j = i
  · subst h
    simp [hi, upd]
  · simp [h, upd]
theorem x_upd_long {G : List pE} {a i c n : Nat} {f : Nat → Int64} {x : Int64} (hg : G[a]? = some (.inl (c, n, .inr (.inl f)))) (hi : i < n) : x_upd G (G.set a (.inl (c, n, .inr (.inl (vp_updL f i x))))) a i (.long x) := by
  refine x_upd_of hg (fun j => ?_) (fun t h => h)
  show (if j < n then some (Value.long (vp_updL f i x j)) else none) = if j = i then some (.long x) else if j < n then some (Value.long (f j)) else none
  by_cases h : j = i
  · subst h
    simp [hi, vp_updL]
  · simp [h, vp_updL]
theorem x_upd_ref {G : List pE} {a i c n : Nat} {g : Nat → Option Nat} {x : Option Nat} (hg : G[a]? = some (.inl (c, n, .inr (.inr (.inr (.inr g)))))) (hi : i < n) : x_upd G (G.set a (.inl (c, n, .inr (.inr (.inr (.inr (va_up g i x))))))) a i (va_rf x) := by
  refine x_upd_of hg (fun j => ?_) (fun t h => h)
  show (if j < n then some (va_rf (va_up g i x j)) else none) = if j = i then some (va_rf x) else if j < n then some (va_rf (g j)) else none
  by_cases h : j = i
  · subst h
    simp [hi, va_up]
  · simp [h, va_up]
theorem xI.upd {tb : Nat → xT} {th : List Nat} {G G' : List pE} {a i : Nat} {v : Value} {t : Nat} (h : xI tb th G) (hu : x_upd G G' a i v) (ha : th[a]? = some t) (hv : ∀ f, x_at (tb t).2.2.2 i = some f → xf_ok th f v) : xI tb th G' := by
  refine ⟨hu.1.trans h.1, h.2.1, fun k t' hk => ?_⟩
  obtain ⟨h1, h2⟩ := h.2.2 k t' hk
  refine ⟨hu.2.2 k _ h1, fun j f hf => ?_⟩
  rw [hu.2.1 k j]
  split
  · rename_i hh
    obtain ⟨rfl, rfl⟩ := hh
    rw [ha] at hk
    cases hk
    exact ⟨v, rfl, hv f hf⟩
  · exact h2 j f hf
/-- only slots that E names are other -/
def x_eff (th : List Nat) (E : List (Nat × Nat × Nat)) (G G' : List pE) : Prop := ∀ k t i : Nat, th[k]? = some t → (∀ q ∈ E, ¬ (q.1 = t ∧ q.2.1 ≤ i ∧ i ≤ q.2.2)) → x_sl G' k i = x_sl G k i
theorem x_eff.rf {th : List Nat} {E : List (Nat × Nat × Nat)} {G : List pE} : x_eff th E G G := fun _ _ _ _ _ => rfl
theorem x_eff.tr {th : List Nat} {E : List (Nat × Nat × Nat)} {G1 G2 G3 : List pE} (h1 : x_eff th E G1 G2) (h2 : x_eff th E G2 G3) : x_eff th E G1 G3 := fun k t i hk hi => (h2 k t i hk hi).trans (h1 k t i hk hi)
theorem x_eff.mono {th : List Nat} {E E' : List (Nat × Nat × Nat)} {G1 G2 : List pE} (h : x_eff th E G1 G2) (hs : ∀ q ∈ E, ∃ r ∈ E', r.1 = q.1 ∧ r.2.1 ≤ q.2.1 ∧ q.2.2 ≤ r.2.2) : x_eff th E' G1 G2 := by
  intro k t i hk hi
  refine h k t i hk (fun q hq hh => ?_)
  obtain ⟨r, hr, h1, h2, h3⟩ := hs q hq
  exact hi r hr ⟨h1.trans hh.1, Nat.le_trans h2 hh.2.1, Nat.le_trans hh.2.2 h3⟩
theorem x_eff.upd {th : List Nat} {E : List (Nat × Nat × Nat)} {G G' : List pE} {a i t : Nat} {v : Value} (hu : x_upd G G' a i v) (ha : th[a]? = some t) {q : Nat × Nat × Nat} (hq : q ∈ E) (h1 : q.1 = t) (h2 : q.2.1 ≤ i) (h3 : i ≤ q.2.2) : x_eff th E G G' := by
  intro k t' j hk hj
  rw [hu.2.1 k j]
  split
  · rename_i hh
    obtain ⟨rfl, rfl⟩ := hh
    rw [ha] at hk
    cases hk
    exact absurd ⟨h1, h2, h3⟩ (hj q hq)
  · rfl
-- ===== abstract values, abstract states =====
abbrev xV : Type := Nat × xL
def x_g (th : List Nat) (v : Nat → Int) (a : xV) (w : Value) : Prop := match a.1 with
  | 0 => ∃ x : Int32, w = .int x ∧ x.toInt = xl_ev a.2 v
  | 1 => ∃ x : Int64, w = .long x
  | 3 => ∃ k : Nat, w = .ref k ∧ pm_isTok k = true
  | 4 => w = .null ∨ ∃ k : Nat, w = .ref k ∧ pm_isTok k = true
  | 5 => w = .ref pm_KB
  | 6 => w = .ref pm_SB
  | t + 10 => ∃ b : Nat, w = .ref b ∧ (b : Int) = xl_ev a.2 v ∧ th[b]? = some t
  | _ => False
def x_gs (th : List Nat) (v : Nat → Int) : List xV → List Value → Prop
  | [], [] => True
  | a :: as, w :: ws => x_g th v a w ∧ x_gs th v as ws
  | _, _ => False
abbrev xA : Type := Nat × xL × Nat × xV
def x_fact (th : List Nat) (v : Nat → Int) (G : List pE) (q : xA) : Prop := ∃ a : Nat, (a : Int) = xl_ev q.2.1 v ∧ th[a]? = some q.1 ∧ ∃ w, x_sl G a q.2.2.1 = some w ∧ x_g th v q.2.2.2 w
/-- constraints, locals, stack, facts, next symbol -/
abbrev xG : Type := List xL × List (Nat × xV) × List xV × List xA × Nat
def x_S (tb : Nat → xT) (th : List Nat) (v : Nat → Int) (g : xG) (lv : pL) (st : List Value) (G : List pE) : Prop :=
  x_Bd v ∧ x_Cs g.1 v ∧ (∀ q ∈ g.2.1, ∃ w, pm_get lv q.1 = some w ∧ x_g th v q.2 w) ∧ x_gs th v g.2.2.1 st ∧ (∀ q ∈ g.2.2.2.1, x_fact th v G q) ∧ xI tb th G
def x_noV (i : Nat) (a : xV) : Bool := xt_no i a.2.1
def x_noG (i : Nat) (g : xG) : Bool := g.1.all (fun c => xt_no i c.1) && g.2.1.all (fun q => x_noV i q.2) && g.2.2.1.all (x_noV i) && g.2.2.2.1.all (fun q => xt_no i q.2.1.1 && x_noV i q.2.2.2)
theorem x_g_ext {th : List Nat} {v v' : Nat → Int} {a : xV} {w : Value} (h : xl_ev a.2 v' = xl_ev a.2 v) (hg : x_g th v a w) : x_g th v' a w := by
  unfold x_g at hg ⊢
  split at hg <;> first | exact hg | (rw [h]; exact hg)
theorem x_g_up {th : List Nat} {v : Nat → Int} {i : Nat} {x : Int} {a : xV} {w : Value} (h : x_noV i a = true) (hg : x_g th v a w) : x_g th (x_up v i x) a w := x_g_ext (xl_no_ev v x h) hg
theorem x_gs_up {th : List Nat} {v : Nat → Int} {i : Nat} {x : Int} : ∀ {as : List xV} {ws : List Value}, as.all (x_noV i) = true → x_gs th v as ws → x_gs th (x_up v i x) as ws
  | [], [], _, _ => trivial
  | [], _ :: _, _, h => h.elim
  | _ :: _, [], _, h => h.elim
  | a :: as, w :: ws, hn, h => by
    rw [List.all_cons, Bool.and_eq_true] at hn
    exact ⟨x_g_up hn.1 h.1, x_gs_up hn.2 h.2⟩
theorem x_S_up {tb : Nat → xT} {th : List Nat} {v : Nat → Int} {g : xG} {lv : pL} {st : List Value} {G : List pE} {i : Nat} {x : Int} (h : x_S tb th v g lv st G) (hn : x_noG i g = true) (h1 : -2147483648 ≤ x) (h2 : x ≤ 2147483647) : x_S tb th (x_up v i x) g lv st G := by
  obtain ⟨a1, a2, a3, a4, a5, a6⟩ := h
  unfold x_noG at hn
  simp only [Bool.and_eq_true, List.all_eq_true] at hn
  obtain ⟨⟨⟨n1, n2⟩, n3⟩, n4⟩ := hn
  refine ⟨x_up_Bd a1 h1 h2, fun c hc => ?_, fun q hq => ?_, x_gs_up (List.all_eq_true.mpr n3) a4, fun q hq => ?_, a6⟩
  · rw [xl_no_ev v x (n1 c hc)]
    exact a2 c hc
  · obtain ⟨w, g1, g2⟩ := a3 q hq
    exact ⟨w, g1, x_g_up (n2 q hq) g2⟩
  · obtain ⟨a, f1, f2, w, f3, f4⟩ := a5 q hq
    exact ⟨a, by rw [xl_no_ev v x (n4 q hq).1]; exact f1, f2, w, f3, x_g_up (n4 q hq).2 f4⟩
end
section
-- ===== a step on abstract states =====
def x_ag (m : Nat) (v v' : Nat → Int) : Prop := ∀ i, i < m → v' i = v i
theorem x_ag.rf {m : Nat} {v : Nat → Int} : x_ag m v v := fun _ _ => rfl
theorem x_ag.tr {m : Nat} {v v1 v2 : Nat → Int} (h1 : x_ag m v v1) (h2 : x_ag m v1 v2) : x_ag m v v2 := fun i hi => (h2 i hi).trans (h1 i hi)
theorem x_ag.up {m i : Nat} {v : Nat → Int} {x : Int} (h : m ≤ i) : x_ag m v (x_up v i x) := fun j hj => by
  unfold x_up
  rw [if_neg (by omega)]
def x_lget (lo : List (Nat × xV)) (i : Nat) : Option xV := (lo.find? (fun q => q.1 == i)).map (fun q => q.2)
def x_lput (lo : List (Nat × xV)) (i : Nat) (a : xV) : List (Nat × xV) := (i, a) :: lo.filter (fun q => !(q.1 == i) && !(q.1 + 1 == i && q.2.1 == 1))
def x_rng (cs : List xL) (l : xL) : Bool := x_ent cs (xl_add l (xl_c 2147483648)) && x_ent cs (xl_sub (xl_c 2147483647) l)
def x_hv (m0 pc' : Nat) (cs : List xL) (lo : List (Nat × xV)) (full st' : List xV) (fa : List xA) (nx : Nat) (k : xL → List xL) : Option (List (Nat × xG)) :=
  if m0 ≤ nx ∧ x_noG nx (cs, lo, full, fa, 0) = true then some [(pc', (k (xl_s nx) ++ cs, lo, (0, xl_s nx) :: st', fa, nx + 1))] else none
/-- what a condition says of l: a disjunction of conjunctions -/
def x_cnd (c : ClassFile.Cond) (l : xL) : List (List xL) := match c with
  | .eq => [[l, xl_mul (-1) l]]
  | .ne => [[xl_add l (xl_c (-1))], [xl_add (xl_mul (-1) l) (xl_c (-1))]]
  | .lt => [[xl_add (xl_mul (-1) l) (xl_c (-1))]]
  | .ge => [[l]]
  | .gt => [[xl_add l (xl_c (-1))]]
  | .le => [[xl_mul (-1) l]]
def x_neg (c : ClassFile.Cond) : ClassFile.Cond := match c with
  | .eq => .ne
  | .ne => .eq
  | .lt => .ge
  | .ge => .lt
  | .gt => .le
  | .le => .gt
/-- cs say that one of these fails -/
def x_inf (cs : List xL) (d : List xL) : Bool := d.any (fun e => x_ent cs (xl_add (xl_mul (-1) e) (xl_c (-1))))
def x_brs (pc : Nat) (cs : List xL) (lo : List (Nat × xV)) (st : List xV) (fa : List xA) (nx : Nat) (ds : List (List xL)) : List (Nat × xG) := (ds.filter (fun d => !x_inf cs d)).map (fun d => (pc, (d ++ cs, lo, st, fa, nx)))
def x_br (c : ClassFile.Cond) (l : xL) (pc : Nat) (off : Int) (cs : List xL) (lo : List (Nat × xV)) (st : List xV) (fa : List xA) (nx : Nat) : Option (List (Nat × xG)) := match pm_tgt pc off with
  | none => none
  | some t => some (x_brs t cs lo st fa nx (x_cnd c l) ++ x_brs (pc + 3) cs lo st fa nx (x_cnd (x_neg c) l))
/-- the tables' cases -/
def x_tab (pc : Nat) (l : xL) (cs : List xL) (lo : List (Nat × xV)) (st : List xV) (fa : List xA) (nx : Nat) : Int → List Int → Option (List (Nat × xG))
  | _, [] => some []
  | k, o :: os => match pm_tgt pc o, x_tab pc l cs lo st fa nx (k + 1) os with
    | some t, some r => some (x_brs t cs lo st fa nx (x_cnd .eq (xl_add l (xl_c (-k)))) ++ r)
    | _, _ => none
def x_lkt (pc : Nat) (l : xL) (cs : List xL) (lo : List (Nat × xV)) (st : List xV) (fa : List xA) (nx : Nat) : List (Int × Int) → Option (List (Nat × xG))
  | [] => some []
  | q :: os => match pm_tgt pc q.2, x_lkt pc l cs lo st fa nx os with
    | some t, some r => some (x_brs t cs lo st fa nx (x_cnd .eq (xl_add l (xl_c (-q.1)))) ++ r)
    | _, _ => none
/-- the type of a slot as the machine has it -/
def x_jty (ty : FieldType) (f : xF) : Bool := match ty with
  | .int => f.1 == 0
  | .boolean => f.1 == 0 && decide (0 ≤ f.2.1) && decide (f.2.2 ≤ 1)
  | .long => f.1 == 1
  | .object _ => f.1 == 3 || f.1 == 4 || decide (10 ≤ f.1)
  | .array _ => decide (10 ≤ f.1)
  | _ => false
/-- a value fits a slot -/
def x_fit (cs : List xL) (f : xF) (a : xV) : Bool := match f.1 with
  | 0 => a.1 == 0 && x_ent cs (xl_add a.2 (xl_c (-f.2.1))) && x_ent cs (xl_sub (xl_c f.2.2) a.2)
  | 1 => a.1 == 1
  | 3 => a.1 == 3
  | 4 => a.1 == 3 || a.1 == 4
  | t + 10 => a.1 == t + 10
  | _ => false
def x_cov (E : List (Nat × Nat × Nat)) (t lo hi : Nat) : Bool := E.any (fun q => decide (q.1 = t) && decide (q.2.1 ≤ lo) && decide (hi ≤ q.2.2))
/-- facts of other slots -/
def x_kill (fa : List xA) (t lo hi : Nat) : List xA := fa.filter (fun f => !(f.1 == t && decide (lo ≤ f.2.2.1) && decide (f.2.2.1 ≤ hi)))
/-- reading a slot whose fact isn't there: by its type; then a fact -/
def x_rdt (m0 pc' : Nat) (cs : List xL) (lo : List (Nat × xV)) (full st' : List xV) (fa : List xA) (nx : Nat) (t : Nat) (cl : xL) (i : Nat) (f : xF) : Option (List (Nat × xG)) := match f.1 with
  | 0 => if m0 ≤ nx ∧ x_noG nx (cs, lo, full, fa, 0) = true then some [(pc', ([xl_add (xl_s nx) (xl_c (-f.2.1)), xl_sub (xl_c f.2.2) (xl_s nx)] ++ cs, lo, (0, xl_s nx) :: st', (t, cl, i, (0, xl_s nx)) :: fa, nx + 1))] else none
  | 1 => some [(pc', (cs, lo, (1, xl_c 0) :: st', fa, nx))]
  | 3 => some [(pc', (cs, lo, (3, xl_c 0) :: st', fa, nx))]
  | 4 => some [(pc', (cs, lo, (4, xl_c 0) :: st', fa, nx))]
  | u + 10 => if m0 ≤ nx ∧ x_noG nx (cs, lo, full, fa, 0) = true then some [(pc', (cs, lo, (u + 10, xl_s nx) :: st', (t, cl, i, (u + 10, xl_s nx)) :: fa, nx + 1))] else none
  | _ => none
def x_rd (tb : Nat → xT) (m0 pc' : Nat) (cs : List xL) (lo : List (Nat × xV)) (full st' : List xV) (fa : List xA) (nx : Nat) (t : Nat) (cl : xL) (i : Nat) : Option (List (Nat × xG)) :=
  match fa.find? (fun q => q.1 == t && q.2.2.1 == i && decide (q.2.1 = cl)) with
  | some q => some [(pc', (cs, lo, q.2.2.2 :: st', fa, nx))]
  | none => (match x_at (tb t).2.2.2 i with
    | some f => x_rdt m0 pc' cs lo full st' fa nx t cl i f
    | none => none)
/-- the runs that meet the places lo .. hi -/
def x_over (lo hi : Int) : Int → List (Nat × xF) → List xF
  | _, [] => []
  | k, q :: r => if k + q.1 ≤ lo ∨ hi < k then x_over lo hi (k + q.1) r else q.2 :: x_over lo hi (k + q.1) r
def x_min : List xF → Int
  | [] => 2147483647
  | f :: r => if f.2.1 < x_min r then f.2.1 else x_min r
def x_max : List xF → Int
  | [] => -2147483648
  | f :: r => if x_max r < f.2.2 then f.2.2 else x_max r
def x_ub (cs : List xL) (l : xL) : Int := -(x_lb cs (xl_mul (-1) l))
def x_idx (cs : List xL) (l : xL) (n : Nat) : Bool := x_ent cs l && x_ent cs (xl_sub (xl_c ((n : Int) - 1)) l)
def x_one (r : List (Nat × xF)) : Option xF := match r with
  | [q] => some q.2
  | _ => none
end
section
-- ===== what the abstract steps rest on =====
theorem x_find_and {α : Type} {p q : α → Bool} {x : α} : ∀ {l : List α}, l.find? p = some x → q x = true → (l.filter q).find? p = some x
  | [], h, _ => by cases h
  | a :: l, h, hq => by
    rw [List.find?_cons] at h
    cases hp : p a with
    | true =>
      rw [hp] at h
      cases h
      rw [List.filter_cons_of_pos hq, List.find?_cons, hp]
    | false =>
      rw [hp] at h
      cases hqa : q a with
      | true =>
        rw [List.filter_cons_of_pos hqa, List.find?_cons, hp]
        exact x_find_and h hq
      | false =>
        rw [List.filter_cons_of_neg (by rw [hqa]; decide)]
        exact x_find_and h hq
theorem x_get_put {lv : pL} {i j : Nat} {w w0 : Value} (h : pm_get lv j = some w0) (hj : j ≠ i) (hc : ¬ (j + 1 = i ∧ w0.category = 2)) : pm_get (pm_put1 lv i w) j = some w0 := by
  unfold pm_get at h ⊢
  cases hf : lv.find? (fun q => q.1 == j) with
  | none => rw [hf] at h; cases h
  | some q =>
    rw [hf] at h
    have hq : q.2 = w0 := by cases h; rfl
    have hq1 : q.1 = j := by simpa using List.find?_some hf
    unfold pm_put1
    rw [List.find?_cons]
    have hij : (i == j) = false := by simp [Ne.symm hj]
    simp only [hij]
    rw [x_find_and hf]
    · exact congrArg some hq
    · rw [hq1, hq]
      simp only [Bool.and_eq_true, Bool.not_eq_true', beq_eq_false_iff_ne, Bool.and_eq_false_iff, beq_eq_false_iff_ne]
      refine ⟨hj, ?_⟩
      by_cases h1 : j + 1 = i
      · exact Or.inr (fun z => hc ⟨h1, z⟩)
      · exact Or.inl h1
theorem x_get_self {lv : pL} {i : Nat} {w : Value} : pm_get (pm_put1 lv i w) i = some w := by
  unfold pm_get pm_put1
  simp
section XB
variable {tb : Nat → xT} {th : List Nat} {v : Nat → Int} {cs : List xL} {lo : List (Nat × xV)} {st : List xV} {fa : List xA} {nx : Nat} {lv : pL} {ws : List Value} {G : List pE}
theorem x_g_cat {a : xV} {w : Value} (h : x_g th v a w) (ha : a.1 ≠ 1) : w.category = 1 := by
  unfold x_g at h
  split at h
  · obtain ⟨x, rfl, -⟩ := h; rfl
  · rename_i h1; exact absurd h1 ha
  · obtain ⟨k, rfl, -⟩ := h; rfl
  · rcases h with rfl | ⟨k, rfl, -⟩ <;> rfl
  · rw [h]; rfl
  · rw [h]; rfl
  · obtain ⟨k, rfl, -⟩ := h; rfl
  · exact h.elim
theorem x_lget_ok {i : Nat} {a : xV} (h : x_lget lo i = some a) (hlo : ∀ q ∈ lo, ∃ w, pm_get lv q.1 = some w ∧ x_g th v q.2 w) : ∃ w, pm_get lv i = some w ∧ x_g th v a w := by
  unfold x_lget at h
  cases hf : lo.find? (fun q => q.1 == i) with
  | none => rw [hf] at h; cases h
  | some q =>
    rw [hf] at h
    cases h
    have h1 := hlo q (List.mem_of_find?_eq_some hf)
    have h2 : q.1 = i := by simpa using List.find?_some hf
    rw [h2] at h1
    exact h1
theorem x_lput_ok {i : Nat} {a : xV} {w : Value} (hlo : ∀ q ∈ lo, ∃ w, pm_get lv q.1 = some w ∧ x_g th v q.2 w) (ha : x_g th v a w) : ∀ q ∈ x_lput lo i a, ∃ w', pm_get (pm_put1 lv i w) q.1 = some w' ∧ x_g th v q.2 w' := by
  intro q hq
  unfold x_lput at hq
  rcases List.mem_cons.mp hq with rfl | hq
  · exact ⟨w, x_get_self, ha⟩
  · obtain ⟨h1, h2⟩ := List.mem_filter.mp hq
    obtain ⟨w0, h3, h4⟩ := hlo q h1
    simp only [Bool.and_eq_true, Bool.not_eq_true', beq_eq_false_iff_ne, Bool.and_eq_false_iff] at h2
    refine ⟨w0, x_get_put h3 h2.1 (fun z => ?_), h4⟩
    rcases h2.2 with h5 | h5
    · exact h5 z.1
    · have := x_g_cat h4 h5
      omega
theorem x_gs_cons {a : xV} {as : List xV} (h : x_gs th v (a :: as) ws) : ∃ w r, ws = w :: r ∧ x_g th v a w ∧ x_gs th v as r := by
  cases ws with
  | nil => exact h.elim
  | cons w r => exact ⟨w, r, rfl, h.1, h.2⟩
theorem x_g0 {l : xL} {w : Value} (h : x_g th v (0, l) w) : ∃ x : Int32, w = .int x ∧ x.toInt = xl_ev l v := h
theorem x_rng_ok (hB : x_Bd v) (hC : x_Cs cs v) {l : xL} (h : x_rng cs l = true) : -2 ^ 31 ≤ xl_ev l v ∧ xl_ev l v < 2 ^ 31 := by
  unfold x_rng at h
  rw [Bool.and_eq_true] at h
  have h1 := x_ent_ok hB hC h.1
  have h2 := x_ent_ok hB hC h.2
  rw [xl_add_ev, xl_c_ev] at h1
  rw [xl_sub_ev, xl_c_ev] at h2
  omega
theorem x_i32 (x : Int32) : -2147483648 ≤ x.toInt ∧ x.toInt ≤ 2147483647 := by
  have h1 := x.le_toInt
  have h2 := x.toInt_lt
  omega
/-- one state of many that holds, behind a step -/
def x_Go (tb : Nat → xT) (th : List Nat) (E : List (Nat × Nat × Nat)) (m0 own nL : Nat) (ini : Bool) (xs : Nat → Int32) (L J : Nat) (i : Instr) (pc : Nat) (v : Nat → Int) (lv : pL) (ws : List Value) (G : List pE) (out : List (Nat × xG)) : Prop :=
  ∃ q ∈ out, ∃ v' lv' ws' G', x_ag m0 v v' ∧ pm_step own nL ini xs L J i pc lv ws G = some (q.1, lv', ws', G', 0, 0) ∧ x_S tb th v' q.2 lv' ws' G' ∧ x_eff th E G G'
theorem x_hv_ok {m0 pc' : Nat} {full st' : List xV} {k : xL → List xL} {out : List (Nat × xG)} {n0 : Nat} {rest : List Value} (hS : x_S tb th v (cs, lo, full, fa, n0) lv ws G) (h : x_hv m0 pc' cs lo full st' fa nx k = some out) (x : Int32) (hk : ∀ v', x_S tb th v' (cs, lo, full, fa, n0) lv ws G → v' nx = x.toInt → x_Cs (k (xl_s nx)) v' ∧ x_gs th v' st' rest) : ∃ q ∈ out, ∃ v', x_ag m0 v v' ∧ q.1 = pc' ∧ x_S tb th v' q.2 lv (.int x :: rest) G := by
  unfold x_hv at h
  split at h
  · rename_i hh
    cases h
    obtain ⟨b1, b2⟩ := x_i32 x
    have hS' := x_S_up (i := nx) (x := x.toInt) hS hh.2 b1 b2
    obtain ⟨k1, k2⟩ := hk _ hS' (by simp [x_up])
    obtain ⟨a1, a2, a3, a4, a5, a6⟩ := hS'
    refine ⟨_, List.mem_singleton.mpr rfl, _, x_ag.up hh.1, rfl, a1, fun c hc => ?_, a3, ⟨⟨x, rfl, ?_⟩, k2⟩, a5, a6⟩
    · rcases List.mem_append.mp hc with h | h
      · exact k1 c h
      · exact a2 c h
    · rw [xl_s_ev]
      simp [x_up]
  · cases h
theorem x_psh {a : xV} {w : Value} {st' : List xV} {rest : List Value} {n1 : Nat} (hS : x_S tb th v (cs, lo, st, fa, nx) lv ws G) (ha : x_g th v a w) (hr : x_gs th v st' rest) : x_S tb th v (cs, lo, a :: st', fa, n1) lv (w :: rest) G := ⟨hS.1, hS.2.1, hS.2.2.1, ⟨ha, hr⟩, hS.2.2.2.2.1, hS.2.2.2.2.2⟩
-- conditions
theorem x_cnd_ok {c : ClassFile.Cond} {l : xL} {x y : Int32} (hl : xl_ev l v = x.toInt - y.toInt) (h : pm_holds c x y = true) : ∃ d ∈ x_cnd c l, x_Cs d v := by
  have e1 : ∀ a b : xL, 0 ≤ xl_ev a v → 0 ≤ xl_ev b v → x_Cs [a, b] v := fun a b h1 h2 z hz => by
    rcases List.mem_cons.mp hz with rfl | hz
    · exact h1
    · rw [List.mem_singleton.mp hz]; exact h2
  have e2 : ∀ a : xL, 0 ≤ xl_ev a v → x_Cs [a] v := fun a h1 z hz => by rw [List.mem_singleton.mp hz]; exact h1
  cases c <;> simp only [pm_holds, decide_eq_true_eq] at h
  · subst h
    exact ⟨_, List.mem_singleton.mpr rfl, e1 _ _ (by omega) (by rw [xl_mul_ev]; omega)⟩
  · have hne : x.toInt ≠ y.toInt := fun z => h (Int32.toInt_inj.mp z)
    rcases Int.lt_or_gt_of_ne hne with hh | hh
    · exact ⟨_, List.mem_cons_of_mem _ List.mem_cons_self, e2 _ (by rw [xl_add_ev, xl_mul_ev, xl_c_ev]; omega)⟩
    · exact ⟨_, List.mem_cons_self, e2 _ (by rw [xl_add_ev, xl_c_ev]; omega)⟩
  · rw [Int32.lt_iff_toInt_lt] at h
    exact ⟨_, List.mem_singleton.mpr rfl, e2 _ (by rw [xl_add_ev, xl_mul_ev, xl_c_ev]; omega)⟩
  · rw [Int32.le_iff_toInt_le] at h
    exact ⟨_, List.mem_singleton.mpr rfl, e2 _ (by omega)⟩
  · rw [Int32.lt_iff_toInt_lt] at h
    exact ⟨_, List.mem_singleton.mpr rfl, e2 _ (by rw [xl_add_ev, xl_c_ev]; omega)⟩
  · rw [Int32.le_iff_toInt_le] at h
    exact ⟨_, List.mem_singleton.mpr rfl, e2 _ (by rw [xl_mul_ev]; omega)⟩
theorem x_neg_holds {c : ClassFile.Cond} {x y : Int32} (h : ¬ pm_holds c x y = true) : pm_holds (x_neg c) x y = true := by
  have ht : ∀ a b : Int32, ¬ a < b → b ≤ a := fun a b h => by rw [Int32.lt_iff_toInt_lt] at h; rw [Int32.le_iff_toInt_le]; omega
  have hu : ∀ a b : Int32, ¬ a ≤ b → b < a := fun a b h => by rw [Int32.le_iff_toInt_le] at h; rw [Int32.lt_iff_toInt_lt]; omega
  cases c <;> simp only [pm_holds, x_neg, decide_eq_true_eq] at h ⊢
  · exact h
  · exact Decidable.not_not.mp h
  · exact ht _ _ h
  · exact hu _ _ h
  · exact ht _ _ h
  · exact hu _ _ h
theorem x_inf_ok (hB : x_Bd v) (hC : x_Cs cs v) {d : List xL} (hd : x_Cs d v) : x_inf cs d = false := by
  cases h : x_inf cs d with
  | false => rfl
  | true =>
    unfold x_inf at h
    obtain ⟨e, he, h1⟩ := List.any_eq_true.mp h
    have h2 := x_ent_ok hB hC h1
    have h3 := hd e he
    rw [xl_add_ev, xl_mul_ev, xl_c_ev] at h2
    omega
theorem x_brs_ok {pc n0 : Nat} {ds : List (List xL)} {d : List xL} (hS : x_S tb th v (cs, lo, st, fa, n0) lv ws G) (hd : d ∈ ds) (hv : x_Cs d v) : ∃ q ∈ x_brs pc cs lo st fa nx ds, q.1 = pc ∧ x_S tb th v q.2 lv ws G := by
  refine ⟨(pc, (d ++ cs, lo, st, fa, nx)), List.mem_map.mpr ⟨d, List.mem_filter.mpr ⟨hd, ?_⟩, rfl⟩, rfl, hS.1, ?_, hS.2.2.1, hS.2.2.2.1, hS.2.2.2.2.1, hS.2.2.2.2.2⟩
  · rw [x_inf_ok hS.1 hS.2.1 hv]
    rfl
  · intro c hc
    rcases List.mem_append.mp hc with h | h
    · exact hv c h
    · exact hS.2.1 c h
theorem x_br_ok {c : ClassFile.Cond} {l : xL} {pc : Nat} {off : Int} {out : List (Nat × xG)} {x y : Int32} {n0 : Nat} (hS : x_S tb th v (cs, lo, st, fa, n0) lv ws G) (hl : xl_ev l v = x.toInt - y.toInt) (h : x_br c l pc off cs lo st fa nx = some out) : ∃ q ∈ out, x_S tb th v q.2 lv ws G ∧ pm_if (pm_holds c x y) pc off lv ws G = some (q.1, lv, ws, G, 0, 0) := by
  unfold x_br at h
  split at h
  · cases h
  · rename_i t ht
    cases h
    unfold pm_if
    rw [ht]
    by_cases hh : pm_holds c x y = true
    · obtain ⟨d, hd, hv⟩ := x_cnd_ok hl hh
      obtain ⟨q, q1, q2, q3⟩ := x_brs_ok (pc := t) (nx := nx) hS hd hv
      refine ⟨q, List.mem_append_left _ q1, q3, ?_⟩
      rw [hh, q2]
      rfl
    · obtain ⟨d, hd, hv⟩ := x_cnd_ok hl (x_neg_holds hh)
      obtain ⟨q, q1, q2, q3⟩ := x_brs_ok (pc := pc + 3) (nx := nx) hS hd hv
      refine ⟨q, List.mem_append_right _ q1, q3, ?_⟩
      have hf : pm_holds c x y = false := by cases h0 : pm_holds c x y <;> first | rfl | exact absurd h0 hh
      rw [hf, q2]
      rfl
-- numbers
theorem x_and_le {x y : Int32} (hy : 0 ≤ y.toInt) : 0 ≤ (x &&& y).toInt ∧ (x &&& y).toInt ≤ y.toInt := by
  have e : ∀ z : Int32, z.toInt = z.toBitVec.toInt := fun _ => rfl
  have hyn : y.toBitVec.toNat < 2 ^ 31 := by
    rw [e, BitVec.toInt_eq_toNat_cond] at hy
    have := y.toBitVec.isLt
    split at hy <;> omega
  have hle : (x &&& y).toBitVec.toNat ≤ y.toBitVec.toNat := by
    show (x.toBitVec &&& y.toBitVec).toNat ≤ _
    rw [BitVec.toNat_and]
    exact Nat.and_le_right
  rw [e, e, BitVec.toInt_eq_toNat_cond, BitVec.toInt_eq_toNat_cond]
  rw [if_pos (by omega), if_pos (by omega)]
  omega
theorem x_and_comm (x y : Int32) : x &&& y = y &&& x := Int32.and_comm x y
theorem x_or255 {x y : Int32} (hx : 0 ≤ x.toInt ∧ x.toInt ≤ 255) (hy : 0 ≤ y.toInt ∧ y.toInt ≤ 255) : 0 ≤ (x ||| y).toInt ∧ (x ||| y).toInt ≤ 255 := by
  have e : ∀ z : Int32, z.toInt = z.toBitVec.toInt := fun _ => rfl
  have hn : ∀ z : Int32, 0 ≤ z.toInt ∧ z.toInt ≤ 255 → z.toBitVec.toNat < 2 ^ 8 := by
    intro z hz
    rw [e, BitVec.toInt_eq_toNat_cond] at hz
    have := z.toBitVec.isLt
    split at hz <;> omega
  have h1 : (x ||| y).toBitVec.toNat < 2 ^ 8 := by
    show (x.toBitVec ||| y.toBitVec).toNat < _
    rw [BitVec.toNat_or]
    exact Nat.or_lt_two_pow (hn x hx) (hn y hy)
  rw [e, BitVec.toInt_eq_toNat_cond, if_pos (by omega)]
  omega
theorem x_i2b_le (x : Int32) : -128 ≤ x.toInt8.toInt32.toInt ∧ x.toInt8.toInt32.toInt ≤ 127 := by
  rw [Int8.toInt_toInt32]
  have h1 := x.toInt8.le_toInt
  have h2 := x.toInt8.toInt_lt
  omega
theorem x_of_nn {x : Int32} (h : 0 ≤ x.toInt) : ∃ n : Nat, n < 2 ^ 31 ∧ x = nI n ∧ x.toInt = n := by
  obtain ⟨n, h1, h2⟩ := nI_of (x := x) (by rw [Int32.lt_iff_toInt_lt]; show ¬ x.toInt < 0; omega)
  exact ⟨n, h1, h2, by rw [h2, nI_toInt h1]⟩
theorem x_rem_le {x y : Int32} (hx : 0 ≤ x.toInt) (hy : 1 ≤ y.toInt) : 0 ≤ (x - x / y * y).toInt ∧ (x - x / y * y).toInt ≤ y.toInt - 1 := by
  obtain ⟨n, n1, n2, n3⟩ := x_of_nn hx
  obtain ⟨k, k1, k2, k3⟩ := x_of_nn (x := y) (by omega)
  have hk : 0 < k := by omega
  rw [n2, k2, pk_rem n1 hk k1, nI_toInt (by have := Nat.mod_lt n hk; omega), nI_toInt k1]
  have := Nat.mod_lt n hk
  omega
end XB
end
section
def x_bfit (c : Nat) (f : xF) : Bool := match c with
  | 1 => decide (f.2.1 ≤ -128 ∧ 127 ≤ f.2.2)
  | _ => decide (f.2.1 ≤ 0 ∧ 1 ≤ f.2.2)
/-- an element at a place that isn't known -/
def x_ald (tb : Nat → xT) (m0 pc' : Nat) (cs : List xL) (lo : List (Nat × xV)) (full st' : List xV) (fa : List xA) (nx : Nat) (t : Nat) (j : xL) : Option (List (Nat × xG)) :=
  if (x_over (x_lb cs j) (x_ub cs j) 0 (tb t).2.2.2).all (fun f => f.1 == 0) = true then x_hv m0 pc' cs lo full st' fa nx (fun s => [xl_add s (xl_c (-(x_min (x_over (x_lb cs j) (x_ub cs j) 0 (tb t).2.2.2)))), xl_sub (xl_c (x_max (x_over (x_lb cs j) (x_ub cs j) 0 (tb t).2.2.2))) s]) else none
-- ===== the abstract step =====
def x_step (tb : Nat → xT) (E : List (Nat × Nat × Nat)) (m0 own nL : Nat) (i : Instr) (pc : Nat) (cs : List xL) (lo : List (Nat × xV)) (st : List xV) (fa : List xA) (nx : Nat) : Option (List (Nat × xG)) := match i with
  | .iconst n => some [(pc + 1, (cs, lo, (0, xl_c (Int32.ofInt n).toInt) :: st, fa, nx))]
  | .bipush n => some [(pc + 2, (cs, lo, (0, xl_c (Int8.ofInt n).toInt32.toInt) :: st, fa, nx))]
  | .sipush n => some [(pc + 3, (cs, lo, (0, xl_c (Int16.ofInt n).toInt32.toInt) :: st, fa, nx))]
  | .lconst _ => some [(pc + 1, (cs, lo, (1, xl_c 0) :: st, fa, nx))]
  | .iload j => match x_lget lo j with
    | some (0, l) => some [(pc + 2, (cs, lo, (0, l) :: st, fa, nx))]
    | _ => none
  | .iload_n j => match x_lget lo (j : Nat) with
    | some (0, l) => some [(pc + 1, (cs, lo, (0, l) :: st, fa, nx))]
    | _ => none
  | .lload j => match x_lget lo j with
    | some (1, l) => some [(pc + 2, (cs, lo, (1, l) :: st, fa, nx))]
    | _ => none
  | .lload_n j => match x_lget lo (j : Nat) with
    | some (1, l) => some [(pc + 1, (cs, lo, (1, l) :: st, fa, nx))]
    | _ => none
  | .aload j => match x_lget lo j with
    | some a => if 3 ≤ a.1 then some [(pc + 2, (cs, lo, a :: st, fa, nx))] else none
    | _ => none
  | .aload_n j => match x_lget lo (j : Nat) with
    | some a => if 3 ≤ a.1 then some [(pc + 1, (cs, lo, a :: st, fa, nx))] else none
    | _ => none
  | .istore j => match st with
    | (0, l) :: r => if j < nL then some [(pc + 2, (cs, x_lput lo j (0, l), r, fa, nx))] else none
    | _ => none
  | .istore_n j => match st with
    | (0, l) :: r => if (j : Nat) < nL then some [(pc + 1, (cs, x_lput lo (j : Nat) (0, l), r, fa, nx))] else none
    | _ => none
  | .astore j => match st with
    | a :: r => if j < nL ∧ 3 ≤ a.1 then some [(pc + 2, (cs, x_lput lo j a, r, fa, nx))] else none
    | _ => none
  | .astore_n j => match st with
    | a :: r => if (j : Nat) < nL ∧ 3 ≤ a.1 then some [(pc + 1, (cs, x_lput lo (j : Nat) a, r, fa, nx))] else none
    | _ => none
  | .iinc j n => match x_lget lo j with
    | some (0, l) => if j < nL then (if x_rng cs (xl_add l (xl_c (Int32.ofInt n).toInt)) then some [(pc + 3, (cs, x_lput lo j (0, xl_add l (xl_c (Int32.ofInt n).toInt)), st, fa, nx))]
      else if m0 ≤ nx ∧ x_noG nx (cs, lo, st, fa, 0) = true then some [(pc + 3, (cs, x_lput lo j (0, xl_s nx), st, fa, nx + 1))] else none) else none
    | _ => none
  | .iadd => match st with
    | (0, y) :: (0, x) :: r => if x_rng cs (xl_add x y) then some [(pc + 1, (cs, lo, (0, xl_add x y) :: r, fa, nx))] else x_hv m0 (pc + 1) cs lo st r fa nx (fun _ => [])
    | _ => none
  | .isub => match st with
    | (0, y) :: (0, x) :: r => if x_rng cs (xl_sub x y) then some [(pc + 1, (cs, lo, (0, xl_sub x y) :: r, fa, nx))] else x_hv m0 (pc + 1) cs lo st r fa nx (fun _ => [])
    | _ => none
  | .imul => match st with
    | (0, y) :: (0, x) :: r => if x.1 = [] ∧ x_rng cs (xl_mul x.2 y) = true then some [(pc + 1, (cs, lo, (0, xl_mul x.2 y) :: r, fa, nx))] else if y.1 = [] ∧ x_rng cs (xl_mul y.2 x) = true then some [(pc + 1, (cs, lo, (0, xl_mul y.2 x) :: r, fa, nx))] else x_hv m0 (pc + 1) cs lo st r fa nx (fun _ => [])
    | _ => none
  | .iand => match st with
    | (0, y) :: (0, x) :: r => if x_ent cs y then x_hv m0 (pc + 1) cs lo st r fa nx (fun s => [s, xl_sub y s]) else if x_ent cs x then x_hv m0 (pc + 1) cs lo st r fa nx (fun s => [s, xl_sub x s]) else x_hv m0 (pc + 1) cs lo st r fa nx (fun _ => [])
    | _ => none
  | .ior => match st with
    | (0, y) :: (0, x) :: r => if x_ent cs y && x_ent cs x && x_ent cs (xl_sub (xl_c 255) y) && x_ent cs (xl_sub (xl_c 255) x) then x_hv m0 (pc + 1) cs lo st r fa nx (fun s => [s, xl_sub (xl_c 255) s]) else x_hv m0 (pc + 1) cs lo st r fa nx (fun _ => [])
    | _ => none
  | .ixor => match st with
    | (0, _) :: (0, _) :: r => x_hv m0 (pc + 1) cs lo st r fa nx (fun _ => [])
    | _ => none
  | .idiv => match st with
    | (0, y) :: (0, _) :: r => if x_ent cs (xl_add y (xl_c (-1))) then x_hv m0 (pc + 1) cs lo st r fa nx (fun _ => []) else none
    | _ => none
  | .irem => match st with
    | (0, y) :: (0, x) :: r => if x_ent cs (xl_add y (xl_c (-1))) then (if x_ent cs x then x_hv m0 (pc + 1) cs lo st r fa nx (fun s => [s, xl_sub (xl_add y (xl_c (-1))) s]) else x_hv m0 (pc + 1) cs lo st r fa nx (fun _ => [])) else none
    | _ => none
  | .ishl => match st with
    | (0, y) :: (0, x) :: r => if x = xl_c 1 ∧ x_ent cs y = true ∧ x_ent cs (xl_sub (xl_c 7) y) = true then x_hv m0 (pc + 1) cs lo st r fa nx (fun s => [xl_add s (xl_c (-1)), xl_sub (xl_c 128) s]) else x_hv m0 (pc + 1) cs lo st r fa nx (fun _ => [])
    | _ => none
  | .ishr => match st with
    | (0, _) :: (0, _) :: r => x_hv m0 (pc + 1) cs lo st r fa nx (fun _ => [])
    | _ => none
  | .iushr => match st with
    | (0, y) :: (0, _) :: r => if y = xl_c 8 then x_hv m0 (pc + 1) cs lo st r fa nx (fun s => [s]) else x_hv m0 (pc + 1) cs lo st r fa nx (fun _ => [])
    | _ => none
  | .i2l => match st with
    | (0, _) :: r => some [(pc + 1, (cs, lo, (1, xl_c 0) :: r, fa, nx))]
    | _ => none
  | .i2b => match st with
    | (0, _) :: r => x_hv m0 (pc + 1) cs lo st r fa nx (fun s => [xl_add s (xl_c 128), xl_sub (xl_c 127) s])
    | _ => none
  | .ladd => match st with
    | (1, _) :: (1, _) :: r => some [(pc + 1, (cs, lo, (1, xl_c 0) :: r, fa, nx))]
    | _ => none
  | .lmul => match st with
    | (1, _) :: (1, _) :: r => some [(pc + 1, (cs, lo, (1, xl_c 0) :: r, fa, nx))]
    | _ => none
  | .lor => match st with
    | (1, _) :: (1, _) :: r => some [(pc + 1, (cs, lo, (1, xl_c 0) :: r, fa, nx))]
    | _ => none
  | .lshl => match st with
    | (0, _) :: (1, _) :: r => some [(pc + 1, (cs, lo, (1, xl_c 0) :: r, fa, nx))]
    | _ => none
  | .lcmp => match st with
    | (1, _) :: (1, _) :: r => x_hv m0 (pc + 1) cs lo st r fa nx (fun _ => [])
    | _ => none
  | .dup => match st with
    | a :: r => if a.1 = 1 then none else some [(pc + 1, (cs, lo, a :: a :: r, fa, nx))]
    | _ => none
  | .pop => match st with
    | a :: r => if a.1 = 1 then none else some [(pc + 1, (cs, lo, r, fa, nx))]
    | _ => none
  | .dup2 => match st with
    | a :: b :: r => if a.1 = 1 ∨ b.1 = 1 then none else some [(pc + 1, (cs, lo, a :: b :: a :: b :: r, fa, nx))]
    | _ => none
  | .ifCond c k => match st with
    | (0, l) :: r => x_br c l pc k cs lo r fa nx
    | _ => none
  | .if_icmp c k => match st with
    | (0, y) :: (0, x) :: r => x_br c (xl_sub x y) pc k cs lo r fa nx
    | _ => none
  | .if_acmp _ k => match st with
    | a :: b :: r => if (a.1 = 3 ∧ b.1 = 3) ∨ (a.1 = 3 ∧ b.1 = 4) ∨ (a.1 = 4 ∧ b.1 = 3) then (match pm_tgt pc k with
      | some t => some [(t, (cs, lo, r, fa, nx)), (pc + 3, (cs, lo, r, fa, nx))]
      | none => none) else none
    | _ => none
  | .goto k => match pm_tgt pc k with
    | some t => some [(t, (cs, lo, st, fa, nx))]
    | none => none
  | .tableswitch d lw hi offs => match st with
    | (0, l) :: r => (match pm_tgt pc d, x_tab pc l cs lo r fa nx lw offs.toList with
      | some t, some q => if hi = lw + offs.toList.length - 1 then some (x_brs t cs lo r fa nx (x_cnd .lt (xl_add l (xl_c (-lw)))) ++ (x_brs t cs lo r fa nx (x_cnd .gt (xl_add l (xl_c (-hi)))) ++ q)) else none
      | _, _ => none)
    | _ => none
  | .lookupswitch d ps => match st with
    | (0, l) :: r => (match pm_tgt pc d, x_lkt pc l cs lo r fa nx ps.toList with
      | some t, some q => if (ps.toList.zip (ps.toList.drop 1)).all (fun (a, next) => a.1 < next.1) = true then some ((t, (cs, lo, r, fa, nx)) :: q) else none
      | _, _ => none)
    | _ => none
  | .ldc k => match pm_ktab.find? (fun r => r.1 == own && r.2.1 == k) with
    | some r => some [(pc + 2, (cs, lo, (0, xl_c r.2.2.1.toInt) :: st, fa, nx))]
    | none => none
  | .ldc_w k => match pm_ktab.find? (fun r => r.1 == own && r.2.1 == k) with
    | some r => some [(pc + 3, (cs, lo, (0, xl_c r.2.2.1.toInt) :: st, fa, nx))]
    | none => none
  | .ldc2_w k => match pm_ltab.find? (fun r => r.1 == own && r.2.1 == k) with
    | some _ => some [(pc + 3, (cs, lo, (1, xl_c 0) :: st, fa, nx))]
    | none => none
  | .getstatic k => match pm_stab.find? (fun r => r.1 == own && r.2.1 == k) with
    | some r => some [(pc + 3, (cs, lo, (if r.2.2.1 < 35 then 3 else 5, xl_c 0) :: st, fa, nx))]
    | none => none
  | .getfield k => match st with
    | a :: r => if a.1 = 3 then (if own = 2 ∧ k = 79 then some [(pc + 3, (cs, lo, (1, xl_c 0) :: r, fa, nx))] else none)
      else if 10 ≤ a.1 then (match pm_ftab.find? (fun r => r.1 == own && r.2.1 == k) with
        | some q => if (tb (a.1 - 10)).1 = 0 ∧ (tb (a.1 - 10)).2.1 = q.2.2.1 then x_rd tb m0 (pc + 3) cs lo st r fa nx (a.1 - 10) a.2 q.2.2.2.1 else none
        | none => none) else none
    | _ => none
  | .putfield k => match st with
    | a :: b :: r => if 10 ≤ b.1 then (match pm_ftab.find? (fun r => r.1 == own && r.2.1 == k) with
        | some q => (match x_at (tb (b.1 - 10)).2.2.2 q.2.2.2.1 with
          | some f => if (tb (b.1 - 10)).1 = 0 ∧ (tb (b.1 - 10)).2.1 = q.2.2.1 ∧ q.2.2.2.1 < (tb (b.1 - 10)).2.2.1 ∧ pm_fin q.2.2.1 q.2.2.2.1 = false ∧ x_jty (pm_ty q.2.2.1 q.2.2.2.1) f = true ∧ x_fit cs f a = true ∧ x_cov E (b.1 - 10) q.2.2.2.1 q.2.2.2.1 = true then some [(pc + 3, (cs, lo, r, (b.1 - 10, b.2, q.2.2.2.1, a) :: x_kill fa (b.1 - 10) q.2.2.2.1 q.2.2.2.1, nx))] else none
          | none => none)
        | none => none) else none
    | _ => none
  | .iaload => match st with
    | (0, j) :: b :: r => if 10 ≤ b.1 ∧ (tb (b.1 - 10)).1 = 1 ∧ (tb (b.1 - 10)).2.1 = 0 ∧ x_idx cs j (tb (b.1 - 10)).2.2.1 = true then (if j.1 = [] then x_rd tb m0 (pc + 1) cs lo st r fa nx (b.1 - 10) b.2 j.2.toNat else x_ald tb m0 (pc + 1) cs lo st r fa nx (b.1 - 10) j) else none
    | _ => none
  | .baload => match st with
    | (0, j) :: b :: r => if 10 ≤ b.1 ∧ (tb (b.1 - 10)).1 = 1 ∧ ((tb (b.1 - 10)).2.1 = 1 ∨ (tb (b.1 - 10)).2.1 = 2) ∧ x_idx cs j (tb (b.1 - 10)).2.2.1 = true then x_ald tb m0 (pc + 1) cs lo st r fa nx (b.1 - 10) j else none
    | _ => none
  | .laload => match st with
    | (0, j) :: b :: r => if 10 ≤ b.1 ∧ (tb (b.1 - 10)).1 = 1 ∧ (tb (b.1 - 10)).2.1 = 3 ∧ x_idx cs j (tb (b.1 - 10)).2.2.1 = true then some [(pc + 1, (cs, lo, (1, xl_c 0) :: r, fa, nx))] else none
    | _ => none
  | .aaload => match st with
    | (0, j) :: b :: r => if b.1 = 5 then (if x_idx cs j 35 then some [(pc + 1, (cs, lo, (3, xl_c 0) :: r, fa, nx))] else none)
      else if 10 ≤ b.1 ∧ (tb (b.1 - 10)).1 = 1 ∧ 4 ≤ (tb (b.1 - 10)).2.1 ∧ x_idx cs j (tb (b.1 - 10)).2.2.1 = true then (match x_one (tb (b.1 - 10)).2.2.2 with
        | some f => if f.1 = 3 ∨ f.1 = 4 then some [(pc + 1, (cs, lo, (f.1, xl_c 0) :: r, fa, nx))] else if 10 ≤ f.1 ∧ m0 ≤ nx ∧ x_noG nx (cs, lo, st, fa, 0) = true then some [(pc + 1, (cs, lo, (f.1, xl_s nx) :: r, fa, nx + 1))] else none
        | none => none) else none
    | _ => none
  | .iastore => match st with
    | (0, x) :: (0, j) :: b :: r => if 10 ≤ b.1 ∧ (tb (b.1 - 10)).1 = 1 ∧ (tb (b.1 - 10)).2.1 = 0 ∧ x_idx cs j (tb (b.1 - 10)).2.2.1 = true ∧ (x_over (x_lb cs j) (x_ub cs j) 0 (tb (b.1 - 10)).2.2.2).all (fun f => f.1 == 0 && x_fit cs f (0, x)) = true ∧ x_cov E (b.1 - 10) (x_lb cs j).toNat (x_ub cs j).toNat = true then
        some [(pc + 1, (cs, lo, r, (if j.1 = [] then [(b.1 - 10, b.2, j.2.toNat, (0, x))] else []) ++ x_kill fa (b.1 - 10) (x_lb cs j).toNat (x_ub cs j).toNat, nx))] else none
    | _ => none
  | .bastore => match st with
    | (0, _) :: (0, j) :: b :: r => if 10 ≤ b.1 ∧ (tb (b.1 - 10)).1 = 1 ∧ ((tb (b.1 - 10)).2.1 = 1 ∨ (tb (b.1 - 10)).2.1 = 2) ∧ x_idx cs j (tb (b.1 - 10)).2.2.1 = true ∧ (x_over (x_lb cs j) (x_ub cs j) 0 (tb (b.1 - 10)).2.2.2).all (fun f => f.1 == 0 && x_bfit (tb (b.1 - 10)).2.1 f) = true ∧ x_cov E (b.1 - 10) (x_lb cs j).toNat (x_ub cs j).toNat = true then
        some [(pc + 1, (cs, lo, r, x_kill fa (b.1 - 10) (x_lb cs j).toNat (x_ub cs j).toNat, nx))] else none
    | _ => none
  | .lastore => match st with
    | (1, _) :: (0, j) :: b :: r => if 10 ≤ b.1 ∧ (tb (b.1 - 10)).1 = 1 ∧ (tb (b.1 - 10)).2.1 = 3 ∧ x_idx cs j (tb (b.1 - 10)).2.2.1 = true ∧ (x_over (x_lb cs j) (x_ub cs j) 0 (tb (b.1 - 10)).2.2.2).all (fun f => f.1 == 1) = true ∧ x_cov E (b.1 - 10) (x_lb cs j).toNat (x_ub cs j).toNat = true then
        some [(pc + 1, (cs, lo, r, x_kill fa (b.1 - 10) (x_lb cs j).toNat (x_ub cs j).toNat, nx))] else none
    | _ => none
  | .aastore => match st with
    | a :: (0, j) :: b :: r => if 10 ≤ b.1 ∧ (tb (b.1 - 10)).1 = 1 ∧ 4 ≤ (tb (b.1 - 10)).2.1 ∧ x_idx cs j (tb (b.1 - 10)).2.2.1 = true ∧ (x_over (x_lb cs j) (x_ub cs j) 0 (tb (b.1 - 10)).2.2.2).all (fun f => (f.1 == 3 || f.1 == 4 || decide (10 ≤ f.1)) && x_fit cs f a) = true ∧ x_cov E (b.1 - 10) (x_lb cs j).toNat (x_ub cs j).toNat = true ∧ ((a.1 = 3 ∧ (tb (b.1 - 10)).2.1 = 4) ∨ (a.1 = 4 ∧ (tb (b.1 - 10)).2.1 = 4) ∨ (10 ≤ a.1 ∧ (tb (a.1 - 10)).1 = 0 ∧ (tb (a.1 - 10)).2.1 < 11 ∧ pm_cn (tb (a.1 - 10)).2.1 = pm_arrC (tb (b.1 - 10)).2.1)) then
        some [(pc + 1, (cs, lo, r, x_kill fa (b.1 - 10) (x_lb cs j).toNat (x_ub cs j).toNat, nx))] else none
    | _ => none
  | .arraylength => match st with
    | b :: r => if b.1 = 5 then some [(pc + 1, (cs, lo, (0, xl_c 35) :: r, fa, nx))] else if 10 ≤ b.1 ∧ (tb (b.1 - 10)).1 = 1 ∧ (tb (b.1 - 10)).2.2.1 < 100000 then some [(pc + 1, (cs, lo, (0, xl_c (tb (b.1 - 10)).2.2.1) :: r, fa, nx))] else none
    | _ => none
  | _ => none
end
section
-- ===== reading and writing slots, abstractly =====
def x_wf (tb : Nat → xT) : Prop := ∀ t i, i < (tb t).2.2.1 → ∃ f, x_at (tb t).2.2.2 i = some f
section XC
variable {tb : Nat → xT} {th : List Nat} {v : Nat → Int} {cs : List xL} {lo : List (Nat × xV)} {st : List xV} {fa : List xA} {nx : Nat} {lv : pL} {ws : List Value} {G G' : List pE}
theorem x_g_ref {a : xV} {w : Value} (h : x_g th v a w) (ha : 3 ≤ a.1) : (∃ k : Nat, w = .ref k) ∨ w = .null := by
  unfold x_g at h
  split at h
  · rename_i h1; omega
  · rename_i h1; omega
  · obtain ⟨k, rfl, -⟩ := h; exact Or.inl ⟨k, rfl⟩
  · rcases h with rfl | ⟨k, rfl, -⟩
    · exact Or.inr rfl
    · exact Or.inl ⟨k, rfl⟩
  · exact Or.inl ⟨_, h⟩
  · exact Or.inl ⟨_, h⟩
  · obtain ⟨k, rfl, -⟩ := h; exact Or.inl ⟨k, rfl⟩
  · exact h.elim
theorem x_g_cell {a : xV} {w : Value} (h : x_g th v a w) (ha : 10 ≤ a.1) : ∃ b : Nat, w = .ref b ∧ (b : Int) = xl_ev a.2 v ∧ th[b]? = some (a.1 - 10) := by
  unfold x_g at h
  split at h <;> try (rename_i h1; omega)
  · rename_i t h1
    obtain ⟨b, h2, h3, h4⟩ := h
    refine ⟨b, h2, h3, ?_⟩
    rw [show a.1 - 10 = t by omega]
    exact h4
  · exact h.elim
theorem x_g_of_cell {t b : Nat} {l : xL} (h1 : (b : Int) = xl_ev l v) (h2 : th[b]? = some t) : x_g th v (t + 10, l) (.ref b) := ⟨b, rfl, h1, h2⟩
theorem xI.cell (hI : xI tb th G) {b t : Nat} (hb : th[b]? = some t) : b < pm_TB ∧ pm_isTok b = false ∧ b ≠ pm_SB ∧ b ≠ pm_KB := by
  have h1 := (List.getElem?_eq_some_iff.mp hb).1
  have h2 := hI.2.1
  have h3 : b < pm_TB := by omega
  refine ⟨h3, ?_, ?_, ?_⟩
  · unfold pm_isTok
    rw [decide_eq_false (by omega)]
    rfl
  · unfold pm_TB at h3; unfold pm_SB; omega
  · unfold pm_TB at h3; unfold pm_KB; omega
theorem x_fit_ok (hB : x_Bd v) (hC : x_Cs cs v) {f : xF} {a : xV} {w : Value} (h : x_fit cs f a = true) (hw : x_g th v a w) : xf_ok th f w := by
  obtain ⟨ak, al⟩ := a
  unfold x_fit at h
  unfold xf_ok
  split at h
  · rename_i hf
    simp only [Bool.and_eq_true, beq_iff_eq] at h
    obtain ⟨⟨rfl, h2⟩, h3⟩ := h
    obtain ⟨x, rfl, hx⟩ := x_g0 hw
    have h2 := x_ent_ok hB hC h2
    have h3 := x_ent_ok hB hC h3
    rw [xl_add_ev, xl_c_ev] at h2
    rw [xl_sub_ev, xl_c_ev] at h3
    rw [hf]
    exact ⟨x, rfl, by omega, by omega⟩
  · rename_i hf
    obtain rfl : ak = 1 := by simpa using h
    rw [hf]
    exact hw
  · rename_i hf
    obtain rfl : ak = 3 := by simpa using h
    rw [hf]
    exact hw
  · rename_i hf
    simp only [Bool.or_eq_true, beq_iff_eq] at h
    rw [hf]
    rcases h with rfl | rfl
    · exact Or.inr hw
    · exact hw
  · rename_i t hf
    obtain rfl : ak = t + 10 := by simpa using h
    rw [hf]
    obtain ⟨b, h1, -, h2⟩ := hw
    exact ⟨b, h1, h2⟩
  · cases h
theorem x_jty_ok {ty : FieldType} {f : xF} {w : Value} (h : x_jty ty f = true) (hw : xf_ok th f w) : narrow ty w = w ∧ fits ty w = true := by
  unfold x_jty at h
  unfold xf_ok at hw
  split at h
  · have h0 : f.1 = 0 := by simpa using h
    rw [h0] at hw
    obtain ⟨x, rfl, -⟩ := hw
    exact ⟨rfl, rfl⟩
  · simp only [Bool.and_eq_true, beq_iff_eq, decide_eq_true_eq] at h
    rw [h.1.1] at hw
    obtain ⟨x, rfl, h1, h2⟩ := hw
    have : x.toInt = 0 ∨ x.toInt = 1 := by omega
    rcases this with h3 | h3
    · obtain rfl : x = 0 := Int32.toInt_inj.mp h3
      exact ⟨by decide, by decide⟩
    · obtain rfl : x = 1 := Int32.toInt_inj.mp h3
      exact ⟨by decide, by decide⟩
  · have h0 : f.1 = 1 := by simpa using h
    rw [h0] at hw
    obtain ⟨x, rfl⟩ := hw
    exact ⟨rfl, rfl⟩
  · simp only [Bool.or_eq_true, beq_iff_eq, decide_eq_true_eq] at h
    rcases h with (h0 | h0) | h0
    · rw [h0] at hw
      obtain ⟨k, rfl, -⟩ := hw
      exact ⟨rfl, rfl⟩
    · rw [h0] at hw
      rcases hw with rfl | ⟨k, rfl, -⟩
      · exact ⟨rfl, rfl⟩
      · exact ⟨rfl, rfl⟩
    · obtain ⟨t, ht⟩ : ∃ t, f.1 = t + 10 := ⟨f.1 - 10, by omega⟩
      rw [ht] at hw
      obtain ⟨k, rfl, -⟩ := hw
      exact ⟨rfl, rfl⟩
  · have h0 : 10 ≤ f.1 := by simpa using h
    obtain ⟨t, ht⟩ : ∃ t, f.1 = t + 10 := ⟨f.1 - 10, by omega⟩
    rw [ht] at hw
    obtain ⟨k, rfl, -⟩ := hw
    exact ⟨rfl, rfl⟩
  · cases h
theorem x_cov_ok {E : List (Nat × Nat × Nat)} {t l h : Nat} (hc : x_cov E t l h = true) : ∃ q ∈ E, q.1 = t ∧ q.2.1 ≤ l ∧ h ≤ q.2.2 := by
  unfold x_cov at hc
  obtain ⟨q, h1, h2⟩ := List.any_eq_true.mp hc
  simp only [Bool.and_eq_true, decide_eq_true_eq] at h2
  exact ⟨q, h1, h2.1.1, h2.1.2, h2.2⟩
theorem x_kill_ok {b i t l h : Nat} {w : Value} (hu : x_upd G G' b i w) (hb : th[b]? = some t) (h1 : l ≤ i) (h2 : i ≤ h) (hfa : ∀ q ∈ fa, x_fact th v G q) : ∀ q ∈ x_kill fa t l h, x_fact th v G' q := by
  intro q hq
  unfold x_kill at hq
  obtain ⟨g1, g2⟩ := List.mem_filter.mp hq
  obtain ⟨a, f1, f2, w', f3, f4⟩ := hfa q g1
  refine ⟨a, f1, f2, w', ?_, f4⟩
  rw [hu.2.1 a q.2.2.1]
  rw [if_neg]
  · exact f3
  · rintro ⟨rfl, hi⟩
    rw [f2] at hb
    have ht : q.1 = t := Option.some.inj hb
    rw [ht, hi] at g2
    simp [h1, h2] at g2
/-- a slot is read -/
theorem x_rd_ok {m0 pc' t b i n0 : Nat} {full st' : List xV} {cl : xL} {out : List (Nat × xG)} {rest : List Value} {w : Value} (hS : x_S tb th v (cs, lo, full, fa, n0) lv ws G) (h : x_rd tb m0 pc' cs lo full st' fa nx t cl i = some out) (hb : (b : Int) = xl_ev cl v) (ht : th[b]? = some t) (hw : x_sl G b i = some w) (hcl : ∃ a ∈ full, a.2 = cl) (hk : ∀ v', x_S tb th v' (cs, lo, full, fa, n0) lv ws G → x_gs th v' st' rest) : ∃ q ∈ out, ∃ v', x_ag m0 v v' ∧ q.1 = pc' ∧ x_S tb th v' q.2 lv (w :: rest) G := by
  have hcx : ∀ y : Int, x_noG nx (cs, lo, full, fa, 0) = true → xl_ev cl (x_up v nx y) = xl_ev cl v := by
    intro y hn
    unfold x_noG at hn
    simp only [Bool.and_eq_true, List.all_eq_true] at hn
    obtain ⟨a, ha, rfl⟩ := hcl
    exact xl_no_ev v y (hn.1.2 a ha)
  unfold x_rd at h
  split at h
  · rename_i q hf
    cases h
    have h1 := List.find?_some hf
    simp only [Bool.and_eq_true, beq_iff_eq, decide_eq_true_eq] at h1
    obtain ⟨a, f1, f2, w', f3, f4⟩ := hS.2.2.2.2.1 q (List.mem_of_find?_eq_some hf)
    rw [h1.2, ← hb] at f1
    have hab : a = b := by omega
    rw [hab, h1.1.2, hw] at f3
    cases f3
    exact ⟨_, List.mem_singleton.mpr rfl, v, x_ag.rf, rfl, x_psh hS f4 (hk v hS)⟩
  · split at h
    · rename_i f hf
      obtain ⟨w', g1, g2⟩ := (hS.2.2.2.2.2.2.2 b t ht).2 i f hf
      rw [hw] at g1
      cases g1
      unfold x_rdt at h
      unfold xf_ok at g2
      split at h
      · rename_i h0
        rw [h0] at g2
        obtain ⟨x, rfl, b1, b2⟩ := g2
        split at h
        · rename_i hh
          cases h
          obtain ⟨c1, c2⟩ := x_i32 x
          have hS' := x_S_up (i := nx) (x := x.toInt) hS hh.2 c1 c2
          have hkk := hk _ hS'
          obtain ⟨a1, a2, a3, a4, a5, a6⟩ := hS'
          refine ⟨_, List.mem_singleton.mpr rfl, _, x_ag.up hh.1, rfl, a1, fun c hc => ?_, a3, ⟨⟨x, rfl, by rw [xl_s_ev]; simp [x_up]⟩, hkk⟩, fun q hq => ?_, a6⟩
          · rcases List.mem_append.mp hc with h | h
            · rcases List.mem_cons.mp h with rfl | h
              · rw [xl_add_ev, xl_s_ev, xl_c_ev]
                simp only [x_up, if_true]
                omega
              · rw [List.mem_singleton.mp h, xl_sub_ev, xl_s_ev, xl_c_ev]
                simp only [x_up, if_true]
                omega
            · exact a2 c h
          · rcases List.mem_cons.mp hq with rfl | hq
            · exact ⟨b, by rw [hcx _ hh.2]; exact hb, ht, _, hw, ⟨x, rfl, by rw [xl_s_ev]; simp [x_up]⟩⟩
            · exact a5 q hq
        · cases h
      · rename_i h0
        rw [h0] at g2
        cases h
        exact ⟨_, List.mem_singleton.mpr rfl, v, x_ag.rf, rfl, x_psh hS g2 (hk v hS)⟩
      · rename_i h0
        rw [h0] at g2
        cases h
        exact ⟨_, List.mem_singleton.mpr rfl, v, x_ag.rf, rfl, x_psh hS g2 (hk v hS)⟩
      · rename_i h0
        rw [h0] at g2
        cases h
        exact ⟨_, List.mem_singleton.mpr rfl, v, x_ag.rf, rfl, x_psh hS g2 (hk v hS)⟩
      · rename_i u h0
        rw [h0] at g2
        obtain ⟨k, rfl, hu⟩ := g2
        split at h
        · rename_i hh
          cases h
          have hkl := (hS.2.2.2.2.2.cell hu).1
          have hS' := x_S_up (i := nx) (x := (k : Int)) hS hh.2 (by omega) (by unfold pm_TB at hkl; omega)
          have hkk := hk _ hS'
          obtain ⟨a1, a2, a3, a4, a5, a6⟩ := hS'
          refine ⟨_, List.mem_singleton.mpr rfl, _, x_ag.up hh.1, rfl, a1, a2, a3, ⟨x_g_of_cell (by rw [xl_s_ev]; simp [x_up]) hu, hkk⟩, fun q hq => ?_, a6⟩
          rcases List.mem_cons.mp hq with rfl | hq
          · exact ⟨b, by rw [hcx _ hh.2]; exact hb, ht, _, hw, x_g_of_cell (by rw [xl_s_ev]; simp [x_up]) hu⟩
          · exact a5 q hq
        · cases h
      · cases h
    · cases h
end XC
end
section
theorem x_shl1 {y : Int32} (h1 : 0 ≤ y.toInt) (h2 : y.toInt ≤ 7) : 1 ≤ ((1 : Int32) <<< (y &&& 31)).toInt ∧ ((1 : Int32) <<< (y &&& 31)).toInt ≤ 128 := by
  obtain ⟨n, n1, rfl, n3⟩ := x_of_nn h1
  have : n ≤ 7 := by omega
  rcases (show n = 0 ∨ n = 1 ∨ n = 2 ∨ n = 3 ∨ n = 4 ∨ n = 5 ∨ n = 6 ∨ n = 7 by omega) with rfl | rfl | rfl | rfl | rfl | rfl | rfl | rfl <;> decide
theorem x_ushr8 (x : Int32) : 0 ≤ (x.toUInt32 >>> ((8 : Int32).toUInt32 &&& Int32.toUInt32 31)).toInt32.toInt := by
  have e : ∀ z : Int32, z.toInt = z.toBitVec.toInt := fun _ => rfl
  have h := pk_ushr x 8 8 (by decide)
  have hl := x.toBitVec.isLt
  rw [e, BitVec.toInt_eq_toNat_cond, h, if_pos (by omega)]
  omega
-- ===== the abstract step holds: locals, stack, numbers, branches =====
section XD
variable {tb : Nat → xT} {th : List Nat} {E : List (Nat × Nat × Nat)} {m0 own nL pc : Nat} {ini : Bool} {xs : Nat → Int32} {L J : Nat} {v : Nat → Int} {cs : List xL} {lo : List (Nat × xV)} {st : List xV} {fa : List xA} {nx : Nat} {lv : pL} {ws : List Value} {G : List pE} {out : List (Nat × xG)}
set_option maxHeartbeats 1000000 in
theorem xs_iconst {k : Int} (hS : x_S tb th v (cs, lo, st, fa, nx) lv ws G) (h : x_step tb E m0 own nL (.iconst k) pc cs lo st fa nx = some out) : x_Go tb th E m0 own nL ini xs L J (.iconst k) pc v lv ws G out := by
  obtain ⟨hB, hC, hlo, hst, hfa, hI⟩ := id hS
  have hC : x_Cs cs v := hC
  dsimp only [x_step] at h
  cases h
  exact ⟨_, List.mem_singleton.mpr rfl, v, lv, _, G, x_ag.rf, rfl, x_psh hS ⟨_, rfl, by rw [xl_c_ev]⟩ hst, x_eff.rf⟩
set_option maxHeartbeats 1000000 in
theorem xs_bipush {k : Int} (hS : x_S tb th v (cs, lo, st, fa, nx) lv ws G) (h : x_step tb E m0 own nL (.bipush k) pc cs lo st fa nx = some out) : x_Go tb th E m0 own nL ini xs L J (.bipush k) pc v lv ws G out := by
  obtain ⟨hB, hC, hlo, hst, hfa, hI⟩ := id hS
  have hC : x_Cs cs v := hC
  dsimp only [x_step] at h
  cases h
  exact ⟨_, List.mem_singleton.mpr rfl, v, lv, _, G, x_ag.rf, rfl, x_psh hS ⟨_, rfl, by rw [xl_c_ev]⟩ hst, x_eff.rf⟩
set_option maxHeartbeats 1000000 in
theorem xs_sipush {k : Int} (hS : x_S tb th v (cs, lo, st, fa, nx) lv ws G) (h : x_step tb E m0 own nL (.sipush k) pc cs lo st fa nx = some out) : x_Go tb th E m0 own nL ini xs L J (.sipush k) pc v lv ws G out := by
  obtain ⟨hB, hC, hlo, hst, hfa, hI⟩ := id hS
  have hC : x_Cs cs v := hC
  dsimp only [x_step] at h
  cases h
  exact ⟨_, List.mem_singleton.mpr rfl, v, lv, _, G, x_ag.rf, rfl, x_psh hS ⟨_, rfl, by rw [xl_c_ev]⟩ hst, x_eff.rf⟩
set_option maxHeartbeats 1000000 in
theorem xs_lconst {k : Fin 2} (hS : x_S tb th v (cs, lo, st, fa, nx) lv ws G) (h : x_step tb E m0 own nL (.lconst k) pc cs lo st fa nx = some out) : x_Go tb th E m0 own nL ini xs L J (.lconst k) pc v lv ws G out := by
  obtain ⟨hB, hC, hlo, hst, hfa, hI⟩ := id hS
  have hC : x_Cs cs v := hC
  dsimp only [x_step] at h
  cases h
  exact ⟨_, List.mem_singleton.mpr rfl, v, lv, _, G, x_ag.rf, rfl, x_psh hS ⟨_, rfl⟩ hst, x_eff.rf⟩
set_option maxHeartbeats 1000000 in
theorem xs_iload {k : Nat} (hS : x_S tb th v (cs, lo, st, fa, nx) lv ws G) (h : x_step tb E m0 own nL (.iload k) pc cs lo st fa nx = some out) : x_Go tb th E m0 own nL ini xs L J (.iload k) pc v lv ws G out := by
  obtain ⟨hB, hC, hlo, hst, hfa, hI⟩ := id hS
  have hC : x_Cs cs v := hC
  dsimp only [x_step] at h
  split at h
  · rename_i l hg
    cases h
    obtain ⟨w, hw, gw⟩ := x_lget_ok hg hlo
    obtain ⟨x, rfl, ex⟩ := x_g0 gw
    exact ⟨_, List.mem_singleton.mpr rfl, v, lv, _, G, x_ag.rf, by dsimp only [pm_step]; rw [hw], x_psh hS gw hst, x_eff.rf⟩
  · cases h
set_option maxHeartbeats 1000000 in
theorem xs_iload_n {k : Fin 4} (hS : x_S tb th v (cs, lo, st, fa, nx) lv ws G) (h : x_step tb E m0 own nL (.iload_n k) pc cs lo st fa nx = some out) : x_Go tb th E m0 own nL ini xs L J (.iload_n k) pc v lv ws G out := by
  obtain ⟨hB, hC, hlo, hst, hfa, hI⟩ := id hS
  have hC : x_Cs cs v := hC
  dsimp only [x_step] at h
  split at h
  · rename_i l hg
    cases h
    obtain ⟨w, hw, gw⟩ := x_lget_ok hg hlo
    obtain ⟨x, rfl, ex⟩ := x_g0 gw
    exact ⟨_, List.mem_singleton.mpr rfl, v, lv, _, G, x_ag.rf, by dsimp only [pm_step]; rw [hw], x_psh hS gw hst, x_eff.rf⟩
  · cases h
set_option maxHeartbeats 1000000 in
theorem xs_lload {k : Nat} (hS : x_S tb th v (cs, lo, st, fa, nx) lv ws G) (h : x_step tb E m0 own nL (.lload k) pc cs lo st fa nx = some out) : x_Go tb th E m0 own nL ini xs L J (.lload k) pc v lv ws G out := by
  obtain ⟨hB, hC, hlo, hst, hfa, hI⟩ := id hS
  have hC : x_Cs cs v := hC
  dsimp only [x_step] at h
  split at h
  · rename_i l hg
    cases h
    obtain ⟨w, hw, gw⟩ := x_lget_ok hg hlo
    obtain ⟨x, rfl⟩ := gw
    exact ⟨_, List.mem_singleton.mpr rfl, v, lv, _, G, x_ag.rf, by dsimp only [pm_step]; rw [hw], x_psh hS ⟨x, rfl⟩ hst, x_eff.rf⟩
  · cases h
set_option maxHeartbeats 1000000 in
theorem xs_lload_n {k : Fin 4} (hS : x_S tb th v (cs, lo, st, fa, nx) lv ws G) (h : x_step tb E m0 own nL (.lload_n k) pc cs lo st fa nx = some out) : x_Go tb th E m0 own nL ini xs L J (.lload_n k) pc v lv ws G out := by
  obtain ⟨hB, hC, hlo, hst, hfa, hI⟩ := id hS
  have hC : x_Cs cs v := hC
  dsimp only [x_step] at h
  split at h
  · rename_i l hg
    cases h
    obtain ⟨w, hw, gw⟩ := x_lget_ok hg hlo
    obtain ⟨x, rfl⟩ := gw
    exact ⟨_, List.mem_singleton.mpr rfl, v, lv, _, G, x_ag.rf, by dsimp only [pm_step]; rw [hw], x_psh hS ⟨x, rfl⟩ hst, x_eff.rf⟩
  · cases h
set_option maxHeartbeats 1000000 in
theorem xs_aload {k : Nat} (hS : x_S tb th v (cs, lo, st, fa, nx) lv ws G) (h : x_step tb E m0 own nL (.aload k) pc cs lo st fa nx = some out) : x_Go tb th E m0 own nL ini xs L J (.aload k) pc v lv ws G out := by
  obtain ⟨hB, hC, hlo, hst, hfa, hI⟩ := id hS
  have hC : x_Cs cs v := hC
  dsimp only [x_step] at h
  split at h
  · rename_i a hg
    split at h
    · rename_i h3
      cases h
      obtain ⟨w, hw, gw⟩ := x_lget_ok hg hlo
      rcases x_g_ref gw h3 with ⟨b, rfl⟩ | rfl
      · exact ⟨_, List.mem_singleton.mpr rfl, v, lv, _, G, x_ag.rf, by dsimp only [pm_step]; rw [hw], x_psh hS gw hst, x_eff.rf⟩
      · exact ⟨_, List.mem_singleton.mpr rfl, v, lv, _, G, x_ag.rf, by dsimp only [pm_step]; rw [hw], x_psh hS gw hst, x_eff.rf⟩
    · cases h
  · cases h
set_option maxHeartbeats 1000000 in
theorem xs_aload_n {k : Fin 4} (hS : x_S tb th v (cs, lo, st, fa, nx) lv ws G) (h : x_step tb E m0 own nL (.aload_n k) pc cs lo st fa nx = some out) : x_Go tb th E m0 own nL ini xs L J (.aload_n k) pc v lv ws G out := by
  obtain ⟨hB, hC, hlo, hst, hfa, hI⟩ := id hS
  have hC : x_Cs cs v := hC
  dsimp only [x_step] at h
  split at h
  · rename_i a hg
    split at h
    · rename_i h3
      cases h
      obtain ⟨w, hw, gw⟩ := x_lget_ok hg hlo
      rcases x_g_ref gw h3 with ⟨b, rfl⟩ | rfl
      · exact ⟨_, List.mem_singleton.mpr rfl, v, lv, _, G, x_ag.rf, by dsimp only [pm_step]; rw [hw], x_psh hS gw hst, x_eff.rf⟩
      · exact ⟨_, List.mem_singleton.mpr rfl, v, lv, _, G, x_ag.rf, by dsimp only [pm_step]; rw [hw], x_psh hS gw hst, x_eff.rf⟩
    · cases h
  · cases h
set_option maxHeartbeats 1000000 in
theorem xs_istore {k : Nat} (hS : x_S tb th v (cs, lo, st, fa, nx) lv ws G) (h : x_step tb E m0 own nL (.istore k) pc cs lo st fa nx = some out) : x_Go tb th E m0 own nL ini xs L J (.istore k) pc v lv ws G out := by
  obtain ⟨hB, hC, hlo, hst, hfa, hI⟩ := id hS
  have hC : x_Cs cs v := hC
  dsimp only [x_step] at h
  split at h
  · split at h
    · rename_i hk
      cases h
      obtain ⟨w1, r1, rfl, g1, hs1⟩ := x_gs_cons hst
      obtain ⟨x, rfl, ex⟩ := x_g0 g1
      exact ⟨_, List.mem_singleton.mpr rfl, v, _, _, G, x_ag.rf, by dsimp only [pm_step]; rw [if_pos hk], ⟨hB, hC, x_lput_ok hlo g1, hs1, hfa, hI⟩, x_eff.rf⟩
    · cases h
  · cases h
set_option maxHeartbeats 1000000 in
theorem xs_istore_n {k : Fin 4} (hS : x_S tb th v (cs, lo, st, fa, nx) lv ws G) (h : x_step tb E m0 own nL (.istore_n k) pc cs lo st fa nx = some out) : x_Go tb th E m0 own nL ini xs L J (.istore_n k) pc v lv ws G out := by
  obtain ⟨hB, hC, hlo, hst, hfa, hI⟩ := id hS
  have hC : x_Cs cs v := hC
  dsimp only [x_step] at h
  split at h
  · split at h
    · rename_i hk
      cases h
      obtain ⟨w1, r1, rfl, g1, hs1⟩ := x_gs_cons hst
      obtain ⟨x, rfl, ex⟩ := x_g0 g1
      exact ⟨_, List.mem_singleton.mpr rfl, v, _, _, G, x_ag.rf, by dsimp only [pm_step]; rw [if_pos hk], ⟨hB, hC, x_lput_ok hlo g1, hs1, hfa, hI⟩, x_eff.rf⟩
    · cases h
  · cases h
set_option maxHeartbeats 1000000 in
theorem xs_astore {k : Nat} (hS : x_S tb th v (cs, lo, st, fa, nx) lv ws G) (h : x_step tb E m0 own nL (.astore k) pc cs lo st fa nx = some out) : x_Go tb th E m0 own nL ini xs L J (.astore k) pc v lv ws G out := by
  obtain ⟨hB, hC, hlo, hst, hfa, hI⟩ := id hS
  have hC : x_Cs cs v := hC
  dsimp only [x_step] at h
  split at h
  · split at h
    · rename_i hk
      cases h
      obtain ⟨w1, r1, rfl, g1, hs1⟩ := x_gs_cons hst
      rcases x_g_ref g1 hk.2 with ⟨b, rfl⟩ | rfl
      · exact ⟨_, List.mem_singleton.mpr rfl, v, _, _, G, x_ag.rf, by dsimp only [pm_step]; rw [if_pos hk.1], ⟨hB, hC, x_lput_ok hlo g1, hs1, hfa, hI⟩, x_eff.rf⟩
      · exact ⟨_, List.mem_singleton.mpr rfl, v, _, _, G, x_ag.rf, by dsimp only [pm_step]; rw [if_pos hk.1], ⟨hB, hC, x_lput_ok hlo g1, hs1, hfa, hI⟩, x_eff.rf⟩
    · cases h
  · cases h
set_option maxHeartbeats 1000000 in
theorem xs_astore_n {k : Fin 4} (hS : x_S tb th v (cs, lo, st, fa, nx) lv ws G) (h : x_step tb E m0 own nL (.astore_n k) pc cs lo st fa nx = some out) : x_Go tb th E m0 own nL ini xs L J (.astore_n k) pc v lv ws G out := by
  obtain ⟨hB, hC, hlo, hst, hfa, hI⟩ := id hS
  have hC : x_Cs cs v := hC
  dsimp only [x_step] at h
  split at h
  · split at h
    · rename_i hk
      cases h
      obtain ⟨w1, r1, rfl, g1, hs1⟩ := x_gs_cons hst
      rcases x_g_ref g1 hk.2 with ⟨b, rfl⟩ | rfl
      · exact ⟨_, List.mem_singleton.mpr rfl, v, _, _, G, x_ag.rf, by dsimp only [pm_step]; rw [if_pos hk.1], ⟨hB, hC, x_lput_ok hlo g1, hs1, hfa, hI⟩, x_eff.rf⟩
      · exact ⟨_, List.mem_singleton.mpr rfl, v, _, _, G, x_ag.rf, by dsimp only [pm_step]; rw [if_pos hk.1], ⟨hB, hC, x_lput_ok hlo g1, hs1, hfa, hI⟩, x_eff.rf⟩
    · cases h
  · cases h
set_option maxHeartbeats 1000000 in
theorem xs_iinc {k : Nat} {j : Int} (hS : x_S tb th v (cs, lo, st, fa, nx) lv ws G) (h : x_step tb E m0 own nL (.iinc k j) pc cs lo st fa nx = some out) : x_Go tb th E m0 own nL ini xs L J (.iinc k j) pc v lv ws G out := by
  obtain ⟨hB, hC, hlo, hst, hfa, hI⟩ := id hS
  have hC : x_Cs cs v := hC
  dsimp only [x_step] at h
  split at h
  · rename_i l hg
    obtain ⟨w, hw, gw⟩ := x_lget_ok hg hlo
    obtain ⟨x, rfl, ex⟩ := x_g0 gw
    split at h
    · rename_i hk
      split at h
      · rename_i hr
        cases h
        obtain ⟨r1, r2⟩ := x_rng_ok hB hC hr
        have e1 : (x + Int32.ofInt j).toInt = xl_ev (xl_add l (xl_c (Int32.ofInt j).toInt)) v := by
          rw [xl_add_ev, xl_c_ev] at r1 r2 ⊢
          rw [Int32.toInt_add, ex, Jvm.Kit.bmod32 r1 r2]
        exact ⟨_, List.mem_singleton.mpr rfl, v, _, _, G, x_ag.rf, by dsimp only [pm_step]; rw [hw]; dsimp only; rw [if_pos hk], ⟨hB, hC, x_lput_ok (w := .int (x + Int32.ofInt j)) hlo ⟨_, rfl, e1⟩, hst, hfa, hI⟩, x_eff.rf⟩
      · split at h
        · rename_i hh
          cases h
          obtain ⟨b1, b2⟩ := x_i32 (x + Int32.ofInt j)
          obtain ⟨a1, a2, a3, a4, a5, a6⟩ := x_S_up (i := nx) (x := (x + Int32.ofInt j).toInt) hS hh.2 b1 b2
          exact ⟨_, List.mem_singleton.mpr rfl, _, _, _, G, x_ag.up hh.1, by dsimp only [pm_step]; rw [hw]; dsimp only; rw [if_pos hk], ⟨a1, a2, x_lput_ok (w := .int (x + Int32.ofInt j)) a3 ⟨_, rfl, by rw [xl_s_ev]; simp [x_up]⟩, a4, a5, a6⟩, x_eff.rf⟩
        · cases h
    · cases h
  · cases h
set_option maxHeartbeats 1000000 in
theorem xs_iadd  (hS : x_S tb th v (cs, lo, st, fa, nx) lv ws G) (h : x_step tb E m0 own nL (.iadd) pc cs lo st fa nx = some out) : x_Go tb th E m0 own nL ini xs L J (.iadd) pc v lv ws G out := by
  obtain ⟨hB, hC, hlo, hst, hfa, hI⟩ := id hS
  have hC : x_Cs cs v := hC
  dsimp only [x_step] at h
  split at h
  · rename_i ly lx r
    obtain ⟨w1, r1, rfl, g1, hs1⟩ := x_gs_cons hst
    obtain ⟨w2, r2, rfl, g2, hs2⟩ := x_gs_cons hs1
    obtain ⟨y, rfl, ey⟩ := x_g0 g1
    obtain ⟨x, rfl, ex⟩ := x_g0 g2
    split at h
    · rename_i hr
      cases h
      obtain ⟨b1, b2⟩ := x_rng_ok hB hC hr
      rw [xl_add_ev] at b1 b2
      exact ⟨_, List.mem_singleton.mpr rfl, v, lv, _, G, x_ag.rf, rfl, x_psh hS ⟨_, rfl, by rw [Int32.toInt_add, ex, ey, xl_add_ev, Jvm.Kit.bmod32 b1 b2]⟩ hs2, x_eff.rf⟩
    · obtain ⟨q, q1, v', q2, q3, q4⟩ := x_hv_ok (rest := r2) hS h (x + y) (fun v' hS' hv' => ⟨fun c hc => absurd hc List.not_mem_nil, hS'.2.2.2.1.2.2⟩)
      exact ⟨q, q1, v', lv, _, G, q2, by rw [q3]; rfl, q4, x_eff.rf⟩
  · cases h
set_option maxHeartbeats 1000000 in
theorem xs_isub  (hS : x_S tb th v (cs, lo, st, fa, nx) lv ws G) (h : x_step tb E m0 own nL (.isub) pc cs lo st fa nx = some out) : x_Go tb th E m0 own nL ini xs L J (.isub) pc v lv ws G out := by
  obtain ⟨hB, hC, hlo, hst, hfa, hI⟩ := id hS
  have hC : x_Cs cs v := hC
  dsimp only [x_step] at h
  split at h
  · rename_i ly lx r
    obtain ⟨w1, r1, rfl, g1, hs1⟩ := x_gs_cons hst
    obtain ⟨w2, r2, rfl, g2, hs2⟩ := x_gs_cons hs1
    obtain ⟨y, rfl, ey⟩ := x_g0 g1
    obtain ⟨x, rfl, ex⟩ := x_g0 g2
    split at h
    · rename_i hr
      cases h
      obtain ⟨b1, b2⟩ := x_rng_ok hB hC hr
      rw [xl_sub_ev] at b1 b2
      exact ⟨_, List.mem_singleton.mpr rfl, v, lv, _, G, x_ag.rf, rfl, x_psh hS ⟨_, rfl, by rw [Int32.toInt_sub, ex, ey, xl_sub_ev, Jvm.Kit.bmod32 b1 b2]⟩ hs2, x_eff.rf⟩
    · obtain ⟨q, q1, v', q2, q3, q4⟩ := x_hv_ok (rest := r2) hS h (x - y) (fun v' hS' hv' => ⟨fun c hc => absurd hc List.not_mem_nil, hS'.2.2.2.1.2.2⟩)
      exact ⟨q, q1, v', lv, _, G, q2, by rw [q3]; rfl, q4, x_eff.rf⟩
  · cases h
set_option maxHeartbeats 1000000 in
theorem xs_imul  (hS : x_S tb th v (cs, lo, st, fa, nx) lv ws G) (h : x_step tb E m0 own nL (.imul) pc cs lo st fa nx = some out) : x_Go tb th E m0 own nL ini xs L J (.imul) pc v lv ws G out := by
  obtain ⟨hB, hC, hlo, hst, hfa, hI⟩ := id hS
  have hC : x_Cs cs v := hC
  dsimp only [x_step] at h
  split at h
  · rename_i ly lx r
    obtain ⟨w1, r1, rfl, g1, hs1⟩ := x_gs_cons hst
    obtain ⟨w2, r2, rfl, g2, hs2⟩ := x_gs_cons hs1
    obtain ⟨y, rfl, ey⟩ := x_g0 g1
    obtain ⟨x, rfl, ex⟩ := x_g0 g2
    split at h
    · rename_i hr
      cases h
      obtain ⟨b1, b2⟩ := x_rng_ok hB hC hr.2
      rw [xl_mul_ev] at b1 b2
      have hx2 : xl_ev lx v = lx.2 := by unfold xl_ev; rw [hr.1]; simp [xt_ev]
      exact ⟨_, List.mem_singleton.mpr rfl, v, lv, _, G, x_ag.rf, rfl, x_psh hS ⟨_, rfl, by rw [Int32.toInt_mul, ex, ey, xl_mul_ev, hx2, Jvm.Kit.bmod32 b1 b2]⟩ hs2, x_eff.rf⟩
    · split at h
      · rename_i hr
        cases h
        obtain ⟨b1, b2⟩ := x_rng_ok hB hC hr.2
        rw [xl_mul_ev, Int.mul_comm] at b1 b2
        have hy2 : xl_ev ly v = ly.2 := by unfold xl_ev; rw [hr.1]; simp [xt_ev]
        exact ⟨_, List.mem_singleton.mpr rfl, v, lv, _, G, x_ag.rf, rfl, x_psh hS ⟨_, rfl, by rw [Int32.toInt_mul, ex, ey, xl_mul_ev, hy2, Jvm.Kit.bmod32 b1 b2, Int.mul_comm]⟩ hs2, x_eff.rf⟩
      · obtain ⟨q, q1, v', q2, q3, q4⟩ := x_hv_ok (rest := r2) hS h (x * y) (fun v' hS' hv' => ⟨fun c hc => absurd hc List.not_mem_nil, hS'.2.2.2.1.2.2⟩)
        exact ⟨q, q1, v', lv, _, G, q2, by rw [q3]; rfl, q4, x_eff.rf⟩
  · cases h
set_option maxHeartbeats 1000000 in
theorem xs_iand  (hS : x_S tb th v (cs, lo, st, fa, nx) lv ws G) (h : x_step tb E m0 own nL (.iand) pc cs lo st fa nx = some out) : x_Go tb th E m0 own nL ini xs L J (.iand) pc v lv ws G out := by
  obtain ⟨hB, hC, hlo, hst, hfa, hI⟩ := id hS
  have hC : x_Cs cs v := hC
  dsimp only [x_step] at h
  split at h
  · rename_i ly lx r
    obtain ⟨w1, r1, rfl, g1, hs1⟩ := x_gs_cons hst
    obtain ⟨w2, r2, rfl, g2, hs2⟩ := x_gs_cons hs1
    obtain ⟨y, rfl, ey⟩ := x_g0 g1
    obtain ⟨x, rfl, ex⟩ := x_g0 g2
    split at h
    · rename_i hy0
      have k1 := x_ent_ok hB hC hy0
      have k2 := x_and_le (x := x) (y := y) (by omega)
      refine (?_ : ∃ q ∈ out, ∃ v', x_ag m0 v v' ∧ q.1 = pc + 1 ∧ x_S tb th v' q.2 lv (.int (x &&& y) :: r2) G).elim (fun q hq => ?_)
      · refine x_hv_ok hS h (x &&& y) (fun v' hS' hv' => ⟨?_, hS'.2.2.2.1.2.2⟩)
        obtain ⟨y', hy', ey'⟩ := x_g0 hS'.2.2.2.1.1
        obtain ⟨x', hx', ex'⟩ := x_g0 hS'.2.2.2.1.2.1
        cases hy'
        cases hx'
        intro c hc
        rcases List.mem_cons.mp hc with rfl | hc
        · rw [xl_s_ev, hv']; exact k2.1
        · rw [List.mem_singleton.mp hc]
          rw [xl_sub_ev, xl_s_ev, hv']; omega
      · obtain ⟨q1, v', q2, q3, q4⟩ := hq
        exact ⟨q, q1, v', lv, _, G, q2, by rw [q3]; rfl, q4, x_eff.rf⟩
    · split at h
      · rename_i hx0
        have k1 := x_ent_ok hB hC hx0
        have k2 := x_and_le (x := y) (y := x) (by omega)
        rw [x_and_comm] at k2
        refine (?_ : ∃ q ∈ out, ∃ v', x_ag m0 v v' ∧ q.1 = pc + 1 ∧ x_S tb th v' q.2 lv (.int (x &&& y) :: r2) G).elim (fun q hq => ?_)
        · refine x_hv_ok hS h (x &&& y) (fun v' hS' hv' => ⟨?_, hS'.2.2.2.1.2.2⟩)
          obtain ⟨y', hy', ey'⟩ := x_g0 hS'.2.2.2.1.1
          obtain ⟨x', hx', ex'⟩ := x_g0 hS'.2.2.2.1.2.1
          cases hy'
          cases hx'
          intro c hc
          rcases List.mem_cons.mp hc with rfl | hc
          · rw [xl_s_ev, hv']; exact k2.1
          · rw [List.mem_singleton.mp hc]
            rw [xl_sub_ev, xl_s_ev, hv']; omega
        · obtain ⟨q1, v', q2, q3, q4⟩ := hq
          exact ⟨q, q1, v', lv, _, G, q2, by rw [q3]; rfl, q4, x_eff.rf⟩
      · obtain ⟨q, q1, v', q2, q3, q4⟩ := x_hv_ok (rest := r2) hS h (x &&& y) (fun v' hS' hv' => ⟨fun c hc => absurd hc List.not_mem_nil, hS'.2.2.2.1.2.2⟩)
        exact ⟨q, q1, v', lv, _, G, q2, by rw [q3]; rfl, q4, x_eff.rf⟩
  · cases h
set_option maxHeartbeats 1000000 in
theorem xs_ior  (hS : x_S tb th v (cs, lo, st, fa, nx) lv ws G) (h : x_step tb E m0 own nL (.ior) pc cs lo st fa nx = some out) : x_Go tb th E m0 own nL ini xs L J (.ior) pc v lv ws G out := by
  obtain ⟨hB, hC, hlo, hst, hfa, hI⟩ := id hS
  have hC : x_Cs cs v := hC
  dsimp only [x_step] at h
  split at h
  · rename_i ly lx r
    obtain ⟨w1, r1, rfl, g1, hs1⟩ := x_gs_cons hst
    obtain ⟨w2, r2, rfl, g2, hs2⟩ := x_gs_cons hs1
    obtain ⟨y, rfl, ey⟩ := x_g0 g1
    obtain ⟨x, rfl, ex⟩ := x_g0 g2
    split at h
    · rename_i hh
      simp only [Bool.and_eq_true] at hh
      have k1 := x_ent_ok hB hC hh.1.1.1
      have k2 := x_ent_ok hB hC hh.1.1.2
      have k3 := x_ent_ok hB hC hh.1.2
      have k4 := x_ent_ok hB hC hh.2
      rw [xl_sub_ev, xl_c_ev] at k3 k4
      have k5 := x_or255 (x := x) (y := y) (by omega) (by omega)
      refine (?_ : ∃ q ∈ out, ∃ v', x_ag m0 v v' ∧ q.1 = pc + 1 ∧ x_S tb th v' q.2 lv (.int (x ||| y) :: r2) G).elim (fun q hq => ?_)
      · refine x_hv_ok hS h (x ||| y) (fun v' hS' hv' => ⟨?_, hS'.2.2.2.1.2.2⟩)
        obtain ⟨y', hy', ey'⟩ := x_g0 hS'.2.2.2.1.1
        obtain ⟨x', hx', ex'⟩ := x_g0 hS'.2.2.2.1.2.1
        cases hy'
        cases hx'
        intro c hc
        rcases List.mem_cons.mp hc with rfl | hc
        · rw [xl_s_ev, hv']; exact k5.1
        · rw [List.mem_singleton.mp hc]
          rw [xl_sub_ev, xl_s_ev, xl_c_ev, hv']; omega
      · obtain ⟨q1, v', q2, q3, q4⟩ := hq
        exact ⟨q, q1, v', lv, _, G, q2, by rw [q3]; rfl, q4, x_eff.rf⟩
    · obtain ⟨q, q1, v', q2, q3, q4⟩ := x_hv_ok (rest := r2) hS h (x ||| y) (fun v' hS' hv' => ⟨fun c hc => absurd hc List.not_mem_nil, hS'.2.2.2.1.2.2⟩)
      exact ⟨q, q1, v', lv, _, G, q2, by rw [q3]; rfl, q4, x_eff.rf⟩
  · cases h
set_option maxHeartbeats 1000000 in
theorem xs_ixor  (hS : x_S tb th v (cs, lo, st, fa, nx) lv ws G) (h : x_step tb E m0 own nL (.ixor) pc cs lo st fa nx = some out) : x_Go tb th E m0 own nL ini xs L J (.ixor) pc v lv ws G out := by
  obtain ⟨hB, hC, hlo, hst, hfa, hI⟩ := id hS
  have hC : x_Cs cs v := hC
  dsimp only [x_step] at h
  split at h
  · rename_i ly lx r
    obtain ⟨w1, r1, rfl, g1, hs1⟩ := x_gs_cons hst
    obtain ⟨w2, r2, rfl, g2, hs2⟩ := x_gs_cons hs1
    obtain ⟨y, rfl, ey⟩ := x_g0 g1
    obtain ⟨x, rfl, ex⟩ := x_g0 g2
    obtain ⟨q, q1, v', q2, q3, q4⟩ := x_hv_ok (rest := r2) hS h (x ^^^ y) (fun v' hS' hv' => ⟨fun c hc => absurd hc List.not_mem_nil, hS'.2.2.2.1.2.2⟩)
    exact ⟨q, q1, v', lv, _, G, q2, by rw [q3]; rfl, q4, x_eff.rf⟩
  · cases h
set_option maxHeartbeats 1000000 in
theorem xs_ishr  (hS : x_S tb th v (cs, lo, st, fa, nx) lv ws G) (h : x_step tb E m0 own nL (.ishr) pc cs lo st fa nx = some out) : x_Go tb th E m0 own nL ini xs L J (.ishr) pc v lv ws G out := by
  obtain ⟨hB, hC, hlo, hst, hfa, hI⟩ := id hS
  have hC : x_Cs cs v := hC
  dsimp only [x_step] at h
  split at h
  · rename_i ly lx r
    obtain ⟨w1, r1, rfl, g1, hs1⟩ := x_gs_cons hst
    obtain ⟨w2, r2, rfl, g2, hs2⟩ := x_gs_cons hs1
    obtain ⟨y, rfl, ey⟩ := x_g0 g1
    obtain ⟨x, rfl, ex⟩ := x_g0 g2
    obtain ⟨q, q1, v', q2, q3, q4⟩ := x_hv_ok (rest := r2) hS h (x >>> (y &&& 31)) (fun v' hS' hv' => ⟨fun c hc => absurd hc List.not_mem_nil, hS'.2.2.2.1.2.2⟩)
    exact ⟨q, q1, v', lv, _, G, q2, by rw [q3]; rfl, q4, x_eff.rf⟩
  · cases h
set_option maxHeartbeats 1000000 in
theorem xs_idiv  (hS : x_S tb th v (cs, lo, st, fa, nx) lv ws G) (h : x_step tb E m0 own nL (.idiv) pc cs lo st fa nx = some out) : x_Go tb th E m0 own nL ini xs L J (.idiv) pc v lv ws G out := by
  obtain ⟨hB, hC, hlo, hst, hfa, hI⟩ := id hS
  have hC : x_Cs cs v := hC
  dsimp only [x_step] at h
  split at h
  · rename_i ly lx r
    obtain ⟨w1, r1, rfl, g1, hs1⟩ := x_gs_cons hst
    obtain ⟨w2, r2, rfl, g2, hs2⟩ := x_gs_cons hs1
    obtain ⟨y, rfl, ey⟩ := x_g0 g1
    obtain ⟨x, rfl, ex⟩ := x_g0 g2
    split at h
    · rename_i hz
      have k0 := x_ent_ok hB hC hz
      rw [xl_add_ev, xl_c_ev] at k0
      have hne : ¬ y = 0 := fun z => by rw [z] at ey; have : (0 : Int32).toInt = 0 := rfl; omega
      obtain ⟨q, q1, v', q2, q3, q4⟩ := x_hv_ok (rest := r2) hS h (x / y) (fun v' hS' hv' => ⟨fun c hc => absurd hc List.not_mem_nil, hS'.2.2.2.1.2.2⟩)
      exact ⟨q, q1, v', lv, _, G, q2, by rw [q3]; dsimp only [pm_step]; rw [if_neg hne], q4, x_eff.rf⟩
    · cases h
  · cases h
set_option maxHeartbeats 1000000 in
theorem xs_irem  (hS : x_S tb th v (cs, lo, st, fa, nx) lv ws G) (h : x_step tb E m0 own nL (.irem) pc cs lo st fa nx = some out) : x_Go tb th E m0 own nL ini xs L J (.irem) pc v lv ws G out := by
  obtain ⟨hB, hC, hlo, hst, hfa, hI⟩ := id hS
  have hC : x_Cs cs v := hC
  dsimp only [x_step] at h
  split at h
  · rename_i ly lx r
    obtain ⟨w1, r1, rfl, g1, hs1⟩ := x_gs_cons hst
    obtain ⟨w2, r2, rfl, g2, hs2⟩ := x_gs_cons hs1
    obtain ⟨y, rfl, ey⟩ := x_g0 g1
    obtain ⟨x, rfl, ex⟩ := x_g0 g2
    split at h
    · rename_i hz
      have k0 := x_ent_ok hB hC hz
      rw [xl_add_ev, xl_c_ev] at k0
      have hne : ¬ y = 0 := fun z => by rw [z] at ey; have : (0 : Int32).toInt = 0 := rfl; omega
      split at h
      · rename_i hx0
        have k1 := x_ent_ok hB hC hx0
        have k2 := x_rem_le (x := x) (y := y) (by omega) (by omega)
        refine (?_ : ∃ q ∈ out, ∃ v', x_ag m0 v v' ∧ q.1 = pc + 1 ∧ x_S tb th v' q.2 lv (.int (x - x / y * y) :: r2) G).elim (fun q hq => ?_)
        · refine x_hv_ok hS h (x - x / y * y) (fun v' hS' hv' => ⟨?_, hS'.2.2.2.1.2.2⟩)
          obtain ⟨y', hy', ey'⟩ := x_g0 hS'.2.2.2.1.1
          obtain ⟨x', hx', ex'⟩ := x_g0 hS'.2.2.2.1.2.1
          cases hy'
          cases hx'
          intro c hc
          rcases List.mem_cons.mp hc with rfl | hc
          · rw [xl_s_ev, hv']; exact k2.1
          · rw [List.mem_singleton.mp hc]
            rw [xl_sub_ev, xl_s_ev, xl_add_ev, xl_c_ev, hv']; omega
        · obtain ⟨q1, v', q2, q3, q4⟩ := hq
          exact ⟨q, q1, v', lv, _, G, q2, by rw [q3]; dsimp only [pm_step]; rw [if_neg hne], q4, x_eff.rf⟩
      · obtain ⟨q, q1, v', q2, q3, q4⟩ := x_hv_ok (rest := r2) hS h (x - x / y * y) (fun v' hS' hv' => ⟨fun c hc => absurd hc List.not_mem_nil, hS'.2.2.2.1.2.2⟩)
        exact ⟨q, q1, v', lv, _, G, q2, by rw [q3]; dsimp only [pm_step]; rw [if_neg hne], q4, x_eff.rf⟩
    · cases h
  · cases h
set_option maxHeartbeats 1000000 in
theorem xs_ishl  (hS : x_S tb th v (cs, lo, st, fa, nx) lv ws G) (h : x_step tb E m0 own nL (.ishl) pc cs lo st fa nx = some out) : x_Go tb th E m0 own nL ini xs L J (.ishl) pc v lv ws G out := by
  obtain ⟨hB, hC, hlo, hst, hfa, hI⟩ := id hS
  have hC : x_Cs cs v := hC
  dsimp only [x_step] at h
  split at h
  · rename_i ly lx r
    obtain ⟨w1, r1, rfl, g1, hs1⟩ := x_gs_cons hst
    obtain ⟨w2, r2, rfl, g2, hs2⟩ := x_gs_cons hs1
    obtain ⟨y, rfl, ey⟩ := x_g0 g1
    obtain ⟨x, rfl, ex⟩ := x_g0 g2
    split at h
    · rename_i hh
      have k1 := x_ent_ok hB hC hh.2.1
      have k2 := x_ent_ok hB hC hh.2.2
      rw [xl_sub_ev, xl_c_ev] at k2
      rw [hh.1, xl_c_ev] at ex
      obtain rfl : x = 1 := Int32.toInt_inj.mp ex
      have k3 := x_shl1 (y := y) (by omega) (by omega)
      refine (?_ : ∃ q ∈ out, ∃ v', x_ag m0 v v' ∧ q.1 = pc + 1 ∧ x_S tb th v' q.2 lv (.int (1 <<< (y &&& 31)) :: r2) G).elim (fun q hq => ?_)
      · refine x_hv_ok hS h (1 <<< (y &&& 31)) (fun v' hS' hv' => ⟨?_, hS'.2.2.2.1.2.2⟩)
        obtain ⟨y', hy', ey'⟩ := x_g0 hS'.2.2.2.1.1
        obtain ⟨x', hx', ex'⟩ := x_g0 hS'.2.2.2.1.2.1
        cases hy'
        cases hx'
        intro c hc
        rcases List.mem_cons.mp hc with rfl | hc
        · rw [xl_add_ev, xl_s_ev, xl_c_ev, hv']; omega
        · rw [List.mem_singleton.mp hc]
          rw [xl_sub_ev, xl_s_ev, xl_c_ev, hv']; omega
      · obtain ⟨q1, v', q2, q3, q4⟩ := hq
        exact ⟨q, q1, v', lv, _, G, q2, by rw [q3]; rfl, q4, x_eff.rf⟩
    · obtain ⟨q, q1, v', q2, q3, q4⟩ := x_hv_ok (rest := r2) hS h (x <<< (y &&& 31)) (fun v' hS' hv' => ⟨fun c hc => absurd hc List.not_mem_nil, hS'.2.2.2.1.2.2⟩)
      exact ⟨q, q1, v', lv, _, G, q2, by rw [q3]; rfl, q4, x_eff.rf⟩
  · cases h
set_option maxHeartbeats 1000000 in
theorem xs_iushr  (hS : x_S tb th v (cs, lo, st, fa, nx) lv ws G) (h : x_step tb E m0 own nL (.iushr) pc cs lo st fa nx = some out) : x_Go tb th E m0 own nL ini xs L J (.iushr) pc v lv ws G out := by
  obtain ⟨hB, hC, hlo, hst, hfa, hI⟩ := id hS
  have hC : x_Cs cs v := hC
  dsimp only [x_step] at h
  split at h
  · rename_i ly lx r
    obtain ⟨w1, r1, rfl, g1, hs1⟩ := x_gs_cons hst
    obtain ⟨w2, r2, rfl, g2, hs2⟩ := x_gs_cons hs1
    obtain ⟨y, rfl, ey⟩ := x_g0 g1
    obtain ⟨x, rfl, ex⟩ := x_g0 g2
    split at h
    · rename_i hh
      rw [hh, xl_c_ev] at ey
      obtain rfl : y = 8 := Int32.toInt_inj.mp ey
      have k3 := x_ushr8 x
      refine (?_ : ∃ q ∈ out, ∃ v', x_ag m0 v v' ∧ q.1 = pc + 1 ∧ x_S tb th v' q.2 lv (.int ((x.toUInt32 >>> ((8 : Int32).toUInt32 &&& Int32.toUInt32 31)).toInt32) :: r2) G).elim (fun q hq => ?_)
      · refine x_hv_ok hS h ((x.toUInt32 >>> ((8 : Int32).toUInt32 &&& Int32.toUInt32 31)).toInt32) (fun v' hS' hv' => ⟨?_, hS'.2.2.2.1.2.2⟩)
        obtain ⟨y', hy', ey'⟩ := x_g0 hS'.2.2.2.1.1
        obtain ⟨x', hx', ex'⟩ := x_g0 hS'.2.2.2.1.2.1
        cases hy'
        cases hx'
        intro c hc
        rw [List.mem_singleton.mp hc, xl_s_ev, hv']
        exact k3
      · obtain ⟨q1, v', q2, q3, q4⟩ := hq
        exact ⟨q, q1, v', lv, _, G, q2, by rw [q3]; rfl, q4, x_eff.rf⟩
    · obtain ⟨q, q1, v', q2, q3, q4⟩ := x_hv_ok (rest := r2) hS h ((x.toUInt32 >>> (y.toUInt32 &&& Int32.toUInt32 31)).toInt32) (fun v' hS' hv' => ⟨fun c hc => absurd hc List.not_mem_nil, hS'.2.2.2.1.2.2⟩)
      exact ⟨q, q1, v', lv, _, G, q2, by rw [q3]; rfl, q4, x_eff.rf⟩
  · cases h
set_option maxHeartbeats 1000000 in
theorem xs_i2l  (hS : x_S tb th v (cs, lo, st, fa, nx) lv ws G) (h : x_step tb E m0 own nL (.i2l) pc cs lo st fa nx = some out) : x_Go tb th E m0 own nL ini xs L J (.i2l) pc v lv ws G out := by
  obtain ⟨hB, hC, hlo, hst, hfa, hI⟩ := id hS
  have hC : x_Cs cs v := hC
  dsimp only [x_step] at h
  split at h
  · cases h
    obtain ⟨w1, r1, rfl, g1, hs1⟩ := x_gs_cons hst
    obtain ⟨x, rfl, ex⟩ := x_g0 g1
    exact ⟨_, List.mem_singleton.mpr rfl, v, lv, _, G, x_ag.rf, rfl, x_psh hS ⟨_, rfl⟩ hs1, x_eff.rf⟩
  · cases h
set_option maxHeartbeats 1000000 in
theorem xs_i2b  (hS : x_S tb th v (cs, lo, st, fa, nx) lv ws G) (h : x_step tb E m0 own nL (.i2b) pc cs lo st fa nx = some out) : x_Go tb th E m0 own nL ini xs L J (.i2b) pc v lv ws G out := by
  obtain ⟨hB, hC, hlo, hst, hfa, hI⟩ := id hS
  have hC : x_Cs cs v := hC
  dsimp only [x_step] at h
  split at h
  · rename_i lx r
    obtain ⟨w1, r1, rfl, g1, hs1⟩ := x_gs_cons hst
    obtain ⟨x, rfl, ex⟩ := x_g0 g1
    have k := x_i2b_le x
    refine (?_ : ∃ q ∈ out, ∃ v', x_ag m0 v v' ∧ q.1 = pc + 1 ∧ x_S tb th v' q.2 lv (.int (x.toInt8.toInt32) :: r1) G).elim (fun q hq => ?_)
    · refine x_hv_ok hS h (x.toInt8.toInt32) (fun v' hS' hv' => ⟨?_, hS'.2.2.2.1.2⟩)
      intro c hc
      rcases List.mem_cons.mp hc with rfl | hc
      · rw [xl_add_ev, xl_s_ev, xl_c_ev, hv']; omega
      · rw [List.mem_singleton.mp hc]
        rw [xl_sub_ev, xl_s_ev, xl_c_ev, hv']; omega
    · obtain ⟨q1, v', q2, q3, q4⟩ := hq
      exact ⟨q, q1, v', lv, _, G, q2, by rw [q3]; rfl, q4, x_eff.rf⟩
  · cases h
set_option maxHeartbeats 1000000 in
theorem xs_ladd  (hS : x_S tb th v (cs, lo, st, fa, nx) lv ws G) (h : x_step tb E m0 own nL (.ladd) pc cs lo st fa nx = some out) : x_Go tb th E m0 own nL ini xs L J (.ladd) pc v lv ws G out := by
  obtain ⟨hB, hC, hlo, hst, hfa, hI⟩ := id hS
  have hC : x_Cs cs v := hC
  dsimp only [x_step] at h
  split at h
  · cases h
    obtain ⟨w1, r1, rfl, g1, hs1⟩ := x_gs_cons hst
    obtain ⟨w2, r2, rfl, g2, hs2⟩ := x_gs_cons hs1
    obtain ⟨y, rfl⟩ := g1
    obtain ⟨x, rfl⟩ := g2
    exact ⟨_, List.mem_singleton.mpr rfl, v, lv, _, G, x_ag.rf, rfl, x_psh hS ⟨_, rfl⟩ hs2, x_eff.rf⟩
  · cases h
set_option maxHeartbeats 1000000 in
theorem xs_lmul  (hS : x_S tb th v (cs, lo, st, fa, nx) lv ws G) (h : x_step tb E m0 own nL (.lmul) pc cs lo st fa nx = some out) : x_Go tb th E m0 own nL ini xs L J (.lmul) pc v lv ws G out := by
  obtain ⟨hB, hC, hlo, hst, hfa, hI⟩ := id hS
  have hC : x_Cs cs v := hC
  dsimp only [x_step] at h
  split at h
  · cases h
    obtain ⟨w1, r1, rfl, g1, hs1⟩ := x_gs_cons hst
    obtain ⟨w2, r2, rfl, g2, hs2⟩ := x_gs_cons hs1
    obtain ⟨y, rfl⟩ := g1
    obtain ⟨x, rfl⟩ := g2
    exact ⟨_, List.mem_singleton.mpr rfl, v, lv, _, G, x_ag.rf, rfl, x_psh hS ⟨_, rfl⟩ hs2, x_eff.rf⟩
  · cases h
set_option maxHeartbeats 1000000 in
theorem xs_lor  (hS : x_S tb th v (cs, lo, st, fa, nx) lv ws G) (h : x_step tb E m0 own nL (.lor) pc cs lo st fa nx = some out) : x_Go tb th E m0 own nL ini xs L J (.lor) pc v lv ws G out := by
  obtain ⟨hB, hC, hlo, hst, hfa, hI⟩ := id hS
  have hC : x_Cs cs v := hC
  dsimp only [x_step] at h
  split at h
  · cases h
    obtain ⟨w1, r1, rfl, g1, hs1⟩ := x_gs_cons hst
    obtain ⟨w2, r2, rfl, g2, hs2⟩ := x_gs_cons hs1
    obtain ⟨y, rfl⟩ := g1
    obtain ⟨x, rfl⟩ := g2
    exact ⟨_, List.mem_singleton.mpr rfl, v, lv, _, G, x_ag.rf, rfl, x_psh hS ⟨_, rfl⟩ hs2, x_eff.rf⟩
  · cases h
set_option maxHeartbeats 1000000 in
theorem xs_lshl  (hS : x_S tb th v (cs, lo, st, fa, nx) lv ws G) (h : x_step tb E m0 own nL (.lshl) pc cs lo st fa nx = some out) : x_Go tb th E m0 own nL ini xs L J (.lshl) pc v lv ws G out := by
  obtain ⟨hB, hC, hlo, hst, hfa, hI⟩ := id hS
  have hC : x_Cs cs v := hC
  dsimp only [x_step] at h
  split at h
  · cases h
    obtain ⟨w1, r1, rfl, g1, hs1⟩ := x_gs_cons hst
    obtain ⟨w2, r2, rfl, g2, hs2⟩ := x_gs_cons hs1
    obtain ⟨y, rfl, ey⟩ := x_g0 g1
    obtain ⟨x, rfl⟩ := g2
    exact ⟨_, List.mem_singleton.mpr rfl, v, lv, _, G, x_ag.rf, rfl, x_psh hS ⟨_, rfl⟩ hs2, x_eff.rf⟩
  · cases h
set_option maxHeartbeats 1000000 in
theorem xs_lcmp  (hS : x_S tb th v (cs, lo, st, fa, nx) lv ws G) (h : x_step tb E m0 own nL (.lcmp) pc cs lo st fa nx = some out) : x_Go tb th E m0 own nL ini xs L J (.lcmp) pc v lv ws G out := by
  obtain ⟨hB, hC, hlo, hst, hfa, hI⟩ := id hS
  have hC : x_Cs cs v := hC
  dsimp only [x_step] at h
  split at h
  · rename_i ly lx r
    obtain ⟨w1, r1, rfl, g1, hs1⟩ := x_gs_cons hst
    obtain ⟨w2, r2, rfl, g2, hs2⟩ := x_gs_cons hs1
    obtain ⟨y, rfl⟩ := g1
    obtain ⟨x, rfl⟩ := g2
    obtain ⟨q, q1, v', q2, q3, q4⟩ := x_hv_ok (rest := r2) hS h (lg_cmp x y) (fun v' hS' hv' => ⟨fun c hc => absurd hc List.not_mem_nil, hS'.2.2.2.1.2.2⟩)
    exact ⟨q, q1, v', lv, _, G, q2, by rw [q3]; rfl, q4, x_eff.rf⟩
  · cases h
set_option maxHeartbeats 1000000 in
theorem xs_dup  (hS : x_S tb th v (cs, lo, st, fa, nx) lv ws G) (h : x_step tb E m0 own nL (.dup) pc cs lo st fa nx = some out) : x_Go tb th E m0 own nL ini xs L J (.dup) pc v lv ws G out := by
  obtain ⟨hB, hC, hlo, hst, hfa, hI⟩ := id hS
  have hC : x_Cs cs v := hC
  dsimp only [x_step] at h
  split at h
  · split at h
    · cases h
    · rename_i hn
      cases h
      obtain ⟨w1, r1, rfl, g1, hs1⟩ := x_gs_cons hst
      exact ⟨_, List.mem_singleton.mpr rfl, v, lv, w1 :: w1 :: r1, G, x_ag.rf, by dsimp only [pm_step]; rw [if_pos (x_g_cat g1 hn)], ⟨hB, hC, hlo, ⟨g1, g1, hs1⟩, hfa, hI⟩, x_eff.rf⟩
  · cases h
set_option maxHeartbeats 1000000 in
theorem xs_pop  (hS : x_S tb th v (cs, lo, st, fa, nx) lv ws G) (h : x_step tb E m0 own nL (.pop) pc cs lo st fa nx = some out) : x_Go tb th E m0 own nL ini xs L J (.pop) pc v lv ws G out := by
  obtain ⟨hB, hC, hlo, hst, hfa, hI⟩ := id hS
  have hC : x_Cs cs v := hC
  dsimp only [x_step] at h
  split at h
  · split at h
    · cases h
    · rename_i hn
      cases h
      obtain ⟨w1, r1, rfl, g1, hs1⟩ := x_gs_cons hst
      exact ⟨_, List.mem_singleton.mpr rfl, v, lv, _, G, x_ag.rf, by dsimp only [pm_step]; rw [if_pos (x_g_cat g1 hn)], ⟨hB, hC, hlo, hs1, hfa, hI⟩, x_eff.rf⟩
  · cases h
set_option maxHeartbeats 1000000 in
theorem xs_dup2  (hS : x_S tb th v (cs, lo, st, fa, nx) lv ws G) (h : x_step tb E m0 own nL (.dup2) pc cs lo st fa nx = some out) : x_Go tb th E m0 own nL ini xs L J (.dup2) pc v lv ws G out := by
  obtain ⟨hB, hC, hlo, hst, hfa, hI⟩ := id hS
  have hC : x_Cs cs v := hC
  dsimp only [x_step] at h
  split at h
  · split at h
    · cases h
    · rename_i hn
      cases h
      obtain ⟨w1, r1, rfl, g1, hs1⟩ := x_gs_cons hst
      obtain ⟨w2, r2, rfl, g2, hs2⟩ := x_gs_cons hs1
      exact ⟨_, List.mem_singleton.mpr rfl, v, lv, w1 :: w2 :: w1 :: w2 :: r2, G, x_ag.rf, by dsimp only [pm_step]; rw [if_pos ⟨x_g_cat g1 (fun z => hn (Or.inl z)), x_g_cat g2 (fun z => hn (Or.inr z))⟩], ⟨hB, hC, hlo, ⟨g1, g2, g1, g2, hs2⟩, hfa, hI⟩, x_eff.rf⟩
  · cases h
set_option maxHeartbeats 1000000 in
theorem xs_ifCond {c : ClassFile.Cond} {k : Int} (hS : x_S tb th v (cs, lo, st, fa, nx) lv ws G) (h : x_step tb E m0 own nL (.ifCond c k) pc cs lo st fa nx = some out) : x_Go tb th E m0 own nL ini xs L J (.ifCond c k) pc v lv ws G out := by
  obtain ⟨hB, hC, hlo, hst, hfa, hI⟩ := id hS
  have hC : x_Cs cs v := hC
  dsimp only [x_step] at h
  split at h
  · rename_i l r
    obtain ⟨w1, r1, rfl, g1, hs1⟩ := x_gs_cons hst
    obtain ⟨x, rfl, ex⟩ := x_g0 g1
    have hS1 : x_S tb th v (cs, lo, r, fa, nx) lv r1 G := ⟨hB, hC, hlo, hs1, hfa, hI⟩
    obtain ⟨q, q1, q2, q3⟩ := x_br_ok (x := x) (y := 0) (n0 := nx) hS1 (by have : (0 : Int32).toInt = 0 := rfl; omega) h
    exact ⟨q, q1, v, lv, _, G, x_ag.rf, q3, q2, x_eff.rf⟩
  · cases h
set_option maxHeartbeats 1000000 in
theorem xs_if_icmp {c : ClassFile.Cond} {k : Int} (hS : x_S tb th v (cs, lo, st, fa, nx) lv ws G) (h : x_step tb E m0 own nL (.if_icmp c k) pc cs lo st fa nx = some out) : x_Go tb th E m0 own nL ini xs L J (.if_icmp c k) pc v lv ws G out := by
  obtain ⟨hB, hC, hlo, hst, hfa, hI⟩ := id hS
  have hC : x_Cs cs v := hC
  dsimp only [x_step] at h
  split at h
  · rename_i ly lx r
    obtain ⟨w1, r1, rfl, g1, hs1⟩ := x_gs_cons hst
    obtain ⟨w2, r2, rfl, g2, hs2⟩ := x_gs_cons hs1
    obtain ⟨y, rfl, ey⟩ := x_g0 g1
    obtain ⟨x, rfl, ex⟩ := x_g0 g2
    have hS1 : x_S tb th v (cs, lo, r, fa, nx) lv r2 G := ⟨hB, hC, hlo, hs2, hfa, hI⟩
    obtain ⟨q, q1, q2, q3⟩ := x_br_ok (x := x) (y := y) (n0 := nx) hS1 (by rw [xl_sub_ev]; omega) h
    exact ⟨q, q1, v, lv, _, G, x_ag.rf, q3, q2, x_eff.rf⟩
  · cases h
set_option maxHeartbeats 1000000 in
theorem xs_goto {k : Int} (hS : x_S tb th v (cs, lo, st, fa, nx) lv ws G) (h : x_step tb E m0 own nL (.goto k) pc cs lo st fa nx = some out) : x_Go tb th E m0 own nL ini xs L J (.goto k) pc v lv ws G out := by
  obtain ⟨hB, hC, hlo, hst, hfa, hI⟩ := id hS
  have hC : x_Cs cs v := hC
  dsimp only [x_step] at h
  split at h
  · rename_i t ht
    cases h
    exact ⟨_, List.mem_singleton.mpr rfl, v, lv, _, G, x_ag.rf, by dsimp only [pm_step]; rw [ht], hS, x_eff.rf⟩
  · cases h
end XD
end
section
-- ===== the abstract step holds: cells, constants, switches =====
section XE
variable {tb : Nat → xT} {th : List Nat} {E : List (Nat × Nat × Nat)} {m0 own nL pc : Nat} {ini : Bool} {xs : Nat → Int32} {L J : Nat} {v : Nat → Int} {cs : List xL} {lo : List (Nat × xV)} {st : List xV} {fa : List xA} {nx : Nat} {lv : pL} {ws : List Value} {G : List pE} {out : List (Nat × xG)}
theorem x_idx_ok (hB : x_Bd v) (hC : x_Cs cs v) {l : xL} {n : Nat} {j : Int32} (h : x_idx cs l n = true) (hj : j.toInt = xl_ev l v) : ∃ k : Nat, k < n ∧ j.toNatClampNeg = k ∧ (k : Int) = xl_ev l v ∧ pm_bad j n = false ∧ x_lb cs l ≤ k ∧ (k : Int) ≤ x_ub cs l ∧ (x_lb cs l).toNat ≤ k ∧ k ≤ (x_ub cs l).toNat := by
  unfold x_idx at h
  rw [Bool.and_eq_true] at h
  have h1 := x_ent_ok hB hC h.1
  have h2 := x_ent_ok hB hC h.2
  rw [xl_sub_ev, xl_c_ev] at h2
  obtain ⟨k, k1, rfl, k3⟩ := x_of_nn (x := j) (by omega)
  have b1 := x_lb_ok hB hC l
  have b2 := x_lb_ok hB hC (xl_mul (-1) l)
  rw [xl_mul_ev] at b2
  have hcl : (nI k).toNatClampNeg = k := nI_clamp k1
  refine ⟨k, by omega, hcl, by omega, ?_, by omega, by unfold x_ub; omega, by omega, by unfold x_ub; omega⟩
  unfold pm_bad
  rw [hcl, decide_eq_false (by rw [Int32.lt_iff_toInt_lt]; show ¬ (nI k).toInt < 0; omega), decide_eq_false (by omega)]
  rfl
theorem x_arr_int {T : xT} {e : pE} (h : x_shape T e) (h1 : T.1 = 1) (hc : T.2.1 < 3) : ∃ f : Nat → Int32, e = .inl (T.2.1, T.2.2.1, .inl f) := by
  unfold x_shape at h
  split at h
  · omega
  · obtain ⟨-, rfl, rfl, -⟩ := h; exact ⟨_, rfl⟩
  · omega
  · omega
  · exact h.elim
theorem x_arr_long {T : xT} {e : pE} (h : x_shape T e) (h1 : T.1 = 1) (hc : T.2.1 = 3) : ∃ f : Nat → Int64, e = .inl (3, T.2.2.1, .inr (.inl f)) := by
  unfold x_shape at h
  split at h
  · omega
  · omega
  · obtain ⟨-, h2, rfl, rfl⟩ := h; exact ⟨_, rfl⟩
  · omega
  · exact h.elim
theorem x_arr_ref {T : xT} {e : pE} (h : x_shape T e) (h1 : T.1 = 1) (hc : 4 ≤ T.2.1) : T.2.1 ≤ 9 ∧ ∃ g : Nat → Option Nat, e = .inl (T.2.1, T.2.2.1, .inr (.inr (.inr (.inr g)))) := by
  unfold x_shape at h
  split at h
  · omega
  · omega
  · omega
  · obtain ⟨-, rfl, rfl, -, h9⟩ := h; exact ⟨h9, _, rfl⟩
  · exact h.elim
theorem x_obj {T : xT} {e : pE} (h : x_shape T e) (h1 : T.1 = 0) : ∃ fs : List Value, e = .inr (T.2.1, fs) ∧ fs.length = T.2.2.1 := by
  unfold x_shape at h
  split at h
  · obtain ⟨-, rfl, h3⟩ := h; exact ⟨_, rfl, h3⟩
  · omega
  · omega
  · omega
  · exact h.elim
theorem x_over_mem {lw hi : Int} {f : xF} : ∀ (r : List (Nat × xF)) (off : Int) (i : Nat), x_at r i = some f → lw ≤ off + i → off + i ≤ hi → f ∈ x_over lw hi off r
  | [], _, _, h, _, _ => by cases h
  | q :: r, off, i, h, h1, h2 => by
    unfold x_at at h
    unfold x_over
    split at h
    · rename_i hi0
      cases h
      rw [if_neg (by omega)]
      exact List.mem_cons_self
    · rename_i hi0
      have ih := x_over_mem (lw := lw) (hi := hi) r (off + q.1) (i - q.1) h (by omega) (by omega)
      split
      · exact ih
      · exact List.mem_cons_of_mem _ ih
theorem x_min_le {f : xF} : ∀ {l : List xF}, f ∈ l → x_min l ≤ f.2.1
  | [], h => by cases h
  | g :: r, h => by
    unfold x_min
    rcases List.mem_cons.mp h with rfl | h
    · split <;> omega
    · have := x_min_le h
      split <;> omega
theorem x_max_ge {f : xF} : ∀ {l : List xF}, f ∈ l → f.2.2 ≤ x_max l
  | [], h => by cases h
  | g :: r, h => by
    unfold x_max
    rcases List.mem_cons.mp h with rfl | h
    · split <;> omega
    · have := x_max_ge h
      split <;> omega
theorem x_ald_ok {m0 pc' t b k n0 : Nat} {full st' : List xV} {j : xL} {rest : List Value} {x : Int32} (hT : x_wf tb) (hS : x_S tb th v (cs, lo, full, fa, n0) lv ws G) (h : x_ald tb m0 pc' cs lo full st' fa nx t j = some out) (ht : th[b]? = some t) (hk : k < (tb t).2.2.1) (hw : x_sl G b k = some (.int x)) (h1 : x_lb cs j ≤ k) (h2 : (k : Int) ≤ x_ub cs j) (hp : ∀ v', x_S tb th v' (cs, lo, full, fa, n0) lv ws G → x_gs th v' st' rest) : ∃ q ∈ out, ∃ v', x_ag m0 v v' ∧ q.1 = pc' ∧ x_S tb th v' q.2 lv (.int x :: rest) G := by
  unfold x_ald at h
  split at h
  · rename_i hall
    obtain ⟨f, hf⟩ := hT t k hk
    obtain ⟨w, g1, g2⟩ := (hS.2.2.2.2.2.2.2 b t ht).2 k f hf
    rw [hw] at g1
    cases g1
    have hm := x_over_mem (lw := x_lb cs j) (hi := x_ub cs j) _ 0 k hf (by omega) (by omega)
    have h0 : f.1 = 0 := by simpa using List.all_eq_true.mp hall f hm
    unfold xf_ok at g2
    rw [h0] at g2
    obtain ⟨y, hy, b1, b2⟩ := g2
    cases hy
    have m1 := x_min_le hm
    have m2 := x_max_ge hm
    refine x_hv_ok hS h x (fun v' hS' hv' => ⟨?_, hp v' hS'⟩)
    intro c hc
    rcases List.mem_cons.mp hc with rfl | hc
    · rw [xl_add_ev, xl_s_ev, xl_c_ev, hv']
      omega
    · rw [List.mem_singleton.mp hc, xl_sub_ev, xl_s_ev, xl_c_ev, hv']
      omega
  · cases h
theorem x_tab_ok {l : xL} {x : Int32} (hS : x_S tb th v (cs, lo, st, fa, nx) lv ws G) (hx : x.toInt = xl_ev l v) : ∀ (os : List Int) (k : Int) (out : List (Nat × xG)), x_tab pc l cs lo st fa nx k os = some out → ∀ n : Nat, n < os.length → x.toInt = k + n → ∃ q ∈ out, ∃ o', os[n]? = some o' ∧ pm_tgt pc o' = some q.1 ∧ x_S tb th v q.2 lv ws G
  | [], _, _, _, n, hn, _ => by simp at hn
  | o' :: os, k, out, h, n, hn, hk => by
    unfold x_tab at h
    split at h
    · rename_i t r ht hr
      cases h
      cases n with
      | zero =>
        obtain ⟨d, hd, hv⟩ := x_cnd_ok (v := v) (c := .eq) (l := xl_add l (xl_c (-k))) (x := x) (y := x) (by rw [xl_add_ev, xl_c_ev]; omega) (by simp [pm_holds])
        obtain ⟨q, q1, q2, q3⟩ := x_brs_ok (pc := t) (nx := nx) hS hd hv
        exact ⟨q, List.mem_append_left _ q1, o', rfl, by rw [q2]; exact ht, q3⟩
      | succ n =>
        obtain ⟨q, q1, o2, q2, q3, q4⟩ := x_tab_ok hS hx os (k + 1) r hr n (by simpa using hn) (by omega)
        exact ⟨q, List.mem_append_right _ q1, o2, q2, q3, q4⟩
    · cases h
theorem x_lkt_ok {l : xL} {x : Int32} {d : Int} (hS : x_S tb th v (cs, lo, st, fa, nx) lv ws G) (hx : x.toInt = xl_ev l v) : ∀ (ps : List (Int × Int)) (out : List (Nat × xG)), x_lkt pc l cs lo st fa nx ps = some out → (∃ q ∈ out, pm_tgt pc (Op.lookupswitch.offset ps d x.toInt) = some q.1 ∧ x_S tb th v q.2 lv ws G) ∨ Op.lookupswitch.offset ps d x.toInt = d
  | [], _, _ => Or.inr rfl
  | p :: ps, out, h => by
    unfold x_lkt at h
    split at h
    · rename_i t r ht hr
      cases h
      obtain ⟨pa, po⟩ := p
      rw [Op.lookupswitch.offset_cons]
      by_cases hp : x.toInt = pa
      · rw [if_pos (by first | exact hp | exact hp.symm | simp [hp])]
        obtain ⟨d, hd, hv⟩ := x_cnd_ok (v := v) (c := .eq) (l := xl_add l (xl_c (-pa))) (x := x) (y := x) (by rw [xl_add_ev, xl_c_ev]; omega) (by simp [pm_holds])
        obtain ⟨q, q1, q2, q3⟩ := x_brs_ok (pc := t) (nx := nx) hS hd hv
        exact Or.inl ⟨q, List.mem_append_left _ q1, by rw [q2]; exact ht, q3⟩
      · rw [if_neg (by first | exact hp | exact fun z => hp z.symm | simp [hp])]
        rcases x_lkt_ok (d := d) hS hx ps r hr with ⟨q, q1, q2, q3⟩ | h
        · exact Or.inl ⟨q, List.mem_append_right _ q1, q2, q3⟩
        · exact Or.inr h
    · cases h
set_option maxHeartbeats 1000000 in
theorem xs_ldc {k : Nat} (hS : x_S tb th v (cs, lo, st, fa, nx) lv ws G) (h : x_step tb E m0 own nL (.ldc k) pc cs lo st fa nx = some out) : x_Go tb th E m0 own nL ini xs L J (.ldc k) pc v lv ws G out := by
  obtain ⟨hB, hC, hlo, hst, hfa, hI⟩ := id hS
  have hC : x_Cs cs v := hC
  dsimp only [x_step] at h
  split at h
  · rename_i r hf
    cases h
    exact ⟨_, List.mem_singleton.mpr rfl, v, lv, _, G, x_ag.rf, by dsimp only [pm_step]; rw [hf], x_psh hS ⟨_, rfl, by rw [xl_c_ev]⟩ hst, x_eff.rf⟩
  · cases h
set_option maxHeartbeats 1000000 in
theorem xs_ldc_w {k : Nat} (hS : x_S tb th v (cs, lo, st, fa, nx) lv ws G) (h : x_step tb E m0 own nL (.ldc_w k) pc cs lo st fa nx = some out) : x_Go tb th E m0 own nL ini xs L J (.ldc_w k) pc v lv ws G out := by
  obtain ⟨hB, hC, hlo, hst, hfa, hI⟩ := id hS
  have hC : x_Cs cs v := hC
  dsimp only [x_step] at h
  split at h
  · rename_i r hf
    cases h
    exact ⟨_, List.mem_singleton.mpr rfl, v, lv, _, G, x_ag.rf, by dsimp only [pm_step]; rw [hf], x_psh hS ⟨_, rfl, by rw [xl_c_ev]⟩ hst, x_eff.rf⟩
  · cases h
set_option maxHeartbeats 1000000 in
theorem xs_ldc2_w {k : Nat} (hS : x_S tb th v (cs, lo, st, fa, nx) lv ws G) (h : x_step tb E m0 own nL (.ldc2_w k) pc cs lo st fa nx = some out) : x_Go tb th E m0 own nL ini xs L J (.ldc2_w k) pc v lv ws G out := by
  obtain ⟨hB, hC, hlo, hst, hfa, hI⟩ := id hS
  have hC : x_Cs cs v := hC
  dsimp only [x_step] at h
  split at h
  · rename_i r hf
    cases h
    exact ⟨_, List.mem_singleton.mpr rfl, v, lv, _, G, x_ag.rf, by dsimp only [pm_step]; rw [hf], x_psh hS ⟨_, rfl⟩ hst, x_eff.rf⟩
  · cases h
set_option maxHeartbeats 1000000 in
theorem xs_getstatic {k : Nat} (hS : x_S tb th v (cs, lo, st, fa, nx) lv ws G) (h : x_step tb E m0 own nL (.getstatic k) pc cs lo st fa nx = some out) : x_Go tb th E m0 own nL ini xs L J (.getstatic k) pc v lv ws G out := by
  obtain ⟨hB, hC, hlo, hst, hfa, hI⟩ := id hS
  have hC : x_Cs cs v := hC
  dsimp only [x_step] at h
  split at h
  · rename_i r hf
    cases h
    by_cases hlt : r.2.2.1 < 35
    · exact ⟨_, List.mem_singleton.mpr rfl, v, lv, .ref (pm_TB + r.2.2.1) :: ws, G, x_ag.rf, by dsimp only [pm_step]; rw [hf]; dsimp only; rw [if_pos hlt], x_psh hS (by rw [if_pos hlt]; exact ⟨_, rfl, by simp [pm_isTok, hlt]⟩) hst, x_eff.rf⟩
    · exact ⟨_, List.mem_singleton.mpr rfl, v, lv, .ref pm_KB :: ws, G, x_ag.rf, by dsimp only [pm_step]; rw [hf]; dsimp only; rw [if_neg hlt], x_psh hS (by rw [if_neg hlt]; rfl) hst, x_eff.rf⟩
  · cases h
set_option maxHeartbeats 1000000 in
theorem xs_if_acmp {c : ACond} {k : Int} (hS : x_S tb th v (cs, lo, st, fa, nx) lv ws G) (h : x_step tb E m0 own nL (.if_acmp c k) pc cs lo st fa nx = some out) : x_Go tb th E m0 own nL ini xs L J (.if_acmp c k) pc v lv ws G out := by
  obtain ⟨hB, hC, hlo, hst, hfa, hI⟩ := id hS
  have hC : x_Cs cs v := hC
  dsimp only [x_step] at h
  split at h
  · rename_i a b r
    obtain ⟨w1, r1, rfl, g1, hs1⟩ := x_gs_cons hst
    obtain ⟨w2, r2, rfl, g2, hs2⟩ := x_gs_cons hs1
    split at h
    · rename_i hk
      split at h
      · rename_i t ht
        cases h
        have fin : ∀ bb : Bool, ∃ q ∈ [(t, ((cs, lo, r, fa, nx) : xG)), (pc + 3, ((cs, lo, r, fa, nx) : xG))], pm_if bb pc k lv r2 G = some (q.1, lv, r2, G, 0, 0) ∧ x_S tb th v q.2 lv r2 G := by
          intro bb
          unfold pm_if
          rw [ht]
          cases bb
          · exact ⟨_, List.mem_cons_of_mem _ List.mem_cons_self, rfl, hB, hC, hlo, hs2, hfa, hI⟩
          · exact ⟨_, List.mem_cons_self, rfl, hB, hC, hlo, hs2, hfa, hI⟩
        obtain ⟨ak, al⟩ := a
        obtain ⟨bk, bl⟩ := b
        rcases hk with ⟨h1, h2⟩ | ⟨h1, h2⟩ | ⟨h1, h2⟩
        · obtain rfl : ak = 3 := h1
          obtain rfl : bk = 3 := h2
          obtain ⟨k1, rfl, t1⟩ := g1
          obtain ⟨k2, rfl, t2⟩ := g2
          obtain ⟨q, q1, q2, q3⟩ := fin _
          exact ⟨q, q1, v, lv, r2, G, x_ag.rf, by dsimp only [pm_step]; rw [if_pos (by rw [t1, t2]; rfl)]; exact q2, q3, x_eff.rf⟩
        · obtain rfl : ak = 3 := h1
          obtain rfl : bk = 4 := h2
          obtain ⟨k1, rfl, t1⟩ := g1
          rcases g2 with rfl | ⟨k2, rfl, t2⟩
          · obtain ⟨q, q1, q2, q3⟩ := fin _
            exact ⟨q, q1, v, lv, r2, G, x_ag.rf, q2, q3, x_eff.rf⟩
          · obtain ⟨q, q1, q2, q3⟩ := fin _
            exact ⟨q, q1, v, lv, r2, G, x_ag.rf, by dsimp only [pm_step]; rw [if_pos (by rw [t1, t2]; rfl)]; exact q2, q3, x_eff.rf⟩
        · obtain rfl : ak = 4 := h1
          obtain rfl : bk = 3 := h2
          obtain ⟨k2, rfl, t2⟩ := g2
          rcases g1 with rfl | ⟨k1, rfl, t1⟩
          · obtain ⟨q, q1, q2, q3⟩ := fin _
            exact ⟨q, q1, v, lv, r2, G, x_ag.rf, q2, q3, x_eff.rf⟩
          · obtain ⟨q, q1, q2, q3⟩ := fin _
            exact ⟨q, q1, v, lv, r2, G, x_ag.rf, by dsimp only [pm_step]; rw [if_pos (by rw [t1, t2]; rfl)]; exact q2, q3, x_eff.rf⟩
      · cases h
    · cases h
  · cases h
set_option maxHeartbeats 1000000 in
theorem xs_tableswitch {d lw hi : Int} {offs : Array Int} (hS : x_S tb th v (cs, lo, st, fa, nx) lv ws G) (h : x_step tb E m0 own nL (.tableswitch d lw hi offs) pc cs lo st fa nx = some out) : x_Go tb th E m0 own nL ini xs L J (.tableswitch d lw hi offs) pc v lv ws G out := by
  obtain ⟨hB, hC, hlo, hst, hfa, hI⟩ := id hS
  have hC : x_Cs cs v := hC
  dsimp only [x_step] at h
  split at h
  · rename_i l r
    obtain ⟨w1, r1, rfl, g1, hs1⟩ := x_gs_cons hst
    obtain ⟨x, rfl, ex⟩ := x_g0 g1
    have hS1 : x_S tb th v (cs, lo, r, fa, nx) lv r1 G := ⟨hB, hC, hlo, hs1, hfa, hI⟩
    split at h
    · rename_i t q0 ht hq0
      split at h
      · rename_i hhi
        cases h
        by_cases hlow : x.toInt < lw
        · obtain ⟨dd, hd, hv⟩ : ∃ dd ∈ x_cnd .lt (xl_add l (xl_c (-lw))), x_Cs dd v := ⟨_, List.mem_singleton.mpr rfl, fun c hc => by rw [List.mem_singleton.mp hc, xl_add_ev, xl_mul_ev, xl_add_ev, xl_c_ev, xl_c_ev]; omega⟩
          obtain ⟨q, q1, q2, q3⟩ := x_brs_ok (pc := t) (nx := nx) hS1 hd hv
          exact ⟨q, List.mem_append_left _ q1, v, lv, r1, G, x_ag.rf, by dsimp only [pm_step]; rw [if_pos (Or.inl hlow), ht, q2], q3, x_eff.rf⟩
        · by_cases hhigh : hi < x.toInt
          · obtain ⟨dd, hd, hv⟩ : ∃ dd ∈ x_cnd .gt (xl_add l (xl_c (-hi))), x_Cs dd v := ⟨_, List.mem_singleton.mpr rfl, fun c hc => by rw [List.mem_singleton.mp hc, xl_add_ev, xl_add_ev, xl_c_ev, xl_c_ev]; omega⟩
            obtain ⟨q, q1, q2, q3⟩ := x_brs_ok (pc := t) (nx := nx) hS1 hd hv
            exact ⟨q, List.mem_append_right _ (List.mem_append_left _ q1), v, lv, r1, G, x_ag.rf, by dsimp only [pm_step]; rw [if_pos (Or.inr hhigh), ht, q2], q3, x_eff.rf⟩
          · obtain ⟨q, q1, o2, q2, q3, q4⟩ := x_tab_ok hS1 ex _ _ _ hq0 (x.toInt - lw).toNat (by omega) (by omega)
            have q2b : offs[(x.toInt - lw).toNat]? = some o2 := by rw [← Array.getElem?_toList]; exact q2
            exact ⟨q, List.mem_append_right _ (List.mem_append_right _ q1), v, lv, r1, G, x_ag.rf, by dsimp only [pm_step]; rw [if_neg (fun z => z.elim hlow hhigh), q2b]; dsimp only; rw [q3], q4, x_eff.rf⟩
      · cases h
    · cases h
  · cases h
set_option maxHeartbeats 1000000 in
theorem xs_lookupswitch {d : Int} {ps : Array (Int × Int)} (hS : x_S tb th v (cs, lo, st, fa, nx) lv ws G) (h : x_step tb E m0 own nL (.lookupswitch d ps) pc cs lo st fa nx = some out) : x_Go tb th E m0 own nL ini xs L J (.lookupswitch d ps) pc v lv ws G out := by
  obtain ⟨hB, hC, hlo, hst, hfa, hI⟩ := id hS
  have hC : x_Cs cs v := hC
  dsimp only [x_step] at h
  split at h
  · rename_i l r
    obtain ⟨w1, r1, rfl, g1, hs1⟩ := x_gs_cons hst
    obtain ⟨x, rfl, ex⟩ := x_g0 g1
    have hS1 : x_S tb th v (cs, lo, r, fa, nx) lv r1 G := ⟨hB, hC, hlo, hs1, hfa, hI⟩
    split at h
    · rename_i t q0 ht hq0
      split at h
      · rename_i hso
        cases h
        rcases x_lkt_ok (d := d) hS1 ex _ _ hq0 with ⟨q, q1, q2, q3⟩ | hdef
        · exact ⟨q, List.mem_cons_of_mem _ q1, v, lv, r1, G, x_ag.rf, by dsimp only [pm_step]; rw [if_pos hso, q2], q3, x_eff.rf⟩
        · exact ⟨_, List.mem_cons_self, v, lv, r1, G, x_ag.rf, by dsimp only [pm_step]; rw [if_pos hso, hdef, ht], hS1, x_eff.rf⟩
      · cases h
    · cases h
  · cases h
set_option maxHeartbeats 1000000 in
theorem xs_getfield {k : Nat} (hS : x_S tb th v (cs, lo, st, fa, nx) lv ws G) (h : x_step tb E m0 own nL (.getfield k) pc cs lo st fa nx = some out) : x_Go tb th E m0 own nL ini xs L J (.getfield k) pc v lv ws G out := by
  obtain ⟨hB, hC, hlo, hst, hfa, hI⟩ := id hS
  have hC : x_Cs cs v := hC
  dsimp only [x_step] at h
  split at h
  · rename_i a r
    obtain ⟨w1, r1, rfl, g1, hs1⟩ := x_gs_cons hst
    split at h
    · rename_i h3
      split at h
      · rename_i hok
        cases h
        obtain ⟨ak, al⟩ := a
        obtain rfl : ak = 3 := h3
        obtain ⟨b, rfl, tk⟩ := g1
        exact ⟨_, List.mem_singleton.mpr rfl, v, lv, _, G, x_ag.rf, by dsimp only [pm_step]; rw [if_pos tk, if_pos hok], x_psh hS ⟨_, rfl⟩ hs1, x_eff.rf⟩
      · cases h
    · split at h
      · rename_i h10
        split at h
        · rename_i q hf
          split at h
          · rename_i hty
            obtain ⟨b, rfl, eb, tb1⟩ := x_g_cell g1 h10
            obtain ⟨e, he, hsh⟩ := (hI.2.2 b _ tb1).1
            obtain ⟨fs, rfl, hlen⟩ := x_obj hsh hty.1
            have hnt := (hI.cell tb1).2.1
            cases hv0 : fs[q.2.2.2.1]? with
            | none =>
              exfalso
              unfold x_rd at h
              split at h
              · rename_i f0 hf0
                have hz := List.find?_some hf0
                simp only [Bool.and_eq_true, beq_iff_eq, decide_eq_true_eq] at hz
                obtain ⟨a2, z1, z2, w2, z3, -⟩ := hfa f0 (List.mem_of_find?_eq_some hf0)
                rw [hz.2, ← eb] at z1
                have hab : a2 = b := by omega
                rw [hab, hz.1.2] at z3
                unfold x_sl at z3
                rw [he] at z3
                have z3 : fs[q.2.2.2.1]? = some w2 := z3
                rw [hv0] at z3
                cases z3
              · split at h
                · rename_i f0 hf0
                  obtain ⟨w2, z3, -⟩ := (hI.2.2 b _ tb1).2 _ _ hf0
                  unfold x_sl at z3
                  rw [he] at z3
                  have z3 : fs[q.2.2.2.1]? = some w2 := z3
                  rw [hv0] at z3
                  cases z3
                · cases h
            | some w0 =>
              have hsl : x_sl G b q.2.2.2.1 = some w0 := by unfold x_sl; rw [he]; exact hv0
              obtain ⟨o1, o2, v', o3, o4, o5⟩ := x_rd_ok (rest := r1) hS h eb tb1 hsl ⟨a, List.mem_cons_self, rfl⟩ (fun v' hS' => hS'.2.2.2.1.2)
              exact ⟨o1, o2, v', lv, _, G, o3, by dsimp only [pm_step]; rw [if_neg (by rw [hnt]; decide), hf]; dsimp only; rw [he]; dsimp only; rw [if_pos hty.2, hv0, o4], o5, x_eff.rf⟩
          · cases h
        · cases h
      · cases h
  · cases h
set_option maxHeartbeats 1000000 in
theorem xs_putfield {k : Nat} (hS : x_S tb th v (cs, lo, st, fa, nx) lv ws G) (h : x_step tb E m0 own nL (.putfield k) pc cs lo st fa nx = some out) : x_Go tb th E m0 own nL ini xs L J (.putfield k) pc v lv ws G out := by
  obtain ⟨hB, hC, hlo, hst, hfa, hI⟩ := id hS
  have hC : x_Cs cs v := hC
  dsimp only [x_step] at h
  split at h
  · rename_i a b r
    obtain ⟨w1, r1, rfl, g1, hs1⟩ := x_gs_cons hst
    obtain ⟨w2, r2, rfl, g2, hs2⟩ := x_gs_cons hs1
    split at h
    · rename_i h10
      split at h
      · rename_i q hf
        split at h
        · rename_i f hfa1
          split at h
          · rename_i hok
            cases h
            obtain ⟨k1, k2, k3, k4, k5, k6, k7⟩ := hok
            obtain ⟨c, rfl, ec, tc⟩ := x_g_cell g2 h10
            obtain ⟨e, he, hsh⟩ := (hI.2.2 c _ tc).1
            obtain ⟨fs, rfl, hlen⟩ := x_obj hsh k1
            have hfit := x_fit_ok hB hC k6 g1
            obtain ⟨j1, j2⟩ := x_jty_ok k5 hfit
            have hlt : q.2.2.2.1 < fs.length := by omega
            have hu := x_upd_put (v := w1) he hlt
            obtain ⟨q9, e1, e2, e3, e4⟩ := x_cov_ok k7
            refine ⟨_, List.mem_singleton.mpr rfl, v, lv, r2, _, x_ag.rf, ?_, ⟨hB, hC, hlo, hs2, fun f9 hf9 => ?_, hI.upd hu tc (fun f8 h8 => ?_)⟩, x_eff.upd hu tc e1 e2 e3 e4⟩
            · dsimp only [pm_step]
              rw [hf]
              dsimp only
              rw [he]
              dsimp only
              rw [k2, if_pos ⟨rfl, hlt, j1, j2, fun z => by rw [k4] at z; cases z⟩]
            · rcases List.mem_cons.mp hf9 with rfl | hf9
              · exact ⟨c, ec, tc, w1, by rw [hu.2.1]; simp, g1⟩
              · exact x_kill_ok hu tc (Nat.le_refl _) (Nat.le_refl _) hfa f9 hf9
            · rw [hfa1] at h8
              cases h8
              exact hfit
          · cases h
        · cases h
      · cases h
    · cases h
  · cases h
set_option maxHeartbeats 1000000 in
theorem xs_iaload  (hT : x_wf tb) (hS : x_S tb th v (cs, lo, st, fa, nx) lv ws G) (h : x_step tb E m0 own nL (.iaload) pc cs lo st fa nx = some out) : x_Go tb th E m0 own nL ini xs L J (.iaload) pc v lv ws G out := by
  obtain ⟨hB, hC, hlo, hst, hfa, hI⟩ := id hS
  have hC : x_Cs cs v := hC
  dsimp only [x_step] at h
  split at h
  · rename_i lj b r
    obtain ⟨w1, r1, rfl, g1, hs1⟩ := x_gs_cons hst
    obtain ⟨w2, r2, rfl, g2, hs2⟩ := x_gs_cons hs1
    split at h
    · rename_i hk
      obtain ⟨j, rfl, ej⟩ := x_g0 g1
      obtain ⟨c, rfl, ec, tc⟩ := x_g_cell g2 hk.1
      obtain ⟨e, he, hsh⟩ := (hI.2.2 c _ tc).1
      obtain ⟨n, n1, n2, n3, n4, n5, n6, n7, n8⟩ := x_idx_ok hB hC hk.2.2.2 ej
      obtain ⟨f, rfl⟩ := x_arr_int hsh hk.2.1 (by omega)
      have hsl : x_sl G c n = some (.int (f n)) := by unfold x_sl; rw [he]; show (if n < _ then _ else _) = _; rw [if_pos n1]
      have hpm : pm_step own nL ini xs L J .iaload pc lv (.int j :: .ref c :: r2) G = some (pc + 1, lv, .int (f n) :: r2, G, 0, 0) := by
        dsimp only [pm_step]
        rw [if_neg (hI.cell tc).2.2.1, he, hk.2.2.1]
        show (if pm_bad j _ = true then none else some (pc + 1, lv, Value.int (f j.toNatClampNeg) :: r2, G, 0, 0)) = _
        rw [n4, n2]
        rfl
      split at h
      · rename_i hj0
        have hn : lj.2.toNat = n := by
          have : xl_ev lj v = lj.2 := by unfold xl_ev; rw [hj0]; simp [xt_ev]
          omega
        rw [hn] at h
        obtain ⟨o1, o2, v', o3, o4, o5⟩ := x_rd_ok (rest := r2) hS h ec tc hsl ⟨b, List.mem_cons_of_mem _ List.mem_cons_self, rfl⟩ (fun v' hS' => hS'.2.2.2.1.2.2)
        exact ⟨o1, o2, v', lv, _, G, o3, by rw [o4]; exact hpm, o5, x_eff.rf⟩
      · obtain ⟨o1, o2, v', o3, o4, o5⟩ := x_ald_ok (rest := r2) hT hS h tc n1 hsl n5 n6 (fun v' hS' => hS'.2.2.2.1.2.2)
        exact ⟨o1, o2, v', lv, _, G, o3, by rw [o4]; exact hpm, o5, x_eff.rf⟩
    · cases h
  · cases h
set_option maxHeartbeats 1000000 in
theorem xs_baload  (hT : x_wf tb) (hS : x_S tb th v (cs, lo, st, fa, nx) lv ws G) (h : x_step tb E m0 own nL (.baload) pc cs lo st fa nx = some out) : x_Go tb th E m0 own nL ini xs L J (.baload) pc v lv ws G out := by
  obtain ⟨hB, hC, hlo, hst, hfa, hI⟩ := id hS
  have hC : x_Cs cs v := hC
  dsimp only [x_step] at h
  split at h
  · rename_i lj b r
    obtain ⟨w1, r1, rfl, g1, hs1⟩ := x_gs_cons hst
    obtain ⟨w2, r2, rfl, g2, hs2⟩ := x_gs_cons hs1
    split at h
    · rename_i hk
      obtain ⟨j, rfl, ej⟩ := x_g0 g1
      obtain ⟨c, rfl, ec, tc⟩ := x_g_cell g2 hk.1
      obtain ⟨e, he, hsh⟩ := (hI.2.2 c _ tc).1
      obtain ⟨n, n1, n2, n3, n4, n5, n6, n7, n8⟩ := x_idx_ok hB hC hk.2.2.2 ej
      obtain ⟨f, rfl⟩ := x_arr_int hsh hk.2.1 (by omega)
      have hsl : x_sl G c n = some (.int (f n)) := by unfold x_sl; rw [he]; show (if n < _ then _ else _) = _; rw [if_pos n1]
      have hpm : pm_step own nL ini xs L J .baload pc lv (.int j :: .ref c :: r2) G = some (pc + 1, lv, .int (f n) :: r2, G, 0, 0) := by
        dsimp only [pm_step]
        rw [he]
        rcases hk.2.2.1 with hc | hc <;> (rw [hc]; show (if pm_bad j _ = true then none else some (pc + 1, lv, Value.int (f j.toNatClampNeg) :: r2, G, 0, 0)) = _; rw [n4, n2]; rfl)
      obtain ⟨o1, o2, v', o3, o4, o5⟩ := x_ald_ok (rest := r2) hT hS h tc n1 hsl n5 n6 (fun v' hS' => hS'.2.2.2.1.2.2)
      exact ⟨o1, o2, v', lv, _, G, o3, by rw [o4]; exact hpm, o5, x_eff.rf⟩
    · cases h
  · cases h
set_option maxHeartbeats 1000000 in
theorem xs_laload  (hS : x_S tb th v (cs, lo, st, fa, nx) lv ws G) (h : x_step tb E m0 own nL (.laload) pc cs lo st fa nx = some out) : x_Go tb th E m0 own nL ini xs L J (.laload) pc v lv ws G out := by
  obtain ⟨hB, hC, hlo, hst, hfa, hI⟩ := id hS
  have hC : x_Cs cs v := hC
  dsimp only [x_step] at h
  split at h
  · rename_i lj b r
    obtain ⟨w1, r1, rfl, g1, hs1⟩ := x_gs_cons hst
    obtain ⟨w2, r2, rfl, g2, hs2⟩ := x_gs_cons hs1
    split at h
    · rename_i hk
      cases h
      obtain ⟨j, rfl, ej⟩ := x_g0 g1
      obtain ⟨c, rfl, ec, tc⟩ := x_g_cell g2 hk.1
      obtain ⟨e, he, hsh⟩ := (hI.2.2 c _ tc).1
      obtain ⟨n, n1, n2, n3, n4, -⟩ := x_idx_ok hB hC hk.2.2.2 ej
      obtain ⟨f, rfl⟩ := x_arr_long hsh hk.2.1 hk.2.2.1
      exact ⟨_, List.mem_singleton.mpr rfl, v, lv, .long (f n) :: r2, G, x_ag.rf, by dsimp only [pm_step]; rw [he]; show (if pm_bad j _ = true then none else some (pc + 1, lv, Value.long (f j.toNatClampNeg) :: r2, G, 0, 0)) = _; rw [n4, n2]; rfl, x_psh hS ⟨_, rfl⟩ hs2, x_eff.rf⟩
    · cases h
  · cases h
set_option maxHeartbeats 1000000 in
theorem xs_arraylength  (hS : x_S tb th v (cs, lo, st, fa, nx) lv ws G) (h : x_step tb E m0 own nL (.arraylength) pc cs lo st fa nx = some out) : x_Go tb th E m0 own nL ini xs L J (.arraylength) pc v lv ws G out := by
  obtain ⟨hB, hC, hlo, hst, hfa, hI⟩ := id hS
  have hC : x_Cs cs v := hC
  dsimp only [x_step] at h
  split at h
  · rename_i b r
    obtain ⟨w1, r1, rfl, g1, hs1⟩ := x_gs_cons hst
    split at h
    · rename_i h5
      cases h
      obtain ⟨bk, bl⟩ := b
      obtain rfl : bk = 5 := h5
      obtain rfl : w1 = .ref pm_KB := g1
      exact ⟨_, List.mem_singleton.mpr rfl, v, lv, .int (Int32.ofNat 35) :: r1, G, x_ag.rf, by dsimp only [pm_step]; rw [if_neg (by decide), if_pos rfl], x_psh hS ⟨_, rfl, by rw [xl_c_ev]; rfl⟩ hs1, x_eff.rf⟩
    · split at h
      · rename_i hk
        cases h
        obtain ⟨c, rfl, ec, tc⟩ := x_g_cell g1 hk.1
        obtain ⟨e, he, hsh⟩ := (hI.2.2 c _ tc).1
        obtain ⟨-, -, n1, n2⟩ := hI.cell tc
        have hlen : ∃ t0 x0, e = .inl (t0, x0) ∧ t0 < 10 ∧ x0.1 = (tb (b.1 - 10)).2.2.1 := by
          unfold x_shape at hsh
          split at hsh
          · omega
          · exact ⟨_, _, rfl, by omega, hsh.2.2.1⟩
          · exact ⟨_, _, rfl, by omega, hsh.2.2.1⟩
          · exact ⟨_, _, rfl, by omega, hsh.2.2.1⟩
          · exact hsh.elim
        obtain ⟨t0, x0, rfl, ht0, hx0⟩ := hlen
        exact ⟨_, List.mem_singleton.mpr rfl, v, lv, .int (Int32.ofNat x0.1) :: r1, G, x_ag.rf, by dsimp only [pm_step]; rw [if_neg n1, if_neg n2, he]; dsimp only; rw [if_pos ht0], x_psh hS ⟨_, rfl, by rw [xl_c_ev, hx0]; exact nI_toInt (by omega)⟩ hs1, x_eff.rf⟩
      · cases h
  · cases h
end XE
end
section
-- ===== the abstract step holds: arrays written; all steps =====
section XF
variable {tb : Nat → xT} {th : List Nat} {E : List (Nat × Nat × Nat)} {m0 own nL pc : Nat} {ini : Bool} {xs : Nat → Int32} {L J : Nat} {v : Nat → Int} {cs : List xL} {lo : List (Nat × xV)} {st : List xV} {fa : List xA} {nx : Nat} {lv : pL} {ws : List Value} {G : List pE} {out : List (Nat × xG)}
theorem x_one_at {r : List (Nat × xF)} {f g : xF} {i : Nat} (h : x_one r = some f) (hi : x_at r i = some g) : g = f := by
  unfold x_one at h
  split at h
  · cases h
    unfold x_at at hi
    split at hi
    · cases hi; rfl
    · unfold x_at at hi
      cases hi
  · cases h
theorem x_nar_bool (x : Int32) : 0 ≤ (vp_nar .boolean x).toInt ∧ (vp_nar .boolean x).toInt ≤ 1 := by
  have h : vp_nar .boolean x = x &&& 1 := rfl
  rw [h]
  have := x_and_le (x := x) (y := 1) (by decide)
  exact this
set_option maxHeartbeats 1000000 in
theorem xs_aaload  (hT : x_wf tb) (hS : x_S tb th v (cs, lo, st, fa, nx) lv ws G) (h : x_step tb E m0 own nL (.aaload) pc cs lo st fa nx = some out) : x_Go tb th E m0 own nL ini xs L J (.aaload) pc v lv ws G out := by
  obtain ⟨hB, hC, hlo, hst, hfa, hI⟩ := id hS
  have hC : x_Cs cs v := hC
  dsimp only [x_step] at h
  split at h
  · rename_i lj b r
    obtain ⟨w1, r1, rfl, g1, hs1⟩ := x_gs_cons hst
    obtain ⟨w2, r2, rfl, g2, hs2⟩ := x_gs_cons hs1
    obtain ⟨j, rfl, ej⟩ := x_g0 g1
    split at h
    · rename_i h5
      split at h
      · rename_i hix
        cases h
        obtain ⟨bk, bl⟩ := b
        obtain rfl : bk = 5 := h5
        obtain rfl : w2 = .ref pm_KB := g2
        obtain ⟨n, n1, n2, n3, n4, -⟩ := x_idx_ok (cs := cs) hB hC hix ej
        exact ⟨_, List.mem_singleton.mpr rfl, v, lv, .ref (pm_TB + n) :: r2, G, x_ag.rf, by dsimp only [pm_step]; rw [if_pos rfl, n4, n2]; rfl, x_psh hS ⟨_, rfl, by simp [pm_isTok, n1]⟩ hs2, x_eff.rf⟩
      · cases h
    · split at h
      · rename_i hk
        obtain ⟨c, rfl, ec, tc⟩ := x_g_cell g2 hk.1
        obtain ⟨e, he, hsh⟩ := (hI.2.2 c _ tc).1
        obtain ⟨n, n1, n2, n3, n4, -⟩ := x_idx_ok (cs := cs) hB hC hk.2.2.2 ej
        obtain ⟨c9, g, rfl⟩ := x_arr_ref hsh hk.2.1 hk.2.2.1
        have hpm : pm_step own nL ini xs L J .aaload pc lv (.int j :: .ref c :: r2) G = some (pc + 1, lv, va_rf (g n) :: r2, G, 0, 0) := by
          dsimp only [pm_step]
          rw [if_neg (hI.cell tc).2.2.2, he]
          show (if pm_bad j _ = true ∨ _ < 4 ∨ 9 < _ then none else some (pc + 1, lv, va_rf (g j.toNatClampNeg) :: r2, G, 0, 0)) = _
          rw [n4, n2, if_neg (by rintro (z | z | z) <;> first | cases z | omega)]
        split at h
        · rename_i f hone
          obtain ⟨f2, hf2⟩ := hT _ n n1
          obtain rfl := x_one_at hone hf2
          obtain ⟨w0, z1, z2⟩ := (hI.2.2 c _ tc).2 n _ hf2
          have hsl : x_sl G c n = some (va_rf (g n)) := by unfold x_sl; rw [he]; show (if n < _ then _ else _) = _; rw [if_pos n1]
          rw [hsl] at z1
          cases z1
          split at h
          · rename_i h34
            cases h
            refine ⟨_, List.mem_singleton.mpr rfl, v, lv, _, G, x_ag.rf, hpm, x_psh hS ?_ hs2, x_eff.rf⟩
            unfold xf_ok at z2
            rcases h34 with h3 | h3 <;> (rw [h3] at z2 ⊢; exact z2)
          · split at h
            · rename_i hh
              cases h
              obtain ⟨u, hu⟩ : ∃ u, f2.1 = u + 10 := ⟨f2.1 - 10, by omega⟩
              unfold xf_ok at z2
              rw [hu] at z2 ⊢
              obtain ⟨k, hkr, hku⟩ := z2
              rw [hkr] at hpm
              have hkl := (hI.cell hku).1
              obtain ⟨a1, a2, a3, a4, a5, a6⟩ := x_S_up (i := nx) (x := (k : Int)) hS hh.2.2 (by omega) (by unfold pm_TB at hkl; omega)
              exact ⟨_, List.mem_singleton.mpr rfl, _, lv, _, G, x_ag.up hh.2.1, hpm, ⟨a1, a2, a3, ⟨x_g_of_cell (by rw [xl_s_ev]; simp [x_up]) hku, a4.2.2⟩, a5, a6⟩, x_eff.rf⟩
            · cases h
        · cases h
      · cases h
  · cases h
set_option maxHeartbeats 1000000 in
theorem xs_iastore  (hS : x_S tb th v (cs, lo, st, fa, nx) lv ws G) (h : x_step tb E m0 own nL (.iastore) pc cs lo st fa nx = some out) : x_Go tb th E m0 own nL ini xs L J (.iastore) pc v lv ws G out := by
  obtain ⟨hB, hC, hlo, hst, hfa, hI⟩ := id hS
  have hC : x_Cs cs v := hC
  dsimp only [x_step] at h
  split at h
  · rename_i lx lj b r
    obtain ⟨w1, r1, rfl, g1, hs1⟩ := x_gs_cons hst
    obtain ⟨w2, r2, rfl, g2, hs2⟩ := x_gs_cons hs1
    obtain ⟨w3, r3, rfl, g3, hs3⟩ := x_gs_cons hs2
    split at h
    · rename_i hk
      cases h
      obtain ⟨j, rfl, ej⟩ := x_g0 g2
      obtain ⟨c, rfl, ec, tc⟩ := x_g_cell g3 hk.1
      obtain ⟨e, he, hsh⟩ := (hI.2.2 c _ tc).1
      obtain ⟨x, rfl, ex⟩ := x_g0 g1
      obtain ⟨n, n1, n2, n3, n4, n5, n6, n7, n8⟩ := x_idx_ok (cs := cs) hB hC hk.2.2.2.1 ej
      obtain ⟨f, rfl⟩ := x_arr_int hsh hk.2.1 (by omega)
      have hu := x_upd_int (x := x) he n1
      obtain ⟨q9, e1, e2, e3, e4⟩ := x_cov_ok hk.2.2.2.2.2
      refine ⟨_, List.mem_singleton.mpr rfl, v, lv, r3, _, x_ag.rf, ?_, ⟨hB, hC, hlo, hs3, fun f9 hf9 => ?_, hI.upd hu tc (fun f8 h8 => ?_)⟩, x_eff.upd hu tc e1 e2 (Nat.le_trans e3 n7) (Nat.le_trans n8 e4)⟩
      · dsimp only [pm_step]
        rw [he]
        have hc0 := hk.2.2.1
        rw [hc0]
        show (if pm_bad j _ = true then none else some (pc + 1, lv, r3, G.set c (.inl (0, _, .inl (upd f j.toNatClampNeg x))), 0, 0)) = _
        rw [n4, n2]
        rfl
      · rcases List.mem_append.mp hf9 with hf9 | hf9
        · split at hf9
          · rename_i hj0
            rw [List.mem_singleton.mp hf9]
            have hn : lj.2.toNat = n := by
              have : xl_ev lj v = lj.2 := by unfold xl_ev; rw [hj0]; simp [xt_ev]
              omega
            refine ⟨c, ec, tc, .int x, ?_, g1⟩
            show x_sl _ c lj.2.toNat = _
            rw [hn, hu.2.1]
            simp
          · cases hf9
        · exact x_kill_ok hu tc n7 n8 hfa f9 hf9
      · have hm := x_over_mem (lw := x_lb cs lj) (hi := x_ub cs lj) _ 0 n h8 (by omega) (by omega)
        have hz := List.all_eq_true.mp hk.2.2.2.2.1 f8 hm
        rw [Bool.and_eq_true] at hz
        exact x_fit_ok hB hC hz.2 g1
    · cases h
  · cases h
set_option maxHeartbeats 1000000 in
theorem xs_bastore  (hS : x_S tb th v (cs, lo, st, fa, nx) lv ws G) (h : x_step tb E m0 own nL (.bastore) pc cs lo st fa nx = some out) : x_Go tb th E m0 own nL ini xs L J (.bastore) pc v lv ws G out := by
  obtain ⟨hB, hC, hlo, hst, hfa, hI⟩ := id hS
  have hC : x_Cs cs v := hC
  dsimp only [x_step] at h
  split at h
  · rename_i lx lj b r
    obtain ⟨w1, r1, rfl, g1, hs1⟩ := x_gs_cons hst
    obtain ⟨w2, r2, rfl, g2, hs2⟩ := x_gs_cons hs1
    obtain ⟨w3, r3, rfl, g3, hs3⟩ := x_gs_cons hs2
    split at h
    · rename_i hk
      cases h
      obtain ⟨j, rfl, ej⟩ := x_g0 g2
      obtain ⟨c, rfl, ec, tc⟩ := x_g_cell g3 hk.1
      obtain ⟨e, he, hsh⟩ := (hI.2.2 c _ tc).1
      obtain ⟨x, rfl, ex⟩ := x_g0 g1
      obtain ⟨n, n1, n2, n3, n4, n5, n6, n7, n8⟩ := x_idx_ok (cs := cs) hB hC hk.2.2.2.1 ej
      obtain ⟨f, rfl⟩ := x_arr_int hsh hk.2.1 (by omega)
      obtain ⟨q9, e1, e2, e3, e4⟩ := x_cov_ok hk.2.2.2.2.2
      rcases hk.2.2.1 with hc | hc
      · have hu := x_upd_int (x := vp_nar .byte x) he n1
        refine ⟨_, List.mem_singleton.mpr rfl, v, lv, r3, _, x_ag.rf, ?_, ⟨hB, hC, hlo, hs3, fun f9 hf9 => x_kill_ok hu tc n7 n8 hfa f9 hf9, hI.upd hu tc (fun f8 h8 => ?_)⟩, x_eff.upd hu tc e1 e2 (Nat.le_trans e3 n7) (Nat.le_trans n8 e4)⟩
        · dsimp only [pm_step]
          rw [he, hc]
          show (if pm_bad j _ = true then none else some (pc + 1, lv, r3, G.set c (.inl (1, _, .inl (upd f j.toNatClampNeg (vp_nar .byte x)))), 0, 0)) = _
          rw [n4, n2]
          rfl
        · have hm := x_over_mem (lw := x_lb cs lj) (hi := x_ub cs lj) _ 0 n h8 (by omega) (by omega)
          have hz := List.all_eq_true.mp hk.2.2.2.2.1 f8 hm
          rw [Bool.and_eq_true, hc] at hz
          have h0 : f8.1 = 0 := by simpa using hz.1
          have hz2 := hz.2
          have hz2 := of_decide_eq_true hz2
          have k := x_i2b_le x
          unfold xf_ok
          rw [h0]
          exact ⟨_, rfl, by rw [vp_nar_byte]; omega, by rw [vp_nar_byte]; omega⟩
      · have hu := x_upd_int (x := vp_nar .boolean x) he n1
        refine ⟨_, List.mem_singleton.mpr rfl, v, lv, r3, _, x_ag.rf, ?_, ⟨hB, hC, hlo, hs3, fun f9 hf9 => x_kill_ok hu tc n7 n8 hfa f9 hf9, hI.upd hu tc (fun f8 h8 => ?_)⟩, x_eff.upd hu tc e1 e2 (Nat.le_trans e3 n7) (Nat.le_trans n8 e4)⟩
        · dsimp only [pm_step]
          rw [he, hc]
          show (if pm_bad j _ = true then none else some (pc + 1, lv, r3, G.set c (.inl (2, _, .inl (upd f j.toNatClampNeg (vp_nar .boolean x)))), 0, 0)) = _
          rw [n4, n2]
          rfl
        · have hm := x_over_mem (lw := x_lb cs lj) (hi := x_ub cs lj) _ 0 n h8 (by omega) (by omega)
          have hz := List.all_eq_true.mp hk.2.2.2.2.1 f8 hm
          rw [Bool.and_eq_true, hc] at hz
          have h0 : f8.1 = 0 := by simpa using hz.1
          have hz2 := hz.2
          have hz2 := of_decide_eq_true hz2
          have k := x_nar_bool x
          unfold xf_ok
          rw [h0]
          exact ⟨_, rfl, by omega, by omega⟩
    · cases h
  · cases h
set_option maxHeartbeats 1000000 in
theorem xs_lastore  (hS : x_S tb th v (cs, lo, st, fa, nx) lv ws G) (h : x_step tb E m0 own nL (.lastore) pc cs lo st fa nx = some out) : x_Go tb th E m0 own nL ini xs L J (.lastore) pc v lv ws G out := by
  obtain ⟨hB, hC, hlo, hst, hfa, hI⟩ := id hS
  have hC : x_Cs cs v := hC
  dsimp only [x_step] at h
  split at h
  · rename_i lx lj b r
    obtain ⟨w1, r1, rfl, g1, hs1⟩ := x_gs_cons hst
    obtain ⟨w2, r2, rfl, g2, hs2⟩ := x_gs_cons hs1
    obtain ⟨w3, r3, rfl, g3, hs3⟩ := x_gs_cons hs2
    split at h
    · rename_i hk
      cases h
      obtain ⟨j, rfl, ej⟩ := x_g0 g2
      obtain ⟨c, rfl, ec, tc⟩ := x_g_cell g3 hk.1
      obtain ⟨e, he, hsh⟩ := (hI.2.2 c _ tc).1
      obtain ⟨x, rfl⟩ := g1
      obtain ⟨n, n1, n2, n3, n4, n5, n6, n7, n8⟩ := x_idx_ok (cs := cs) hB hC hk.2.2.2.1 ej
      obtain ⟨f, rfl⟩ := x_arr_long hsh hk.2.1 hk.2.2.1
      have hu := x_upd_long (x := x) he n1
      obtain ⟨q9, e1, e2, e3, e4⟩ := x_cov_ok hk.2.2.2.2.2
      refine ⟨_, List.mem_singleton.mpr rfl, v, lv, r3, _, x_ag.rf, ?_, ⟨hB, hC, hlo, hs3, fun f9 hf9 => x_kill_ok hu tc n7 n8 hfa f9 hf9, hI.upd hu tc (fun f8 h8 => ?_)⟩, x_eff.upd hu tc e1 e2 (Nat.le_trans e3 n7) (Nat.le_trans n8 e4)⟩
      · dsimp only [pm_step]
        rw [he]
        show (if pm_bad j _ = true then none else some (pc + 1, lv, r3, G.set c (.inl (3, _, .inr (.inl (vp_updL f j.toNatClampNeg x)))), 0, 0)) = _
        rw [n4, n2]
        rfl
      · have hm := x_over_mem (lw := x_lb cs lj) (hi := x_ub cs lj) _ 0 n h8 (by omega) (by omega)
        have h0 : f8.1 = 1 := by simpa using List.all_eq_true.mp hk.2.2.2.2.1 f8 hm
        unfold xf_ok
        rw [h0]
        exact ⟨_, rfl⟩
    · cases h
  · cases h
set_option maxHeartbeats 1000000 in
theorem xs_aastore  (hS : x_S tb th v (cs, lo, st, fa, nx) lv ws G) (h : x_step tb E m0 own nL (.aastore) pc cs lo st fa nx = some out) : x_Go tb th E m0 own nL ini xs L J (.aastore) pc v lv ws G out := by
  obtain ⟨hB, hC, hlo, hst, hfa, hI⟩ := id hS
  have hC : x_Cs cs v := hC
  dsimp only [x_step] at h
  split at h
  · rename_i a lj b r
    obtain ⟨w1, r1, rfl, g1, hs1⟩ := x_gs_cons hst
    obtain ⟨w2, r2, rfl, g2, hs2⟩ := x_gs_cons hs1
    obtain ⟨w3, r3, rfl, g3, hs3⟩ := x_gs_cons hs2
    split at h
    · rename_i hk
      cases h
      obtain ⟨j, rfl, ej⟩ := x_g0 g2
      obtain ⟨c, rfl, ec, tc⟩ := x_g_cell g3 hk.1
      obtain ⟨e, he, hsh⟩ := (hI.2.2 c _ tc).1
      obtain ⟨n, n1, n2, n3, n4, n5, n6, n7, n8⟩ := x_idx_ok (cs := cs) hB hC hk.2.2.2.1 ej
      obtain ⟨c9, g, rfl⟩ := x_arr_ref hsh hk.2.1 hk.2.2.1
      obtain ⟨q9, e1, e2, e3, e4⟩ := x_cov_ok hk.2.2.2.2.2.1
      have hfits : ∀ f8, x_at (tb (b.1 - 10)).2.2.2 n = some f8 → xf_ok th f8 w1 := by
        intro f8 h8
        have hm := x_over_mem (lw := x_lb cs lj) (hi := x_ub cs lj) _ 0 n h8 (by omega) (by omega)
        have hz := List.all_eq_true.mp hk.2.2.2.2.1 f8 hm
        rw [Bool.and_eq_true] at hz
        exact x_fit_ok hB hC hz.2 g1
      have hbad : ¬ (pm_bad j (tb (b.1 - 10)).2.2.1 = true ∨ (tb (b.1 - 10)).2.1 < 4 ∨ 9 < (tb (b.1 - 10)).2.1) := by rw [n4]; rintro (z | z | z) <;> first | cases z | omega
      have fin : ∀ x : Option Nat, w1 = va_rf x → pm_step own nL ini xs L J .aastore pc lv (w1 :: .int j :: .ref c :: r3) G = some (pc + 1, lv, r3, G.set c (.inl ((tb (b.1 - 10)).2.1, (tb (b.1 - 10)).2.2.1, .inr (.inr (.inr (.inr (va_up g n x)))))), 0, 0) → x_Go tb th E m0 own nL ini xs L J .aastore pc v lv (w1 :: .int j :: .ref c :: r3) G [(pc + 1, (cs, lo, r, x_kill fa (b.1 - 10) (x_lb cs lj).toNat (x_ub cs lj).toNat, nx))] := by
        intro x hx hp
        have hu := x_upd_ref (x := x) he n1
        rw [← hx] at hu
        exact ⟨_, List.mem_singleton.mpr rfl, v, lv, r3, _, x_ag.rf, hp, ⟨hB, hC, hlo, hs3, fun f9 hf9 => x_kill_ok hu tc n7 n8 hfa f9 hf9, hI.upd hu tc hfits⟩, x_eff.upd hu tc e1 e2 (Nat.le_trans e3 n7) (Nat.le_trans n8 e4)⟩
      obtain ⟨ak, al⟩ := a
      have tokc : ∀ k : Nat, w1 = .ref k → pm_isTok k = true → (tb (b.1 - 10)).2.1 = 4 → x_Go tb th E m0 own nL ini xs L J .aastore pc v lv (w1 :: .int j :: .ref c :: r3) G [(pc + 1, (cs, lo, r, x_kill fa (b.1 - 10) (x_lb cs lj).toNat (x_ub cs lj).toNat, nx))] := by
        intro k hkr tk h4
        refine fin (some k) hkr ?_
        rw [hkr]
        dsimp only [pm_step]
        rw [he]
        dsimp only
        rw [if_neg hbad, if_pos tk, if_pos h4, n2]
      rcases hk.2.2.2.2.2.2 with ⟨h3, h4⟩ | ⟨h3, h4⟩ | ⟨h3, h5, h6, h7⟩
      · obtain rfl : ak = 3 := h3
        obtain ⟨k, hkr, tk⟩ := g1
        exact tokc k hkr tk h4
      · obtain rfl : ak = 4 := h3
        rcases g1 with hkr | ⟨k, hkr, tk⟩
        · refine fin none hkr ?_
          rw [hkr]
          dsimp only [pm_step]
          rw [he]
          dsimp only
          rw [if_neg hbad, n2]
        · exact tokc k hkr tk h4
      · obtain ⟨k, hkr, ek, tk⟩ := x_g_cell g1 h3
        obtain ⟨e2, he2, hsh2⟩ := (hI.2.2 k _ tk).1
        obtain ⟨fs2, rfl, -⟩ := x_obj hsh2 h5
        refine fin (some k) hkr ?_
        rw [hkr]
        dsimp only [pm_step]
        rw [he]
        dsimp only
        rw [if_neg hbad, if_neg (by rw [(hI.cell tk).2.1]; decide), he2]
        dsimp only
        rw [if_pos ⟨h7, h6⟩, n2]
    · cases h
  · cases h
set_option maxHeartbeats 4000000 in
/-- the abstract step holds -/
theorem xs_step {i : Instr} (hT : x_wf tb) (hS : x_S tb th v (cs, lo, st, fa, nx) lv ws G) (h : x_step tb E m0 own nL i pc cs lo st fa nx = some out) : x_Go tb th E m0 own nL ini xs L J i pc v lv ws G out := by
  cases i
  case iconst => exact xs_iconst hS h
  case bipush => exact xs_bipush hS h
  case sipush => exact xs_sipush hS h
  case lconst => exact xs_lconst hS h
  case iload => exact xs_iload hS h
  case iload_n => exact xs_iload_n hS h
  case lload => exact xs_lload hS h
  case lload_n => exact xs_lload_n hS h
  case aload => exact xs_aload hS h
  case aload_n => exact xs_aload_n hS h
  case istore => exact xs_istore hS h
  case istore_n => exact xs_istore_n hS h
  case astore => exact xs_astore hS h
  case astore_n => exact xs_astore_n hS h
  case iinc => exact xs_iinc hS h
  case iadd => exact xs_iadd hS h
  case isub => exact xs_isub hS h
  case imul => exact xs_imul hS h
  case iand => exact xs_iand hS h
  case ior => exact xs_ior hS h
  case ixor => exact xs_ixor hS h
  case ishr => exact xs_ishr hS h
  case idiv => exact xs_idiv hS h
  case irem => exact xs_irem hS h
  case ishl => exact xs_ishl hS h
  case iushr => exact xs_iushr hS h
  case i2l => exact xs_i2l hS h
  case i2b => exact xs_i2b hS h
  case ladd => exact xs_ladd hS h
  case lmul => exact xs_lmul hS h
  case lor => exact xs_lor hS h
  case lshl => exact xs_lshl hS h
  case lcmp => exact xs_lcmp hS h
  case dup => exact xs_dup hS h
  case pop => exact xs_pop hS h
  case dup2 => exact xs_dup2 hS h
  case ifCond => exact xs_ifCond hS h
  case if_icmp => exact xs_if_icmp hS h
  case goto => exact xs_goto hS h
  case ldc => exact xs_ldc hS h
  case ldc_w => exact xs_ldc_w hS h
  case ldc2_w => exact xs_ldc2_w hS h
  case getstatic => exact xs_getstatic hS h
  case if_acmp => exact xs_if_acmp hS h
  case tableswitch => exact xs_tableswitch hS h
  case lookupswitch => exact xs_lookupswitch hS h
  case getfield => exact xs_getfield hS h
  case putfield => exact xs_putfield hS h
  case laload => exact xs_laload hS h
  case arraylength => exact xs_arraylength hS h
  case iastore => exact xs_iastore hS h
  case bastore => exact xs_bastore hS h
  case lastore => exact xs_lastore hS h
  case aastore => exact xs_aastore hS h
  case iaload => exact xs_iaload hT hS h
  case baload => exact xs_baload hT hS h
  case aaload => exact xs_aaload hT hS h
  all_goals cases h
end XF
end
section
-- ===== what the s of the model keeps besides its types; copies =====
/-- the depth behind i codes -/
def x_dep (f : Nat → Option Value) : Nat → Int
  | 0 => 0
  | i + 1 => match f (144 + 3 * i) with
    | some (.int x) => if x = 20 then x_dep f i else if x = 21 ∨ x = 22 then x_dep f i - 1 else x_dep f i + 1
    | _ => x_dep f i
def x_Qs (f : Nat → Option Value) : Prop :=
  (∀ (n x : Int32) (t : Nat), f 3 = some (.int n) → (t : Int) < n.toInt → t < 8 → f (41 + t) = some (.int x) → 1 ≤ x.toInt)
  ∧ ∀ (n x : Int32) (i : Nat), f 143 = some (.int n) → (i : Int) < n.toInt → f (144 + 3 * i) = some (.int x) → (x = 20 → 1 ≤ x_dep f i) ∧ (x = 21 ∨ x = 22 → 2 ≤ x_dep f i)
def x_Q (th : List Nat) (G : List pE) : Prop := ∀ a : Nat, th[a]? = some 36 → x_Qs (x_sl G a)
/-- needs x_Q -/
def x_flag (E : List (Nat × Nat × Nat)) : Bool := E.any (fun q => q.1 == 1000)
/-- leaves x_Q -/
def x_dis (E : List (Nat × Nat × Nat)) : Bool := E.all (fun q => !(q.1 == 36) || (decide (q.2.2 < 143) && (decide (3 < q.2.1) || decide (q.2.2 < 3)) && (decide (48 < q.2.1) || decide (q.2.2 < 41))))
theorem x_dep_congr {f g : Nat → Option Value} (h : ∀ i, 143 ≤ i → g i = f i) : ∀ i, x_dep g i = x_dep f i
  | 0 => rfl
  | i + 1 => by
    unfold x_dep
    rw [h (144 + 3 * i) (by omega), x_dep_congr h i]
theorem x_Qs_congr {f g : Nat → Option Value} (h : ∀ i, 143 ≤ i ∨ i = 3 ∨ (41 ≤ i ∧ i ≤ 48) → g i = f i) (hf : x_Qs f) : x_Qs g := by
  refine ⟨fun n x t h1 h2 h3 h4 => hf.1 n x t (by rw [← h 3 (by omega)]; exact h1) h2 h3 (by rw [← h _ (by omega)]; exact h4), fun n x i h1 h2 h3 => ?_⟩
  rw [x_dep_congr (fun i hi => h i (Or.inl hi))]
  exact hf.2 n x i (by rw [← h 143 (by omega)]; exact h1) h2 (by rw [← h _ (by omega)]; exact h3)
theorem x_Q_eff {th : List Nat} {E : List (Nat × Nat × Nat)} {G G' : List pE} (hd : x_dis E = true) (he : x_eff th E G G') (h : x_Q th G) : x_Q th G' := by
  intro a ha
  refine x_Qs_congr (fun i hi => he a 36 i ha (fun q hq hh => ?_)) (h a ha)
  have := List.all_eq_true.mp hd q hq
  simp only [Bool.or_eq_true, Bool.not_eq_true', beq_eq_false_iff_ne, Bool.and_eq_true, decide_eq_true_eq] at this
  omega
/-- all values of the symbols is in their bounds -/
def x_en (P : Int → Int → Bool) (cs : List xL) : List Nat → xL → xL → Bool
  | [], a, b => decide (a.1 = [] ∧ b.1 = []) && P a.2 b.2
  | i :: is, a, b => decide (x_hi cs i - x_lo cs i ≤ 1000) && (List.range (x_hi cs i - x_lo cs i + 1).toNat).all (fun k => x_en P cs is (xl_subst (fun j => if j = i then xl_c (x_lo cs i + k) else xl_s j) a) (xl_subst (fun j => if j = i then xl_c (x_lo cs i + k) else xl_s j) b))
theorem x_en_ok {v : Nat → Int} {P : Int → Int → Bool} {cs : List xL} (hB : x_Bd v) (hC : x_Cs cs v) : ∀ (is : List Nat) (a b : xL), x_en P cs is a b = true → P (xl_ev a v) (xl_ev b v) = true
  | [], a, b, h => by
    unfold x_en at h
    rw [Bool.and_eq_true, decide_eq_true_eq] at h
    obtain ⟨⟨h1, h2⟩, h3⟩ := h
    unfold xl_ev
    rw [h1, h2]
    simpa [xt_ev] using h3
  | i :: is, a, b, h => by
    unfold x_en at h
    rw [Bool.and_eq_true] at h
    have l1 := x_lo_ok hB i cs hC
    have l2 := x_hi_ok hB i cs hC
    have hk := List.all_eq_true.mp h.2 (v i - x_lo cs i).toNat (List.mem_range.mpr (by omega))
    have hx : x_lo cs i + ((v i - x_lo cs i).toNat : Int) = v i := by omega
    rw [hx] at hk
    have := x_en_ok hB hC is _ _ hk
    rw [xl_subst_ev, xl_subst_ev] at this
    have hf : (fun j => xl_ev (if j = i then xl_c (v i) else xl_s j) v) = v := by
      funext j
      by_cases hj : j = i
      · rw [if_pos hj, xl_c_ev, hj]
      · rw [if_neg hj, xl_s_ev]
    rw [hf] at this
    exact this
def x_sub1 (r1 r2 : List (Nat × xF)) (a b : Int) : Bool := match x_at r1 a.toNat, x_at r2 b.toNat with
  | some f, some g => f.1 == 0 && g.1 == 0 && decide (g.2.1 ≤ f.2.1) && decide (f.2.2 ≤ g.2.2)
  | _, _ => false
def x_syms (a b : xL) : List Nat := a.1.map (fun q => q.1) ++ (b.1.map (fun q => q.1)).filter (fun i => !a.1.any (fun q => q.1 == i))
-- ===== contracts, cut points, the checker =====
/-- at the end: the answer, constraints, facts -/
abbrev xP : Type := Option xV × List xL × List xA
/-- a contract: method, parameters, constraints, facts, symbols of these, effects, new symbols of the ends, ends -/
abbrev xC : Type := Nat × List xV × List xL × List xA × Nat × List (Nat × Nat × Nat) × Nat × List xP
/-- a cut point: pc, locals, facts, constraints, symbols, ranks -/
abbrev xN : Type := Nat × List (Nat × xV) × List xA × List xL × Nat × List xL
/-- a method's code, decoded -/
abbrev xD : Type := List (Nat × Instr × Nat)
def x_b (bl : List (Nat × xL)) (i : Nat) : xL := match bl.find? (fun q => q.1 == i) with
  | some q => q.2
  | none => xl_c 0
/-- the pattern p takes the value a -/
def x_bind (bl : List (Nat × xL)) (p a : xV) : List (Nat × xL) := match p.2 with
  | ([q], 0) => if q.2 = 1 ∧ bl.all (fun r => !(r.1 == q.1)) = true then bl ++ [(q.1, a.2)] else bl
  | _ => bl
def x_kok (p a : Nat) : Bool := p == a || (p == 4 && a == 3)
def x_bindL (bl : List (Nat × xL)) : List xV → List xV → List (Nat × xL)
  | p :: ps, a :: as => x_bindL (x_bind bl p a) ps as
  | _, _ => bl
def x_okL (b : Nat → xL) : List xV → List xV → Bool
  | [], [] => true
  | p :: ps, a :: as => x_kok p.1 a.1 && decide (xl_subst b p.2 = a.2 ∨ (p.1 ≠ 0 ∧ p.1 < 10)) && x_okL b ps as
  | _, _ => false
def x_ffind (fa : List xA) (t : Nat) (cl : xL) (i : Nat) : Option xA := fa.find? (fun q => q.1 == t && q.2.2.1 == i && decide (q.2.1 = cl))
/-- cl is a cell of type t -/
def x_isC (g : xG) (t : Nat) (cl : xL) : Bool := g.2.2.1.any (fun a => a.1 == t + 10 && decide (a.2 = cl)) || g.2.1.any (fun q => q.2.1 == t + 10 && decide (q.2.2 = cl)) || g.2.2.2.1.any (fun q => q.2.2.2.1 == t + 10 && decide (q.2.2.2.2 = cl)) || g.2.2.2.1.any (fun q => q.1 == t && decide (q.2.1 = cl))
/-- a fact of that slot -/
def x_mat (tb : Nat → xT) (m : Nat) (g : xG) (t : Nat) (cl : xL) (i : Nat) : Option xG := match x_ffind g.2.2.2.1 t cl i with
  | some _ => some g
  | none => if x_isC g t cl then (match x_at (tb t).2.2.2 i with
    | some f => (match f.1 with
      | 0 => if m ≤ g.2.2.2.2 ∧ x_noG g.2.2.2.2 g = true then some ([xl_add (xl_s g.2.2.2.2) (xl_c (-f.2.1)), xl_sub (xl_c f.2.2) (xl_s g.2.2.2.2)] ++ g.1, g.2.1, g.2.2.1, (t, cl, i, (0, xl_s g.2.2.2.2)) :: g.2.2.2.1, g.2.2.2.2 + 1) else none
      | u + 10 => if m ≤ g.2.2.2.2 ∧ x_noG g.2.2.2.2 g = true then some (g.1, g.2.1, g.2.2.1, (t, cl, i, (u + 10, xl_s g.2.2.2.2)) :: g.2.2.2.1, g.2.2.2.2 + 1) else none
      | _ => none)
    | none => none) else none
def x_matL (tb : Nat → xT) (m : Nat) : List xA → xG → List (Nat × xL) → Option (xG × List (Nat × xL))
  | [], g, bl => some (g, bl)
  | q :: qs, g, bl => match x_mat tb m g q.1 (xl_subst (x_b bl) q.2.1) q.2.2.1 with
    | some g2 => (match x_ffind g2.2.2.2.1 q.1 (xl_subst (x_b bl) q.2.1) q.2.2.1 with
      | some f => x_matL tb m qs g2 (x_bind bl q.2.2.2 f.2.2.2)
      | none => none)
    | none => none
def x_okF (b : Nat → xL) (fa : List xA) (q : xA) : Bool := match x_ffind fa q.1 (xl_subst b q.2.1) q.2.2.1 with
  | some f => x_kok q.2.2.2.1 f.2.2.2.1 && decide (xl_subst b q.2.2.2.2 = f.2.2.2.2 ∨ (q.2.2.2.1 ≠ 0 ∧ q.2.2.2.1 < 10))
  | none => false
/-- a pattern (values pv, facts pf, constraints pc) holds of the values av in the state g -/
def x_inst (tb : Nat → xT) (m : Nat) (bl : List (Nat × xL)) (pv : List xV) (pf : List xA) (pc : List xL) (av : List xV) (g : xG) : Option (xG × List (Nat × xL)) := match x_matL tb m pf g (x_bindL bl pv av) with
  | some (g2, bl2) => if x_okL (x_b bl2) pv av = true ∧ pf.all (x_okF (x_b bl2) g2.2.2.2.1) = true ∧ pc.all (fun c => x_ent g2.1 (xl_subst (x_b bl2) c)) = true ∧ bl2.all (fun q => x_rng g2.1 q.2) = true then some (g2, bl2) else none
  | none => none
def x_idl (m : Nat) : List (Nat × xL) := (List.range m).map (fun i => (i, xl_s i))
def x_isId (m : Nat) (bl : List (Nat × xL)) : Bool := (List.range m).all (fun i => decide (x_b bl i = xl_s i))
/-- ranks fall -/
def x_dec (cs : List xL) : List xL → List xL → Bool
  | a :: as, b :: bs => x_ent cs b && (x_ent cs (xl_add (xl_sub a b) (xl_c (-1))) || (x_ent cs (xl_sub a b) && x_dec cs as bs))
  | _, _ => false
def x_ltV (n : Nat) (a : xV) : Bool := a.2.1.all (fun q => decide (q.1 < n))
def x_ltG (n : Nat) (g : xG) : Bool := g.1.all (fun c => c.1.all (fun q => decide (q.1 < n))) && g.2.1.all (fun q => x_ltV n q.2) && g.2.2.1.all (x_ltV n) && g.2.2.2.1.all (fun q => q.2.1.1.all (fun r => decide (r.1 < n)) && x_ltV n q.2.2.2)
/-- the symbols of a contract's ends in the caller -/
def x_b2 (bl : List (Nat × xL)) (mc nx : Nat) (i : Nat) : xL := if i < mc then x_b bl i else xl_s (nx + (i - mc))
def x_subV (b : Nat → xL) (a : xV) : xV := (a.1, xl_subst b a.2)
def x_subA (b : Nat → xL) (q : xA) : xA := (q.1, xl_subst b q.2.1, q.2.2.1, x_subV b q.2.2.2)
def x_killE (fa : List xA) (E : List (Nat × Nat × Nat)) : List xA := fa.filter (fun f => !E.any (fun q => decide (q.1 = f.1) && decide (q.2.1 ≤ f.2.2.1) && decide (f.2.2.1 ≤ q.2.2)))
def x_subE (E E' : List (Nat × Nat × Nat)) : Bool := E.all (fun q => x_cov E' q.1 q.2.1 q.2.2)
/-- a call by this contract: the states behind it -/
def x_call1 (tb : Nat → xT) (E : List (Nat × Nat × Nat)) (m : Nat) (c : xC) (na : Nat) (pc : Nat) (g : xG) : Option (List (Nat × xG)) := match x_inst tb m [] c.2.1 c.2.2.2.1 c.2.2.1 (g.2.2.1.take na).reverse g with
  | some (g2, bl) => if m ≤ g2.2.2.2.2 ∧ x_ltG g2.2.2.2.2 g2 = true ∧ bl.all (fun q => q.2.1.all (fun r => decide (r.1 < g2.2.2.2.2))) = true ∧ x_subE c.2.2.2.2.2.1 E = true then
      some ((c.2.2.2.2.2.2.2.filter (fun p => !x_inf g2.1 (p.2.1.map (xl_subst (x_b2 bl c.2.2.2.2.1 g2.2.2.2.2))))).map (fun p => (pc, (p.2.1.map (xl_subst (x_b2 bl c.2.2.2.2.1 g2.2.2.2.2)) ++ g2.1, g2.2.1, (match p.1 with
        | some a => [x_subV (x_b2 bl c.2.2.2.2.1 g2.2.2.2.2) a]
        | none => []) ++ g2.2.2.1.drop na, p.2.2.map (x_subA (x_b2 bl c.2.2.2.2.1 g2.2.2.2.2)) ++ x_killE g2.2.2.2.1 c.2.2.2.2.2.1, g2.2.2.2.2 + c.2.2.2.2.2.2.1)))) else none
  | none => none
def x_call (tb : Nat → xT) (E : List (Nat × Nat × Nat)) (m : Nat) (mi na pc : Nat) (g : xG) : List xC → Option (List (Nat × xG))
  | [] => none
  | c :: cs => if c.1 = mi then (match x_call1 tb E m c na pc g with
    | some r => some r
    | none => x_call tb E m mi na pc g cs) else x_call tb E m mi na pc g cs
def x_sum (st : List xV) : Nat := (st.map (fun a => if a.1 = 1 then 2 else 1)).sum
def x_retk (i : Instr) (rt : Option FieldType) (cs : List xL) (st : List xV) : Option (Option xV) := match i, st with
  | .return_, [] => if rt = none then some none else none
  | .ireturn, [(0, l)] => (match rt with
    | some .int => some (some (0, l))
    | some .boolean => if x_ent cs l && x_ent cs (xl_sub (xl_c 1) l) then some (some (0, l)) else none
    | _ => none)
  | .areturn, [a] => (match rt with
    | some (.object _) => if a.1 = 3 ∨ 10 ≤ a.1 then some (some a) else none
    | _ => none)
  | _, _ => none
def x_isRet (i : Instr) : Bool := match i with
  | .return_ => true
  | .ireturn => true
  | .areturn => true
  | _ => false
/-- one of the ends holds -/
def x_end (tb : Nat → xT) (m0 m : Nat) (g : xG) (r : Option xV) (ps : List xP) : Bool := ps.any (fun p => match p.1, r with
  | none, none => (match x_inst tb m (x_idl m0) [] p.2.2 p.2.1 [] g with
    | some (_, bl) => x_isId m0 bl
    | none => false)
  | some a, some b => (match x_inst tb m (x_idl m0) [a] p.2.2 p.2.1 [b] g with
    | some (_, bl) => x_isId m0 bl
    | none => false)
  | _, _ => false)
def x_lgets (lo : List (Nat × xV)) : List (Nat × xV) → Option (List xV)
  | [] => some []
  | q :: qs => match x_lget lo q.1, x_lgets lo qs with
    | some a, some as => some (a :: as)
    | _, _ => none
/-- a cut point holds -/
def x_node (tb : Nat → xT) (m0 m : Nat) (org : Option (List xL)) (g : xG) (n : xN) : Bool := match g.2.2.1 with
  | [] => (match x_lgets g.2.1 n.2.1 with
    | some av => (match x_inst tb m (x_idl m0) (n.2.1.map (fun q => q.2)) n.2.2.1 n.2.2.2.1 av g with
      | some (g2, bl) => x_isId m0 bl && (match org with
        | none => true
        | some a => x_dec g2.1 a (n.2.2.2.2.2.map (xl_subst (x_b bl))))
      | none => false)
    | none => false)
  | _ => false
def x_rcv (tb : Nat → xT) (M : pM) (st : List xV) : Bool := match st with
  | a :: _ => decide (10 ≤ a.1) && ((tb (a.1 - 10)).1 == 0) && ((tb (a.1 - 10)).2.1 == M.ci)
  | [] => false
/-- a load and a store: a copy from slot to slot, fitting by its types -/
def x_cpy (tb : Nat → xT) (E : List (Nat × Nat × Nat)) (D : xD) (ns : List xN) (i : Instr) (pc : Nat) (g : xG) : Option (Nat × xG) := match i, g.2.2.1 with
  | .iaload, (0, l1) :: b1 :: (0, l2) :: b2 :: r => if 10 ≤ b1.1 ∧ (tb (b1.1 - 10)).1 = 1 ∧ (tb (b1.1 - 10)).2.1 = 0 ∧ x_idx g.1 l1 (tb (b1.1 - 10)).2.2.1 = true ∧ 10 ≤ b2.1 ∧ (tb (b2.1 - 10)).1 = 1 ∧ (tb (b2.1 - 10)).2.1 = 0 ∧ x_idx g.1 l2 (tb (b2.1 - 10)).2.2.1 = true ∧ l2.1 ≠ [] ∧ x_one (tb (b2.1 - 10)).2.2.2 = none ∧ D.find? (fun q => q.1 == pc + 1) = some (pc + 1, .iastore, 1) ∧ ns.all (fun n => !(n.1 == pc + 1)) = true ∧ x_cov E (b2.1 - 10) (x_lb g.1 l2).toNat (x_ub g.1 l2).toNat = true ∧ x_en (x_sub1 (tb (b1.1 - 10)).2.2.2 (tb (b2.1 - 10)).2.2.2) g.1 (x_syms l1 l2) l1 l2 = true then
      some (pc + 2, (g.1, g.2.1, r, x_kill g.2.2.2.1 (b2.1 - 10) (x_lb g.1 l2).toNat (x_ub g.1 l2).toNat, g.2.2.2.2)) else none
  | _, _ => none
/-- a weight -/
def x_wrd (E : List (Nat × Nat × Nat)) (m : Nat) (i : Instr) (pc : Nat) (g : xG) : Option (List (Nat × xG)) := match i, g.2.2.1 with
  | .iaload, (0, l) :: b :: r => if b.1 = 46 ∧ x_flag E = true ∧ x_ent g.1 (xl_add l (xl_c (-41))) = true ∧ x_ent g.1 (xl_sub (xl_c 48) l) = true then (match x_ffind g.2.2.2.1 36 b.2 3 with
      | some q => if q.2.2.2.1 = 0 ∧ x_ent g.1 (xl_sub (xl_add q.2.2.2.2 (xl_c 40)) l) = true then x_hv m (pc + 1) g.1 g.2.1 g.2.2.1 r g.2.2.2.1 g.2.2.2.2 (fun s => [xl_add s (xl_c (-1))]) else none
      | none => none) else none
  | _, _ => none
/-- the checker: from pc with g to cut points and ends; go: the first instruction is done though a cut point stands there -/
def x_exec (tb : Nat → xT) (cts : List xC) (M : pM) (D : xD) (E : List (Nat × Nat × Nat)) (m0 m : Nat) (ps : List xP) (ns : List xN) (org : Option (List xL)) : Nat → Bool → Nat → xG → Bool
  | 0, _, _, _ => false
  | f + 1, go, pc, g => match (if go then [] else ns.filter (fun n => n.1 == pc)) with
    | n :: nr => (n :: nr).any (x_node tb m0 m org g)
    | [] => (match D.find? (fun q => q.1 == pc) with
      | none => false
      | some q => if pm_len q.2.1 q.2.2 = q.2.2 then (if x_isRet q.2.1 then (match x_retk q.2.1 M.ret g.1 g.2.2.1 with
          | some r => x_end tb m0 m g r ps
          | none => false) else (match pm_call q.2.1 with
          | none => (match x_cpy tb E D ns q.2.1 pc g with
            | some z => x_exec tb cts M D E m0 m ps ns org f false z.1 z.2
            | none => (match x_wrd E m q.2.1 pc g with
              | some out => out.all (fun z => x_exec tb cts M D E m0 m ps ns org f false z.1 z.2)
              | none => (match x_step tb E m M.own M.maxL q.2.1 pc g.1 g.2.1 g.2.2.1 g.2.2.2.1 g.2.2.2.2 with
                | some out => out.all (fun z => x_exec tb cts M D E m0 m ps ns org f false z.1 z.2)
                | none => false)))
          | some (w, k) => (match pm_ctab.find? (fun r => r.1 == M.own && r.2.1 == k) with
            | none => false
            | some c => (match c.2.2.1 with
              | 0 => false
              | 7 => (match g.2.2.1 with
                | (0, _) :: (0, _) :: r => decide (w = 2 ∧ x_sum r ≤ 8) && (match x_hv m (pc + 3) g.1 g.2.1 g.2.2.1 r g.2.2.2.1 g.2.2.2.2 (fun _ => []) with
                  | some out => out.all (fun z => x_exec tb cts M D E m0 m ps ns org f false z.1 z.2)
                  | none => false)
                | _ => false)
              | 8 => (match g.2.2.1 with
                | (0, _) :: (0, _) :: r => decide (w = 2 ∧ x_sum r ≤ 8) && (match x_hv m (pc + 3) g.1 g.2.1 g.2.2.1 r g.2.2.2.1 g.2.2.2.2 (fun _ => []) with
                  | some out => out.all (fun z => x_exec tb cts M D E m0 m ps ns org f false z.1 z.2)
                  | none => false)
                | _ => false)
              | 9 => (match g.2.2.1 with
                | (0, _) :: r => decide (w = 2 ∧ x_sum r ≤ 8) && (match x_hv m (pc + 3) g.1 g.2.1 g.2.2.1 r g.2.2.2.1 g.2.2.2.2 (fun _ => []) with
                  | some out => out.all (fun z => x_exec tb cts M D E m0 m ps ns org f false z.1 z.2)
                  | none => false)
                | _ => false)
              | kd => (match pm_tab[c.2.2.2.1]? with
                | some M' => if (kd = w ∨ kd = w + 3) ∧ pm_na M' ≤ g.2.2.1.length ∧ x_sum (g.2.2.1.drop (pm_na M')) ≤ 8 ∧ x_sum (g.2.2.1.take (pm_na M')) ≤ M'.maxL ∧ (M'.st = true ∨ x_rcv tb M' (g.2.2.1.take (pm_na M')).reverse = true) then
                    (match x_call tb E m c.2.2.2.1 (pm_na M') (pc + 3) g cts with
                    | some out => out.all (fun z => x_exec tb cts M D E m0 m ps ns org f false z.1 z.2)
                    | none => false) else false
                | none => false))))) else false)
/-- the parameters' places -/
def lv_argsX : Nat → List xV → List (Nat × xV)
  | _, [] => []
  | i, a :: as => (i, a) :: lv_argsX (if a.1 = 1 then i + 2 else i + 1) as
/-- a contract is kept -/
def x_chk (tb : Nat → xT) (cts : List xC) (c : xC) (M : pM) (D : xD) (ns : List xN) (f : Nat) : Bool :=
  (!x_flag c.2.2.2.2.2.1 || x_dis c.2.2.2.2.2.1) && x_exec tb cts M D c.2.2.2.2.2.1 c.2.2.2.2.1 c.2.2.2.2.1 c.2.2.2.2.2.2.2 ns none f false 0 (c.2.2.1, lv_argsX 0 c.2.1, [], c.2.2.2.1, c.2.2.2.2.1)
  && ns.all (fun n => decide (c.2.2.2.2.1 ≤ n.2.2.2.2.1) && decide (n.2.2.2.2.2.length = 5) && n.2.2.2.2.2.all (fun r => r.1.all (fun q => decide (q.1 < n.2.2.2.2.1))) && x_exec tb cts M D c.2.2.2.2.2.1 c.2.2.2.2.1 n.2.2.2.2.1 c.2.2.2.2.2.2.2 ns (some n.2.2.2.2.2) f true n.1 (n.2.2.2.1, n.2.1, [], n.2.2.1, n.2.2.2.2.1))
end
section
-- ===== patterns hold =====
section XG1
variable {tb : Nat → xT} {th : List Nat} {v : Nat → Int} {lv : pL} {ws : List Value} {G : List pE} {g : xG} {m : Nat}
theorem x_gs_mem {a : xV} : ∀ {as : List xV} {ws : List Value}, a ∈ as → x_gs th v as ws → ∃ w, x_g th v a w
  | [], _, h, _ => by cases h
  | _ :: _, [], _, h => h.elim
  | b :: as, w :: ws, h, hg => by
    rcases List.mem_cons.mp h with rfl | h
    · exact ⟨w, hg.1⟩
    · exact x_gs_mem h hg.2
theorem x_isC_ok {t : Nat} {cl : xL} (h : x_isC g t cl = true) (hS : x_S tb th v g lv ws G) : ∃ a : Nat, (a : Int) = xl_ev cl v ∧ th[a]? = some t := by
  have key : ∀ (a : xV) (w : Value), a.1 = t + 10 → a.2 = cl → x_g th v a w → ∃ b : Nat, (b : Int) = xl_ev cl v ∧ th[b]? = some t := by
    intro a w h1 h2 hg
    obtain ⟨b, -, h4, h5⟩ := x_g_cell hg (by omega)
    exact ⟨b, by rw [← h2]; exact h4, by rw [h5, h1, Nat.add_sub_cancel]⟩
  unfold x_isC at h
  simp only [Bool.or_eq_true, List.any_eq_true, Bool.and_eq_true, beq_iff_eq, decide_eq_true_eq] at h
  rcases h with ((⟨a, h1, h2, h3⟩ | ⟨q, h1, h2, h3⟩) | ⟨q, h1, h2, h3⟩) | ⟨q, h1, h2, h3⟩
  · obtain ⟨w, hw⟩ := x_gs_mem h1 hS.2.2.2.1
    exact key a w h2 h3 hw
  · obtain ⟨w, -, hw⟩ := hS.2.2.1 q h1
    exact key q.2 w h2 h3 hw
  · obtain ⟨a, -, -, w, -, hw⟩ := hS.2.2.2.2.1 q h1
    exact key q.2.2.2 w h2 h3 hw
  · obtain ⟨a, f1, f2, -⟩ := hS.2.2.2.2.1 q h1
    exact ⟨a, by rw [← h3]; exact f1, by rw [f2, h2]⟩
theorem x_isC_no {t i : Nat} {cl : xL} (h : x_isC g t cl = true) (hn : x_noG i g = true) : xt_no i cl.1 = true := by
  unfold x_noG at hn
  simp only [Bool.and_eq_true, List.all_eq_true] at hn
  obtain ⟨⟨⟨n1, n2⟩, n3⟩, n4⟩ := hn
  unfold x_isC at h
  simp only [Bool.or_eq_true, List.any_eq_true, Bool.and_eq_true, beq_iff_eq, decide_eq_true_eq] at h
  rcases h with ((⟨a, h1, h2, h3⟩ | ⟨q, h1, h2, h3⟩) | ⟨q, h1, h2, h3⟩) | ⟨q, h1, h2, h3⟩
  · rw [← h3]; exact n3 a h1
  · rw [← h3]; exact n2 q h1
  · rw [← h3]; exact (n4 q h1).2
  · rw [← h3]; exact (n4 q h1).1
theorem x_mat_ok {t i : Nat} {cl : xL} {g2 : xG} (h : x_mat tb m g t cl i = some g2) (hS : x_S tb th v g lv ws G) : ∃ v', x_ag m v v' ∧ x_S tb th v' g2 lv ws G ∧ g2.2.1 = g.2.1 ∧ g2.2.2.1 = g.2.2.1 := by
  unfold x_mat at h
  split at h
  · cases h
    exact ⟨v, x_ag.rf, hS, rfl, rfl⟩
  · split at h
    · rename_i hC
      split at h
      · rename_i f hf
        obtain ⟨b, hb, ht⟩ := x_isC_ok hC hS
        obtain ⟨w, hw, hok⟩ := (hS.2.2.2.2.2.2.2 b t ht).2 i f hf
        unfold xf_ok at hok
        split at h
        · rename_i h0
          rw [h0] at hok
          obtain ⟨x, rfl, b1, b2⟩ := hok
          split at h
          · rename_i hh
            cases h
            obtain ⟨c1, c2⟩ := x_i32 x
            obtain ⟨a1, a2, a3, a4, a5, a6⟩ := x_S_up (i := g.2.2.2.2) (x := x.toInt) hS hh.2 c1 c2
            refine ⟨_, x_ag.up hh.1, ⟨a1, fun c hc => ?_, a3, a4, fun q hq => ?_, a6⟩, rfl, rfl⟩
            · rcases List.mem_append.mp hc with h | h
              · rcases List.mem_cons.mp h with rfl | h
                · rw [xl_add_ev, xl_s_ev, xl_c_ev]
                  simp only [x_up, if_true]
                  omega
                · rw [List.mem_singleton.mp h, xl_sub_ev, xl_s_ev, xl_c_ev]
                  simp only [x_up, if_true]
                  omega
              · exact a2 c h
            · rcases List.mem_cons.mp hq with rfl | hq
              · exact ⟨b, by rw [xl_no_ev v _ (x_isC_no hC hh.2)]; exact hb, ht, _, hw, ⟨x, rfl, by rw [xl_s_ev]; simp [x_up]⟩⟩
              · exact a5 q hq
          · cases h
        · rename_i u h0
          rw [h0] at hok
          obtain ⟨k, rfl, hu⟩ := hok
          split at h
          · rename_i hh
            cases h
            have hkl := (hS.2.2.2.2.2.cell hu).1
            obtain ⟨a1, a2, a3, a4, a5, a6⟩ := x_S_up (i := g.2.2.2.2) (x := (k : Int)) hS hh.2 (by omega) (by unfold pm_TB at hkl; omega)
            refine ⟨_, x_ag.up hh.1, ⟨a1, a2, a3, a4, fun q hq => ?_, a6⟩, rfl, rfl⟩
            rcases List.mem_cons.mp hq with rfl | hq
            · exact ⟨b, by rw [xl_no_ev v _ (x_isC_no hC hh.2)]; exact hb, ht, _, hw, x_g_of_cell (by rw [xl_s_ev]; simp [x_up]) hu⟩
            · exact a5 q hq
          · cases h
        · cases h
      · cases h
    · cases h
theorem x_matL_ok : ∀ {pf : List xA} {g : xG} {v : Nat → Int} {bl bl2 : List (Nat × xL)} {g2 : xG}, x_matL tb m pf g bl = some (g2, bl2) → x_S tb th v g lv ws G → ∃ v', x_ag m v v' ∧ x_S tb th v' g2 lv ws G ∧ g2.2.1 = g.2.1 ∧ g2.2.2.1 = g.2.2.1
  | [], g, v, bl, bl2, g2, h, hS => by
    cases h
    exact ⟨v, x_ag.rf, hS, rfl, rfl⟩
  | q :: qs, g, v, bl, bl2, g2, h, hS => by
    unfold x_matL at h
    split at h
    · rename_i g1 hg1
      split at h
      · obtain ⟨v1, k1, k2, k3, k4⟩ := x_mat_ok hg1 hS
        obtain ⟨v2, j1, j2, j3, j4⟩ := x_matL_ok h k2
        exact ⟨v2, k1.tr j1, j2, j3.trans k3, j4.trans k4⟩
      · cases h
    · cases h
theorem x_g_kok {vc : Nat → Int} {p a : xV} {w : Value} (hk : x_kok p.1 a.1 = true) (he : xl_ev p.2 vc = xl_ev a.2 v ∨ (p.1 ≠ 0 ∧ p.1 < 10)) (hg : x_g th v a w) : x_g th vc p w := by
  obtain ⟨pk, pl⟩ := p
  obtain ⟨ak, al⟩ := a
  unfold x_kok at hk
  simp only [Bool.or_eq_true, Bool.and_eq_true, beq_iff_eq] at hk
  rcases hk with rfl | ⟨rfl, rfl⟩
  · unfold x_g at hg ⊢
    dsimp only at he hg ⊢
    split at hg
    · rename_i h0
      rcases he with he | he
      · rw [he]; exact hg
      · exact absurd rfl he.1
    · exact hg
    · exact hg
    · exact hg
    · exact hg
    · exact hg
    · rcases he with he | he
      · rw [he]; exact hg
      · exact absurd he.2 (by omega)
    · exact hg.elim
  · exact Or.inr hg
theorem x_okL_ok {b : Nat → xL} {v' : Nat → Int} : ∀ {pv av : List xV} {wv : List Value}, x_okL b pv av = true → x_gs th v' av wv → x_gs th (fun i => xl_ev (b i) v') pv wv
  | [], [], [], _, _ => trivial
  | [], [], _ :: _, _, h => h.elim
  | [], _ :: _, _, h, _ => by cases h
  | _ :: _, [], _, h, _ => by cases h
  | _ :: _, _ :: _, [], _, h => h.elim
  | p :: ps, a :: as, w :: ws, h, hg => by
    unfold x_okL at h
    simp only [Bool.and_eq_true, decide_eq_true_eq] at h
    refine ⟨x_g_kok h.1.1 (h.1.2.imp (fun e => ?_) id) hg.1, x_okL_ok h.2 hg.2⟩
    rw [← e, xl_subst_ev]
theorem x_ffind_ok {fa : List xA} {t i : Nat} {cl : xL} {f : xA} (h : x_ffind fa t cl i = some f) : f ∈ fa ∧ f.1 = t ∧ f.2.2.1 = i ∧ f.2.1 = cl := by
  unfold x_ffind at h
  have h1 := List.find?_some h
  simp only [Bool.and_eq_true, beq_iff_eq, decide_eq_true_eq] at h1
  exact ⟨List.mem_of_find?_eq_some h, h1.1.1, h1.1.2, h1.2⟩
theorem x_b_Bd {bl : List (Nat × xL)} {cs : List xL} (hB : x_Bd v) (hC : x_Cs cs v) (h : bl.all (fun q => x_rng cs q.2) = true) : x_Bd (fun i => xl_ev (x_b bl i) v) := by
  intro i
  show -2147483648 ≤ xl_ev (x_b bl i) v ∧ xl_ev (x_b bl i) v ≤ 2147483647
  unfold x_b
  split
  · rename_i q hq
    have := x_rng_ok hB hC (List.all_eq_true.mp h q (List.mem_of_find?_eq_some hq))
    omega
  · rw [xl_c_ev]
    omega
theorem x_inst_ok {bl bl2 : List (Nat × xL)} {pv av : List xV} {pf : List xA} {pc : List xL} {g2 : xG} (h : x_inst tb m bl pv pf pc av g = some (g2, bl2)) (hS : x_S tb th v g lv ws G) : ∃ v', x_ag m v v' ∧ x_S tb th v' g2 lv ws G ∧ g2.2.1 = g.2.1 ∧ g2.2.2.1 = g.2.2.1 ∧ x_Bd (fun i => xl_ev (x_b bl2 i) v') ∧ x_Cs pc (fun i => xl_ev (x_b bl2 i) v') ∧ (∀ q ∈ pf, x_fact th (fun i => xl_ev (x_b bl2 i) v') G q) ∧ ∀ wv, x_gs th v' av wv → x_gs th (fun i => xl_ev (x_b bl2 i) v') pv wv := by
  unfold x_inst at h
  split at h
  · rename_i g3 bl3 hm
    split at h
    · rename_i hok
      cases h
      obtain ⟨v', k1, k2, k3, k4⟩ := x_matL_ok hm hS
      refine ⟨v', k1, k2, k3, k4, x_b_Bd k2.1 k2.2.1 hok.2.2.2, fun c hc => ?_, fun q hq => ?_, fun wv hw => x_okL_ok hok.1 hw⟩
      · have := x_ent_ok k2.1 k2.2.1 (List.all_eq_true.mp hok.2.2.1 c hc)
        rw [xl_subst_ev] at this
        exact this
      · have hq1 := List.all_eq_true.mp hok.2.1 q hq
        unfold x_okF at hq1
        split at hq1
        · rename_i f hf
          obtain ⟨f1, f2, f3, f4⟩ := x_ffind_ok hf
          simp only [Bool.and_eq_true, decide_eq_true_eq] at hq1
          obtain ⟨a, e1, e2, w, e3, e4⟩ := k2.2.2.2.2.1 f f1
          refine ⟨a, ?_, by rw [e2, f2], w, by rw [← f3]; exact e3, x_g_kok hq1.1 (hq1.2.imp (fun e => ?_) id) e4⟩
          · rw [e1, f4, xl_subst_ev]
          · rw [← e, xl_subst_ev]
        · cases hq1
    · cases h
  · cases h
end XG1
end
section
-- ===== a call by its contract =====
def x_ans (th : List Nat) (v : Nat → Int) (a : Option xV) (r : Option Value) : Prop := match a, r with
  | none, none => True
  | some a, some w => x_g th v a w
  | _, _ => False
def x_runs (xs : Nat → Int32) (L J d : Nat) (M : pM) (pc : Nat) (lv : pL) (ws : List Value) (G : List pE) (r : Option Value) (G' : List pE) : Prop := ∃ f0, ∀ f, f0 ≤ f → pm_run xs L J f d M pc lv ws G 0 0 = some (r, G', 0, 0)
def x_Holds (tb : Nat → xT) (th : List Nat) (xs : Nat → Int32) (L J : Nat) (c : xC) (dm : Nat) : Prop := ∃ M, pm_tab[c.1]? = some M ∧ ∀ d, dm ≤ d → ∀ (v : Nat → Int) (as : List Value) (G : List pE), x_Bd v → x_Cs c.2.2.1 v → x_gs th v c.2.1 as → (∀ q ∈ c.2.2.2.1, x_fact th v G q) → xI tb th G → (x_flag c.2.2.2.2.2.1 = true → x_Q th G) →
  ∃ r G' v', x_runs xs L J d M 0 (lv_args 0 as) [] G r G' ∧ x_ag c.2.2.2.2.1 v v' ∧ x_Bd v' ∧ xI tb th G' ∧ x_eff th c.2.2.2.2.2.1 G G' ∧ ∃ p ∈ c.2.2.2.2.2.2.2, x_Cs p.2.1 v' ∧ (∀ q ∈ p.2.2, x_fact th v' G' q) ∧ x_ans th v' p.1 r
theorem xt_lt_ev {n : Nat} {v v' : Nat → Int} (h : ∀ i, i < n → v' i = v i) : ∀ {l : List (Nat × Int)}, l.all (fun q => decide (q.1 < n)) = true → xt_ev l v' = xt_ev l v
  | [], _ => rfl
  | q :: r, hl => by
    rw [List.all_cons, Bool.and_eq_true] at hl
    rw [xt_ev, xt_ev, xt_lt_ev h hl.2, h q.1 (of_decide_eq_true hl.1)]
theorem xl_lt_ev {n : Nat} {v v' : Nat → Int} (h : ∀ i, i < n → v' i = v i) {l : xL} (hl : l.1.all (fun q => decide (q.1 < n)) = true) : xl_ev l v' = xl_ev l v := by
  unfold xl_ev
  rw [xt_lt_ev h hl]
section XH
variable {tb : Nat → xT} {th : List Nat} {v : Nat → Int} {lv : pL} {ws : List Value} {G : List pE} {g : xG} {m : Nat}
theorem x_gs_len : ∀ {as : List xV} {ws : List Value}, x_gs th v as ws → ws.length = as.length
  | [], [], _ => rfl
  | [], _ :: _, h => h.elim
  | _ :: _, [], h => h.elim
  | a :: as, w :: ws, h => by rw [List.length_cons, List.length_cons, x_gs_len h.2]
theorem x_gs_app : ∀ {as bs : List xV} {ws us : List Value}, x_gs th v as ws → x_gs th v bs us → x_gs th v (as ++ bs) (ws ++ us)
  | [], _, [], _, _, h => h
  | [], _, _ :: _, _, h, _ => h.elim
  | _ :: _, _, [], _, h, _ => h.elim
  | a :: as, bs, w :: ws, us, h, h2 => ⟨h.1, x_gs_app h.2 h2⟩
theorem x_gs_take : ∀ (n : Nat) {as : List xV} {ws : List Value}, x_gs th v as ws → x_gs th v (as.take n).reverse (ws.take n).reverse ∧ x_gs th v (as.drop n) (ws.drop n)
  | 0, as, ws, h => ⟨trivial, h⟩
  | n + 1, [], [], _ => ⟨trivial, trivial⟩
  | n + 1, [], _ :: _, h => h.elim
  | n + 1, _ :: _, [], h => h.elim
  | n + 1, a :: as, w :: ws, h => by
    obtain ⟨h1, h2⟩ := x_gs_take n h.2
    refine ⟨?_, h2⟩
    rw [List.take_succ_cons, List.take_succ_cons, List.reverse_cons, List.reverse_cons]
    exact x_gs_app h1 ⟨h.1, trivial⟩
theorem x_gs_lt {n : Nat} {v' : Nat → Int} (hv : ∀ i, i < n → v' i = v i) : ∀ {as : List xV} {ws : List Value}, as.all (x_ltV n) = true → x_gs th v as ws → x_gs th v' as ws
  | [], [], _, _ => trivial
  | [], _ :: _, _, h => h.elim
  | _ :: _, [], _, h => h.elim
  | a :: as, w :: ws, hl, h => by
    rw [List.all_cons, Bool.and_eq_true] at hl
    exact ⟨x_g_ext (xl_lt_ev hv hl.1) h.1, x_gs_lt hv hl.2 h.2⟩
theorem x_S_lt {n : Nat} {v' : Nat → Int} (hv : ∀ i, i < n → v' i = v i) (hB : x_Bd v') (hl : x_ltG n g = true) (hS : x_S tb th v g lv ws G) : x_S tb th v' g lv ws G := by
  unfold x_ltG at hl
  simp only [Bool.and_eq_true, List.all_eq_true] at hl
  obtain ⟨⟨⟨l1, l2⟩, l3⟩, l4⟩ := hl
  obtain ⟨a1, a2, a3, a4, a5, a6⟩ := hS
  refine ⟨hB, fun c hc => ?_, fun q hq => ?_, x_gs_lt hv (List.all_eq_true.mpr l3) a4, fun q hq => ?_, a6⟩
  · rw [xl_lt_ev hv (List.all_eq_true.mpr (l1 c hc))]
    exact a2 c hc
  · obtain ⟨w, w1, w2⟩ := a3 q hq
    exact ⟨w, w1, x_g_ext (xl_lt_ev hv (l2 q hq)) w2⟩
  · obtain ⟨a, f1, f2, w, f3, f4⟩ := a5 q hq
    exact ⟨a, by rw [xl_lt_ev hv (List.all_eq_true.mpr (l4 q hq).1)]; exact f1, f2, w, f3, x_g_ext (xl_lt_ev hv (l4 q hq).2) f4⟩
theorem x_subE_ok {E E' : List (Nat × Nat × Nat)} {G' : List pE} (h : x_subE E E' = true) (he : x_eff th E G G') : x_eff th E' G G' := by
  refine he.mono (fun q hq => ?_)
  obtain ⟨r, h1, h2, h3, h4⟩ := x_cov_ok (List.all_eq_true.mp h q hq)
  exact ⟨r, h1, h2, h3, h4⟩
theorem x_subE_flag {E E' : List (Nat × Nat × Nat)} (h : x_subE E E' = true) (hf : x_flag E = true) : x_flag E' = true := by
  obtain ⟨q, hq, h1⟩ := List.any_eq_true.mp hf
  obtain ⟨r, h2, h3, -, -⟩ := x_cov_ok (List.all_eq_true.mp h q hq)
  exact List.any_eq_true.mpr ⟨r, h2, by rw [h3]; exact h1⟩
set_option maxHeartbeats 1000000 in
theorem x_call1_ok {xs : Nat → Int32} {L J : Nat} {E : List (Nat × Nat × Nat)} {c : xC} {dm d na pc : Nat} {M' : pM} {out : List (Nat × xG)} (hH : x_Holds tb th xs L J c dm) (hM : pm_tab[c.1]? = some M') (hd : dm ≤ d) (hS : x_S tb th v g lv ws G) (hQ : x_flag E = true → x_Q th G) (h : x_call1 tb E m c na pc g = some out) : ∃ q ∈ out, ∃ v2 r G', x_ag m v v2 ∧ x_runs xs L J d M' 0 (lv_args 0 (ws.take na).reverse) [] G r G' ∧ q.1 = pc ∧ x_S tb th v2 q.2 lv (r.toList ++ ws.drop na) G' ∧ x_eff th E G G' := by
  unfold x_call1 at h
  split at h
  · rename_i g2 bl hi
    split at h
    · rename_i hok
      cases h
      obtain ⟨k1, k2, k3, k4⟩ := hok
      obtain ⟨v', i1, i2, i3, i4, i5, i6, i7, i8⟩ := x_inst_ok hi hS
      obtain ⟨M0, hM0, hrun⟩ := hH
      rw [hM] at hM0
      cases hM0
      obtain ⟨t1, t2⟩ := x_gs_take na i2.2.2.2.1
      have hargs := i8 (ws.take na).reverse (by rw [← i4]; exact t1)
      obtain ⟨r, G', vc', r1, r2, r3, r4, r5, p, hp, p1, p2, p3⟩ := hrun d hd _ _ G i5 i6 hargs i7 i2.2.2.2.2.2 (fun z => hQ (x_subE_flag k4 z))
      have e0 : ∃ v2 : Nat → Int, (∀ i, i < g2.2.2.2.2 → v2 i = v' i) ∧ x_Bd v2 ∧ ∀ i, xl_ev (x_b2 bl c.2.2.2.2.1 g2.2.2.2.2 i) v2 = vc' i := by
        refine ⟨fun j => if j < g2.2.2.2.2 then v' j else vc' (j - g2.2.2.2.2 + c.2.2.2.2.1), fun i hi => if_pos hi, fun j => ?_, fun i => ?_⟩
        · dsimp only
          split
          · exact i2.1 j
          · exact r3 _
        · unfold x_b2
          split
          · rename_i hi
            rw [xl_lt_ev (v := v') (n := g2.2.2.2.2) (fun i hi => if_pos hi)]
            · exact (r2 i hi).symm
            · unfold x_b
              split
              · rename_i q hq
                exact List.all_eq_true.mp k3 q (List.mem_of_find?_eq_some hq)
              · rfl
          · rename_i hi
            rw [xl_s_ev]
            rw [if_neg (by omega)]
            congr 1
            omega
      obtain ⟨v2, e1, e2, e3⟩ := e0
      have ef : (fun i => xl_ev (x_b2 bl c.2.2.2.2.1 g2.2.2.2.2 i) v2) = vc' := funext e3
      have es : ∀ l : xL, xl_ev (xl_subst (x_b2 bl c.2.2.2.2.1 g2.2.2.2.2) l) v2 = xl_ev l vc' := fun l => by rw [xl_subst_ev, ef]
      have hg : ∀ (a : xV) (w : Value), x_g th vc' a w → x_g th v2 (x_subV (x_b2 bl c.2.2.2.2.1 g2.2.2.2.2) a) w := by
        intro a w ha
        refine x_g_kok (v := vc') (p := x_subV _ a) (a := a) ?_ (Or.inl (es a.2)) ha
        unfold x_kok x_subV
        simp
      have hS2 := x_S_lt e1 e2 k2 i2
      have hpc : x_Cs (p.2.1.map (xl_subst (x_b2 bl c.2.2.2.2.1 g2.2.2.2.2))) v2 := fun cc h => by
        obtain ⟨l, hl, rfl⟩ := List.mem_map.mp h
        rw [es]
        exact p1 l hl
      refine ⟨_, List.mem_map.mpr ⟨p, List.mem_filter.mpr ⟨hp, by rw [x_inf_ok hS2.1 hS2.2.1 hpc]; rfl⟩, rfl⟩, v2, r, G', fun i hi => (e1 i (by omega)).trans (i1 i hi), r1, rfl, ⟨e2, fun cc hc => ?_, ?_, ?_, fun q hq => ?_, r4⟩, x_subE_ok k4 r5⟩
      · rcases List.mem_append.mp hc with h | h
        · obtain ⟨l, hl, rfl⟩ := List.mem_map.mp h
          rw [es]
          exact p1 l hl
        · exact hS2.2.1 cc h
      · exact hS2.2.2.1
      · refine x_gs_app ?_ (x_gs_take na hS2.2.2.2.1).2
        cases hp1 : p.1 with
        | none =>
          rw [hp1] at p3
          cases r with
          | none => trivial
          | some w => exact False.elim p3
        | some a =>
          rw [hp1] at p3
          cases r with
          | none => exact False.elim p3
          | some w => exact ⟨hg _ _ p3, trivial⟩
      · rcases List.mem_append.mp hq with h | h
        · obtain ⟨f, hf, rfl⟩ := List.mem_map.mp h
          obtain ⟨a, f1, f2, w, f3, f4⟩ := p2 f hf
          exact ⟨a, by show _ = xl_ev (xl_subst _ f.2.1) v2; rw [es]; exact f1, f2, w, f3, hg _ _ f4⟩
        · unfold x_killE at h
          obtain ⟨h1, h2⟩ := List.mem_filter.mp h
          obtain ⟨a, f1, f2, w, f3, f4⟩ := hS2.2.2.2.2.1 q h1
          refine ⟨a, f1, f2, w, ?_, f4⟩
          rw [r5 a q.1 q.2.2.1 f2]
          · exact f3
          · intro z hz hh
            rw [Bool.not_eq_true'] at h2
            have := List.any_eq_false.mp h2 z hz
            simp [hh.1, hh.2.1, hh.2.2] at this
    · cases h
  · cases h
theorem x_call_ok {xs : Nat → Int32} {L J : Nat} {E : List (Nat × Nat × Nat)} {dm d mi na pc : Nat} {M' : pM} {out : List (Nat × xG)} (hM : pm_tab[mi]? = some M') (hd : dm ≤ d) (hS : x_S tb th v g lv ws G) (hQ : x_flag E = true → x_Q th G) : ∀ {cts : List xC}, (∀ c ∈ cts, x_Holds tb th xs L J c dm) → x_call tb E m mi na pc g cts = some out → ∃ q ∈ out, ∃ v2 r G', x_ag m v v2 ∧ x_runs xs L J d M' 0 (lv_args 0 (ws.take na).reverse) [] G r G' ∧ q.1 = pc ∧ x_S tb th v2 q.2 lv (r.toList ++ ws.drop na) G' ∧ x_eff th E G G'
  | [], _, h => by cases h
  | c :: cts, hc, h => by
    unfold x_call at h
    have ih := fun h => x_call_ok (E := E) (pc := pc) (na := na) (out := out) hM hd hS hQ (cts := cts) (fun c h => hc c (List.mem_cons_of_mem _ h)) h
    split at h
    · rename_i hmi
      split at h
      · rename_i r0 hr0
        cases h
        subst hmi
        exact x_call1_ok (hc c List.mem_cons_self) hM hd hS hQ hr0
      · exact ih h
    · exact ih h
end XH
end
section
-- ===== the checker is sound =====
def x_Post (tb : Nat → xT) (th : List Nat) (E : List (Nat × Nat × Nat)) (ps : List xP) (m0 : Nat) (v0 : Nat → Int) (G0 : List pE) (r : Option Value) (G' : List pE) : Prop := ∃ v', x_ag m0 v0 v' ∧ x_Bd v' ∧ xI tb th G' ∧ x_eff th E G0 G' ∧ ∃ p ∈ ps, x_Cs p.2.1 v' ∧ (∀ q ∈ p.2.2, x_fact th v' G' q) ∧ x_ans th v' p.1 r
def x_Good (tb : Nat → xT) (th : List Nat) (xs : Nat → Int32) (L J d : Nat) (M : pM) (E : List (Nat × Nat × Nat)) (ps : List xP) (m0 : Nat) (v0 : Nat → Int) (G0 : List pE) (pc : Nat) (lv : pL) (ws : List Value) (G : List pE) : Prop := ∃ r G', x_runs xs L J d M pc lv ws G r G' ∧ x_Post tb th E ps m0 v0 G0 r G'
theorem x_ret_none {i : Instr} (h : x_isRet i = false) (rt : Option FieldType) (ws : List Value) : pm_ret i rt ws = none := by
  cases i <;> first | rfl | cases h
section XR
variable {xs : Nat → Int32} {L J d : Nat} {M : pM} {pc n : Nat} {i : Instr} {lv lv' : pL} {ws ws' : List Value} {G G1 G' : List pE} {r : Option Value}
theorem x_runs_ret (hd : decode M.code pc = .ok (i, n)) (hn : pm_len i n = n) (hr : pm_ret i M.ret ws = some r) : x_runs xs L J d M pc lv ws G r G := by
  refine ⟨1, fun f hf => ?_⟩
  obtain ⟨f, rfl⟩ : ∃ k, f = k + 1 := ⟨f - 1, by omega⟩
  rw [pm_run, hd]
  dsimp only
  rw [if_pos hn, hr]
theorem x_runs_step {pc' : Nat} (hd : decode M.code pc = .ok (i, n)) (hn : pm_len i n = n) (hi : x_isRet i = false) (hc : pm_call i = none) (hs : pm_step M.own M.maxL (decide (M.y.name = "<init>")) xs L J i pc lv ws G = some (pc', lv', ws', G1, 0, 0)) (hk : x_runs xs L J d M pc' lv' ws' G1 r G') : x_runs xs L J d M pc lv ws G r G' := by
  obtain ⟨f0, hf0⟩ := hk
  refine ⟨f0 + 1, fun f hf => ?_⟩
  obtain ⟨f, rfl⟩ : ∃ k, f = k + 1 := ⟨f - 1, by omega⟩
  rw [pm_run, hd]
  dsimp only
  rw [if_pos hn, x_ret_none hi, hc]
  dsimp only
  rw [hs]
  exact hf0 f (by omega)
theorem x_runs_call {w k : Nat} {q : Nat × Nat × Nat × Nat × Nat} {M' : pM} {r1 : Option Value} (hd : decode M.code pc = .ok (i, n)) (hn : pm_len i n = n) (hi : x_isRet i = false) (hc : pm_call i = some (w, k)) (hf : pm_ctab.find? (fun r => r.1 == M.own && r.2.1 == k) = some q) (h0 : q.2.2.1 ≠ 0 ∧ q.2.2.1 ≠ 7 ∧ q.2.2.1 ≠ 8 ∧ q.2.2.1 ≠ 9) (hM' : pm_tab[q.2.2.2.1]? = some M')
    (hok : (q.2.2.1 = w ∨ q.2.2.1 = w + 3) ∧ pm_na M' ≤ ws.length ∧ pm_recv q.2.2.1 M' (ws.take (pm_na M')).reverse G = true ∧ (lg_sl (ws.take (pm_na M')).reverse).length ≤ M'.maxL ∧ ((ws.drop (pm_na M')).map fun v => v.category).sum ≤ 8)
    (h1 : x_runs xs L J d M' 0 (lv_args 0 (ws.take (pm_na M')).reverse) [] G r1 G1) (h2 : x_runs xs L J (d + 1) M (pc + 3) lv (r1.toList ++ ws.drop (pm_na M')) G1 r G') : x_runs xs L J (d + 1) M pc lv ws G r G' := by
  obtain ⟨f1, hf1⟩ := h1
  obtain ⟨f2, hf2⟩ := h2
  refine ⟨f1 + f2 + 1, fun f hf0 => ?_⟩
  obtain ⟨f, rfl⟩ : ∃ k, f = k + 1 := ⟨f - 1, by omega⟩
  rw [pm_run, hd]
  dsimp only
  rw [if_pos hn, x_ret_none hi, hc]
  dsimp only
  rw [hf]
  dsimp only
  split
  · rename_i h; exact absurd h h0.1
  · rename_i h; exact absurd h h0.2.1
  · rename_i h; exact absurd h h0.2.2.1
  · rename_i h; exact absurd h h0.2.2.2
  · rw [hM']
    dsimp only
    rw [if_pos hok, hf1 f (by omega)]
    dsimp only
    rw [hf2 f (by omega)]
theorem x_runs_max {k : Nat} {q : Nat × Nat × Nat × Nat × Nat} {x y : Int32} {rr : List Value} (hd : decode M.code pc = .ok (i, n)) (hn : pm_len i n = n) (hi : x_isRet i = false) (hc : pm_call i = some (2, k)) (hf : pm_ctab.find? (fun r => r.1 == M.own && r.2.1 == k) = some q) (h0 : q.2.2.1 = 7) (hs : (rr.map fun v => v.category).sum ≤ 8) (h2 : x_runs xs L J (d + 1) M (pc + 3) lv (.int (if x < y then y else x) :: rr) G r G') : x_runs xs L J (d + 1) M pc lv (.int y :: .int x :: rr) G r G' := by
  obtain ⟨f2, hf2⟩ := h2
  refine ⟨f2 + 1, fun f hf0 => ?_⟩
  obtain ⟨f, rfl⟩ : ∃ k, f = k + 1 := ⟨f - 1, by omega⟩
  rw [pm_run, hd]
  dsimp only
  rw [if_pos hn, x_ret_none hi, hc]
  dsimp only
  rw [hf]
  dsimp only
  rw [h0]
  show (if 2 = 2 ∧ 0 < d + 1 ∧ (rr.map fun v => v.category).sum ≤ 8 then pm_run xs L J f (d + 1) M (pc + 3) lv (.int (if x < y then y else x) :: rr) G 0 0 else none) = _
  rw [if_pos ⟨rfl, by omega, hs⟩]
  exact hf2 f (by omega)
theorem x_runs_min {k : Nat} {q : Nat × Nat × Nat × Nat × Nat} {x y : Int32} {rr : List Value} (hd : decode M.code pc = .ok (i, n)) (hn : pm_len i n = n) (hi : x_isRet i = false) (hc : pm_call i = some (2, k)) (hf : pm_ctab.find? (fun r => r.1 == M.own && r.2.1 == k) = some q) (h0 : q.2.2.1 = 8) (hs : (rr.map fun v => v.category).sum ≤ 8) (h2 : x_runs xs L J (d + 1) M (pc + 3) lv (.int (if y < x then y else x) :: rr) G r G') : x_runs xs L J (d + 1) M pc lv (.int y :: .int x :: rr) G r G' := by
  obtain ⟨f2, hf2⟩ := h2
  refine ⟨f2 + 1, fun f hf0 => ?_⟩
  obtain ⟨f, rfl⟩ : ∃ k, f = k + 1 := ⟨f - 1, by omega⟩
  rw [pm_run, hd]
  dsimp only
  rw [if_pos hn, x_ret_none hi, hc]
  dsimp only
  rw [hf]
  dsimp only
  rw [h0]
  show (if 2 = 2 ∧ 0 < d + 1 ∧ (rr.map fun v => v.category).sum ≤ 8 then pm_run xs L J f (d + 1) M (pc + 3) lv (.int (if y < x then y else x) :: rr) G 0 0 else none) = _
  rw [if_pos ⟨rfl, by omega, hs⟩]
  exact hf2 f (by omega)
theorem x_runs_abs {k : Nat} {q : Nat × Nat × Nat × Nat × Nat} {x : Int32} {rr : List Value} (hd : decode M.code pc = .ok (i, n)) (hn : pm_len i n = n) (hi : x_isRet i = false) (hc : pm_call i = some (2, k)) (hf : pm_ctab.find? (fun r => r.1 == M.own && r.2.1 == k) = some q) (h0 : q.2.2.1 = 9) (hs : (rr.map fun v => v.category).sum ≤ 8) (h2 : x_runs xs L J (d + 1) M (pc + 3) lv (.int (if 0 ≤ x then x else 0 - x) :: rr) G r G') : x_runs xs L J (d + 1) M pc lv (.int x :: rr) G r G' := by
  obtain ⟨f2, hf2⟩ := h2
  refine ⟨f2 + 1, fun f hf0 => ?_⟩
  obtain ⟨f, rfl⟩ : ∃ k, f = k + 1 := ⟨f - 1, by omega⟩
  rw [pm_run, hd]
  dsimp only
  rw [if_pos hn, x_ret_none hi, hc]
  dsimp only
  rw [hf]
  dsimp only
  rw [h0]
  show (if 2 = 2 ∧ 0 < d + 1 ∧ (rr.map fun v => v.category).sum ≤ 8 then pm_run xs L J f (d + 1) M (pc + 3) lv (.int (if 0 ≤ x then x else 0 - x) :: rr) G 0 0 else none) = _
  rw [if_pos ⟨rfl, by omega, hs⟩]
  exact hf2 f (by omega)
end XR
section XK
variable {tb : Nat → xT} {th : List Nat} {v : Nat → Int} {lv : pL} {ws : List Value} {G : List pE} {g : xG} {m m0 : Nat}
theorem x_retk_ok {i : Instr} {rt : Option FieldType} {cs : List xL} {st : List xV} {ra : Option xV} (hB : x_Bd v) (hC : x_Cs cs v) (hst : x_gs th v st ws) (h : x_retk i rt cs st = some ra) : ∃ r, pm_ret i rt ws = some r ∧ ((ra = none ∧ r = none) ∨ ∃ b w, ra = some b ∧ st = [b] ∧ ws = [w] ∧ r = some w) := by
  unfold x_retk at h
  split at h
  · split at h
    · rename_i ht
      cases h
      cases ws with
      | nil => exact ⟨none, by unfold pm_ret; simp [ht], Or.inl ⟨rfl, rfl⟩⟩
      | cons w r => exact hst.elim
    · cases h
  · rename_i l
    obtain ⟨w1, r1, rfl, g1, hs1⟩ := x_gs_cons hst
    obtain ⟨x, rfl, ex⟩ := x_g0 g1
    cases r1 with
    | cons w r => exact hs1.elim
    | nil =>
      split at h
      · cases h
        exact ⟨some (.int x), by unfold pm_ret; simp [narrow], Or.inr ⟨_, _, rfl, rfl, rfl, rfl⟩⟩
      · split at h
        · rename_i hh
          cases h
          rw [Bool.and_eq_true] at hh
          have k1 := x_ent_ok hB hC hh.1
          have k2 := x_ent_ok hB hC hh.2
          rw [xl_sub_ev, xl_c_ev] at k2
          refine ⟨some (.int x), ?_, Or.inr ⟨_, _, rfl, rfl, rfl, rfl⟩⟩
          have : x.toInt = 0 ∨ x.toInt = 1 := by omega
          rcases this with h3 | h3
          · obtain rfl : x = 0 := Int32.toInt_inj.mp h3
            rfl
          · obtain rfl : x = 1 := Int32.toInt_inj.mp h3
            rfl
        · cases h
      · cases h
  · rename_i a
    obtain ⟨w1, r1, rfl, g1, hs1⟩ := x_gs_cons hst
    cases r1 with
    | cons w r => exact hs1.elim
    | nil =>
      split at h
      · split at h
        · rename_i hk
          cases h
          rcases x_g_ref g1 (by omega) with ⟨k, rfl⟩ | rfl
          · exact ⟨some (.ref k), rfl, Or.inr ⟨_, _, rfl, rfl, rfl, rfl⟩⟩
          · exfalso
            obtain ⟨ak, al⟩ := a
            rcases hk with h3 | h3
            · obtain rfl : ak = 3 := h3
              obtain ⟨k, z, -⟩ := g1
              cases z
            · obtain ⟨k, z, -⟩ := x_g_cell g1 h3
              cases z
        · cases h
      · cases h
  · cases h
theorem x_isId_ag {bl : List (Nat × xL)} {v' : Nat → Int} (h : x_isId m0 bl = true) : x_ag m0 v' (fun i => xl_ev (x_b bl i) v') := by
  intro i hi
  have := of_decide_eq_true (List.all_eq_true.mp h i (List.mem_range.mpr hi))
  show xl_ev (x_b bl i) v' = v' i
  rw [this, xl_s_ev]
theorem x_end_ok {E : List (Nat × Nat × Nat)} {ps : List xP} {v0 : Nat → Int} {G0 : List pE} {ra : Option xV} {r : Option Value} (h : x_end tb m0 m g ra ps = true) (hm : m0 ≤ m) (hS : x_S tb th v g lv ws G) (h0 : x_ag m0 v0 v) (hE : x_eff th E G0 G) (hr : (ra = none ∧ r = none) ∨ ∃ b w, ra = some b ∧ g.2.2.1 = [b] ∧ ws = [w] ∧ r = some w) : x_Post tb th E ps m0 v0 G0 r G := by
  unfold x_end at h
  obtain ⟨p, hp, h1⟩ := List.any_eq_true.mp h
  split at h1
  · rename_i hpn
    split at h1
    · rename_i g2 bl hi
      obtain ⟨v', k1, k2, k3, k4, k5, k6, k7, k8⟩ := x_inst_ok hi hS
      rcases hr with ⟨-, rfl⟩ | ⟨b, w, hb, -⟩
      · exact ⟨_, h0.tr (x_ag.tr (m := m0) (v1 := v') (fun i hi => k1 i (by omega)) (x_isId_ag h1)), k5, k2.2.2.2.2.2, hE, p, hp, k6, k7, by rw [hpn]; trivial⟩
      · cases hb
    · cases h1
  · rename_i a b hpa
    split at h1
    · rename_i g2 bl hi
      obtain ⟨v', k1, k2, k3, k4, k5, k6, k7, k8⟩ := x_inst_ok hi hS
      rcases hr with ⟨hb, -⟩ | ⟨b', w, hb, hs, rfl, rfl⟩
      · cases hb
      · cases hb
        have hgs := k2.2.2.2.1
        rw [k4, hs] at hgs
        exact ⟨_, h0.tr (x_ag.tr (m := m0) (v1 := v') (fun i hi => k1 i (by omega)) (x_isId_ag h1)), k5, k2.2.2.2.2.2, hE, p, hp, k6, k7, by rw [hpa]; exact (k8 [w] hgs).1⟩
    · cases h1
  · cases h1
def x_lex : List Nat → List Nat → Prop
  | b :: bs, a :: as => b < a ∨ (b ≤ a ∧ x_lex bs as)
  | _, _ => False
theorem x_lex_ind : ∀ (k : Nat) (P : List Nat → Prop), (∀ a : List Nat, a.length = k → (∀ b : List Nat, b.length = k → x_lex b a → P b) → P a) → ∀ a : List Nat, a.length = k → P a
  | 0, P, h, a, ha => h a ha (fun b hb hl => by
      cases b with
      | nil => exact hl.elim
      | cons x y => cases hb)
  | k + 1, P, h, a, ha => by
    cases a with
    | nil => cases ha
    | cons x xs =>
      have key : ∀ x : Nat, ∀ xs : List Nat, xs.length = k → P (x :: xs) := by
        intro x
        induction x using Nat.strongRecOn with
        | ind x ihx =>
          intro xs hxs
          refine x_lex_ind k (fun ys => P (x :: ys)) (fun ys hys ih => ?_) xs hxs
          refine h (x :: ys) (by rw [List.length_cons, hys]) (fun b hb hl => ?_)
          cases b with
          | nil => cases hb
          | cons z zs =>
            have hzs : zs.length = k := by simpa using hb
            rcases hl with hl | ⟨hl1, hl2⟩
            · exact ihx z hl zs hzs
            · rcases Nat.lt_or_ge z x with h3 | h3
              · exact ihx z h3 zs hzs
              · obtain rfl : z = x := by omega
                exact ih zs hzs hl2
      exact key x xs (by simpa using ha)
theorem x_dec_ok {cs : List xL} (hB : x_Bd v) (hC : x_Cs cs v) : ∀ {as bs : List xL}, x_dec cs as bs = true → x_lex (bs.map (fun l => (xl_ev l v).toNat)) (as.map (fun l => (xl_ev l v).toNat))
  | [], _, h => by cases h
  | _ :: _, [], h => by cases h
  | a :: as, b :: bs, h => by
    unfold x_dec at h
    simp only [Bool.and_eq_true, Bool.or_eq_true] at h
    have h1 := x_ent_ok hB hC h.1
    rcases h.2 with h2 | ⟨h2, h3⟩
    · have h2 := x_ent_ok hB hC h2
      rw [xl_add_ev, xl_sub_ev, xl_c_ev] at h2
      exact Or.inl (show (xl_ev b v).toNat < (xl_ev a v).toNat by omega)
    · have h2 := x_ent_ok hB hC h2
      rw [xl_sub_ev] at h2
      exact Or.inr ⟨show (xl_ev b v).toNat ≤ (xl_ev a v).toNat by omega, x_dec_ok hB hC h3⟩
theorem x_lgets_ok {lo : List (Nat × xV)} (hlo : ∀ q ∈ lo, ∃ w, pm_get lv q.1 = some w ∧ x_g th v q.2 w) : ∀ {nl : List (Nat × xV)} {av : List xV}, x_lgets lo nl = some av → ∃ wv, x_gs th v av wv ∧ ∀ vn, x_gs th vn (nl.map (fun q => q.2)) wv → ∀ q ∈ nl, ∃ w, pm_get lv q.1 = some w ∧ x_g th vn q.2 w
  | [], av, h => by
    cases h
    exact ⟨[], trivial, fun vn _ q hq => by cases hq⟩
  | q :: qs, av, h => by
    unfold x_lgets at h
    split at h
    · rename_i a as ha has
      cases h
      obtain ⟨w, w1, w2⟩ := x_lget_ok ha hlo
      obtain ⟨wv, k1, k2⟩ := x_lgets_ok hlo has
      refine ⟨w :: wv, ⟨w2, k1⟩, fun vn hv z hz => ?_⟩
      rcases List.mem_cons.mp hz with rfl | hz
      · exact ⟨w, w1, hv.1⟩
      · exact k2 vn hv.2 z hz
    · cases h
theorem x_node_ok {org : Option (List xL)} {n : xN} (h : x_node tb m0 m org g n = true) (hm : m0 ≤ m) (hS : x_S tb th v g lv ws G) : ws = [] ∧ ∃ vn v', x_ag m0 v vn ∧ x_ag m v v' ∧ x_S tb th vn (n.2.2.2.1, n.2.1, [], n.2.2.1, n.2.2.2.2.1) lv [] G ∧ ∀ a, org = some a → x_lex (n.2.2.2.2.2.map (fun l => (xl_ev l vn).toNat)) (a.map (fun l => (xl_ev l v').toNat)) := by
  unfold x_node at h
  split at h
  · rename_i hst
    have hw := hS.2.2.2.1
    rw [hst] at hw
    obtain rfl : ws = [] := by
      cases ws with
      | nil => rfl
      | cons a b => exact hw.elim
    refine ⟨rfl, ?_⟩
    split at h
    · rename_i av hav
      split at h
      · rename_i g2 bl hi
        rw [Bool.and_eq_true] at h
        obtain ⟨v', k1, k2, k3, k4, k5, k6, k7, k8⟩ := x_inst_ok hi hS
        have hlo := k2.2.2.1
        rw [k3] at hlo
        obtain ⟨wv, j1, j2⟩ := x_lgets_ok hlo hav
        refine ⟨fun i => xl_ev (x_b bl i) v', v', x_ag.tr (m := m0) (v1 := v') (fun i hi => k1 i (by omega)) (x_isId_ag h.1), k1, ⟨k5, k6, j2 _ (k8 wv j1), trivial, k7, k2.2.2.2.2.2⟩, fun a ha => ?_⟩
        have h2 := h.2
        rw [ha] at h2
        have h3 := x_dec_ok k2.1 k2.2.1 h2
        rw [List.map_map] at h3
        have e : (fun l => (xl_ev l v').toNat) ∘ xl_subst (x_b bl) = fun l => (xl_ev l (fun i => xl_ev (x_b bl i) v')).toNat := by
          funext l
          show (xl_ev (xl_subst (x_b bl) l) v').toNat = _
          rw [xl_subst_ev]
        rw [e] at h3
        exact h3
      · cases h
    · cases h
  · cases h
end XK
end
section
-- ===== the checker is sound, all of it =====
theorem x_cat2 {th : List Nat} {v : Nat → Int} {a : xV} {w : Value} (h : x_g th v a w) : w.category = if a.1 = 1 then 2 else 1 := by
  split
  · rename_i h1
    obtain ⟨ak, al⟩ := a
    obtain rfl : ak = 1 := h1
    obtain ⟨x, rfl⟩ := h
    rfl
  · rename_i h1
    exact x_g_cat h h1
theorem x_sum_ok {th : List Nat} {v : Nat → Int} : ∀ {st : List xV} {ws : List Value}, x_gs th v st ws → (ws.map fun w => w.category).sum = x_sum st
  | [], [], _ => rfl
  | [], _ :: _, h => h.elim
  | _ :: _, [], h => h.elim
  | a :: st, w :: ws, h => by
    unfold x_sum
    rw [List.map_cons, List.map_cons, List.sum_cons, List.sum_cons, x_sum_ok h.2, x_cat2 h.1]
    rfl
theorem x_sl_sum : ∀ as : List Value, (lg_sl as).length = (as.map fun w => w.category).sum
  | [] => rfl
  | w :: as => by
    have h := x_sl_sum as
    unfold lg_sl at h ⊢
    rw [List.flatMap_cons, List.length_append, h, List.map_cons, List.sum_cons]
    congr 1
    rcases lv_cat w with h1 | h1 <;> simp [h1]
theorem x_sum_rev (as : List Value) : (as.reverse.map fun w => w.category).sum = (as.map fun w => w.category).sum := by
  rw [List.map_reverse]
  exact List.sum_reverse _
theorem x_gs_take1 {th : List Nat} {v : Nat → Int} : ∀ (n : Nat) {as : List xV} {ws : List Value}, x_gs th v as ws → x_gs th v (as.take n) (ws.take n)
  | 0, _, _, _ => trivial
  | _ + 1, [], [], _ => trivial
  | _ + 1, [], _ :: _, h => h.elim
  | _ + 1, _ :: _, [], h => h.elim
  | n + 1, a :: as, w :: ws, h => ⟨h.1, x_gs_take1 n h.2⟩
theorem x_recv_ok {tb : Nat → xT} {th : List Nat} {v : Nat → Int} {M' : pM} {st : List xV} {as : List Value} {G : List pE} {k : Nat} (hI : xI tb th G) (hg : x_gs th v st as) (h : M'.st = true ∨ x_rcv tb M' st = true) : pm_recv k M' as G = true := by
  unfold pm_recv
  rcases h with h | h
  · rw [h]
  · split
    · rfl
    · cases st with
      | nil => cases h
      | cons a st' =>
        obtain ⟨w, r, rfl, g1, -⟩ := x_gs_cons hg
        unfold x_rcv at h
        simp only [Bool.and_eq_true, decide_eq_true_eq, beq_iff_eq] at h
        obtain ⟨b, rfl, -, hb⟩ := x_g_cell g1 h.1.1
        obtain ⟨e, he, hs⟩ := (hI.2.2 b _ hb).1
        obtain ⟨fs, rfl, -⟩ := x_obj hs h.1.2
        dsimp only
        split
        · rfl
        · rfl
        · rw [he]
          dsimp only
          rw [h.2]
          simp
theorem x_runs_iastore {xs : Nat → Int32} {L J d : Nat} {M : pM} {pc pc' : Nat} {lv lv' : pL} {ws ws' : List Value} {G G1 G' : List pE} {r : Option Value} (hd : decode M.code pc = .ok (Instr.iastore, 1)) (hs : pm_step M.own M.maxL (decide (M.y.name = "<init>")) xs L J .iastore pc lv ws G = some (pc', lv', ws', G1, 0, 0)) (hk : x_runs xs L J d M pc' lv' ws' G1 r G') : x_runs xs L J d M pc lv ws G r G' := x_runs_step (i := .iastore) (n := 1) hd rfl rfl rfl hs hk
/-- runs to an end of which K holds -/
def x_Gd (xs : Nat → Int32) (L J d : Nat) (M : pM) (K : Option Value → List pE → Prop) (pc : Nat) (lv : pL) (ws : List Value) (G : List pE) : Prop := ∃ r G', x_runs xs L J d M pc lv ws G r G' ∧ K r G'
theorem x_Gd.via {xs : Nat → Int32} {L J d : Nat} {M : pM} {K : Option Value → List pE → Prop} {pc pc' : Nat} {lv lv' : pL} {ws ws' : List Value} {G G1 : List pE} (h : x_Gd xs L J d M K pc' lv' ws' G1) (hr : ∀ r G', x_runs xs L J d M pc' lv' ws' G1 r G' → x_runs xs L J d M pc lv ws G r G') : x_Gd xs L J d M K pc lv ws G := by
  obtain ⟨r, G', h1, h2⟩ := h
  exact ⟨r, G', hr r G' h1, h2⟩
set_option maxHeartbeats 1000000 in
theorem x_wrd_ok {tb : Nat → xT} {th : List Nat} {v : Nat → Int} {lv : pL} {ws : List Value} {G : List pE} {E : List (Nat × Nat × Nat)} {m own nL L J pc : Nat} {ini : Bool} {xs : Nat → Int32} {i : Instr} {g : xG} {out : List (Nat × xG)} (hT : x_wf tb) (h36 : (tb 36).1 = 1 ∧ (tb 36).2.1 = 0 ∧ (tb 36).2.2.1 = 324) (hS : x_S tb th v g lv ws G) (hQ : x_flag E = true → x_Q th G) (h : x_wrd E m i pc g = some out) : x_Go tb th E m own nL ini xs L J i pc v lv ws G out := by
  obtain ⟨cs, lo, st, fa, nx⟩ := g
  obtain ⟨hB, hC, hlo, hst, hfa, hI⟩ := id hS
  dsimp only [x_wrd] at h
  split at h
  · rename_i l b r
    obtain ⟨w1, r1, rfl, g1, hs1⟩ := x_gs_cons hst
    obtain ⟨w2, r2, rfl, g2, hs2⟩ := x_gs_cons hs1
    split at h
    · rename_i hk
      obtain ⟨k1, k2, k3, k4⟩ := hk
      split at h
      · rename_i q hq
        split at h
        · rename_i hk5
          obtain ⟨j, rfl, ej⟩ := x_g0 g1
          obtain ⟨c, rfl, ec, tc⟩ := x_g_cell g2 (by omega)
          rw [k1] at tc
          have tc : th[c]? = some 36 := tc
          obtain ⟨e, he, hsh⟩ := (hI.2.2 c _ tc).1
          have m3 := x_ent_ok hB hC k3
          have m4 := x_ent_ok hB hC k4
          have m5 := x_ent_ok hB hC hk5.2
          rw [xl_add_ev, xl_c_ev] at m3
          rw [xl_sub_ev, xl_c_ev] at m4
          rw [xl_sub_ev, xl_add_ev, xl_c_ev] at m5
          obtain ⟨n, n1, n2, n3⟩ := x_of_nn (x := j) (by omega)
          have n4 : j.toNatClampNeg = n := by
            have : j.toNatClampNeg = j.toInt.toNat := rfl
            omega
          have n5 : pm_bad j 324 = false := by
            unfold pm_bad
            have a1 : ¬ j < 0 := by rw [Int32.lt_iff_toInt_lt]; show ¬ j.toInt < 0; omega
            have a2 : ¬ 324 ≤ j.toNatClampNeg := by omega
            simp [a1, a2]
          obtain ⟨f, rfl⟩ := x_arr_int hsh h36.1 (by omega)
          have hsl : ∀ k, k < 324 → x_sl G c k = some (.int (f k)) := fun k hk => by unfold x_sl; rw [he]; show (if k < _ then _ else _) = _; rw [if_pos (by rw [h36.2.2]; exact hk)]
          have hpm : pm_step own nL ini xs L J .iaload pc lv (.int j :: .ref c :: r2) G = some (pc + 1, lv, .int (f n) :: r2, G, 0, 0) := by
            dsimp only [pm_step]
            rw [if_neg (hI.cell tc).2.2.1, he, h36.2.1, h36.2.2]
            show (if pm_bad j _ = true then none else some (pc + 1, lv, Value.int (f j.toNatClampNeg) :: r2, G, 0, 0)) = _
            rw [n5, n4]
            rfl
          have hq1 := List.find?_some hq
          simp only [Bool.and_eq_true, beq_iff_eq, decide_eq_true_eq] at hq1
          obtain ⟨a, a1, a2, w, a3, a4⟩ := hfa q (List.mem_of_find?_eq_some hq)
          rw [hq1.2] at a1
          have : a = c := by omega
          subst this
          rw [hq1.1.2, hsl 3 (by omega)] at a3
          cases a3
          obtain ⟨q1, q2, q3, q4, q5⟩ := q
          obtain rfl : q4 = 0 := hk5.1
          obtain ⟨x3, x4, x5⟩ := x_g0 a4
          cases x4
          have m5 : 0 ≤ xl_ev q5 v + 40 - xl_ev l v := m5
          have hw := (hQ k2 a tc).1 (f 3) (f n) (n - 41) (hsl 3 (by omega)) (by omega) (by omega) (by rw [show 41 + (n - 41) = n from by omega]; exact hsl n (by omega))
          obtain ⟨z, z1, v', z2, z3, z4⟩ := x_hv_ok (rest := r2) (n0 := nx) hS h (f n) (fun v' hS' e => ⟨fun cc hcc => by
            rw [List.mem_singleton.mp hcc, xl_add_ev, xl_s_ev, xl_c_ev]
            omega, hS'.2.2.2.1.2.2⟩)
          exact ⟨z, z1, v', lv, _, G, z2, by rw [z3]; exact hpm, z4, x_eff.rf⟩
        · cases h
      · cases h
    · cases h
  · cases h
set_option maxHeartbeats 1000000 in
theorem x_cpy_ok {tb : Nat → xT} {th : List Nat} {v : Nat → Int} {lv : pL} {ws : List Value} {G : List pE} {E : List (Nat × Nat × Nat)} {own nL L J pc : Nat} {ini : Bool} {xs : Nat → Int32} {D : xD} {ns : List xN} {i : Instr} {g : xG} {z : Nat × xG} (hT : x_wf tb) (hS : x_S tb th v g lv ws G) (h : x_cpy tb E D ns i pc g = some z) : i = .iaload ∧ (pc + 1, Instr.iastore, 1) ∈ D ∧ ∃ ws1 ws' G', pm_step own nL ini xs L J .iaload pc lv ws G = some (pc + 1, lv, ws1, G, 0, 0) ∧ pm_step own nL ini xs L J .iastore (pc + 1) lv ws1 G = some (z.1, lv, ws', G', 0, 0) ∧ x_S tb th v z.2 lv ws' G' ∧ x_eff th E G G' := by
  obtain ⟨cs, lo, st, fa, nx⟩ := g
  obtain ⟨hB, hC, hlo, hst, hfa, hI⟩ := id hS
  dsimp only [x_cpy] at h
  split at h
  · rename_i l1 b1 l2 b2 r
    obtain ⟨w1, r1, rfl, g1, hs1⟩ := x_gs_cons hst
    obtain ⟨w2, r2, rfl, g2, hs2⟩ := x_gs_cons hs1
    obtain ⟨w3, r3, rfl, g3, hs3⟩ := x_gs_cons hs2
    obtain ⟨w4, r4, rfl, g4, hs4⟩ := x_gs_cons hs3
    split at h
    · rename_i hk
      cases h
      obtain ⟨k1, k2, k3, k4, k5, k6, k7, k8, -, -, k9, -, k10, k11⟩ := hk
      refine ⟨rfl, List.mem_of_find?_eq_some k9, ?_⟩
      obtain ⟨j1, rfl, ej1⟩ := x_g0 g1
      obtain ⟨j2, rfl, ej2⟩ := x_g0 g3
      obtain ⟨c1, rfl, ec1, tc1⟩ := x_g_cell g2 k1
      obtain ⟨c2, rfl, ec2, tc2⟩ := x_g_cell g4 k5
      obtain ⟨e1, he1, hsh1⟩ := (hI.2.2 c1 _ tc1).1
      obtain ⟨e2, he2, hsh2⟩ := (hI.2.2 c2 _ tc2).1
      obtain ⟨n, n1, n2, n3, n4, n5, n6, n7, n8⟩ := x_idx_ok (cs := cs) hB hC k4 ej1
      obtain ⟨p, p1, p2, p3, p4, p5, p6, p7, p8⟩ := x_idx_ok (cs := cs) hB hC k8 ej2
      obtain ⟨f1, rfl⟩ := x_arr_int hsh1 k2 (by omega)
      obtain ⟨f2, rfl⟩ := x_arr_int hsh2 k6 (by omega)
      have hsl : x_sl G c1 n = some (.int (f1 n)) := by unfold x_sl; rw [he1]; show (if n < _ then _ else _) = _; rw [if_pos n1]
      have hu := x_upd_int (x := f1 n) he2 p1
      obtain ⟨q9, e1, e2, e3, e4⟩ := x_cov_ok k10
      refine ⟨.int (f1 n) :: .int j2 :: .ref c2 :: r4, r4, _, ?_, ?_, ⟨hB, hC, hlo, hs4, fun f9 hf9 => x_kill_ok hu tc2 p7 p8 hfa f9 hf9, hI.upd hu tc2 (fun f8 h8 => ?_)⟩, x_eff.upd hu tc2 e1 e2 (Nat.le_trans e3 p7) (Nat.le_trans p8 e4)⟩
      · dsimp only [pm_step]
        rw [if_neg (hI.cell tc1).2.2.1, he1, k3]
        show (if pm_bad j1 _ = true then none else some (pc + 1, lv, Value.int (f1 j1.toNatClampNeg) :: .int j2 :: .ref c2 :: r4, G, 0, 0)) = _
        rw [n4, n2]
        rfl
      · dsimp only [pm_step]
        rw [he2, k7]
        show (if pm_bad j2 _ = true then none else some (pc + 1 + 1, lv, r4, G.set c2 (.inl (0, _, .inl (upd f2 j2.toNatClampNeg (f1 n)))), 0, 0)) = _
        rw [p4, p2]
        rfl
      · have hen := x_en_ok hB hC _ _ _ k11
        unfold x_sub1 at hen
        rw [← n3, ← p3] at hen
        rw [Int.toNat_natCast, Int.toNat_natCast, h8] at hen
        split at hen
        · rename_i fa1 fb1 hA hB1
          cases hB1
          simp only [Bool.and_eq_true, beq_iff_eq, decide_eq_true_eq] at hen
          obtain ⟨⟨⟨s1, s2⟩, s3⟩, s4⟩ := hen
          obtain ⟨w, hw, hok⟩ := (hI.2.2 c1 _ tc1).2 n _ hA
          rw [hsl] at hw
          cases hw
          unfold xf_ok at hok ⊢
          rw [s1] at hok
          rw [s2]
          obtain ⟨x, x1, x2, x3⟩ := hok
          exact ⟨x, x1, by omega, by omega⟩
        · cases hen
    · cases h
  · cases h
section XQ
variable {tb : Nat → xT} {th : List Nat} {xs : Nat → Int32} {L J : Nat} {cts : List xC} {M : pM} {D : xD} {E : List (Nat × Nat × Nat)} {m0 m : Nat} {ps : List xP} {ns : List xN} {org : Option (List xL)} {dm d : Nat} {v0 vorg : Nat → Int} {G0 : List pE}
set_option maxHeartbeats 4000000 in
theorem x_exec_ok {K : Option Value → List pE → Prop} (hT : x_wf tb) (h36 : (tb 36).1 = 1 ∧ (tb 36).2.1 = 0 ∧ (tb 36).2.2.1 = 324) (hQ : x_flag E = true → ∀ G, x_eff th E G0 G → x_Q th G) (hK : ∀ r G', x_Post tb th E ps m0 v0 G0 r G' → K r G') (hD : ∀ q ∈ D, decode M.code q.1 = .ok (q.2.1, q.2.2)) (hc : ∀ c ∈ cts, x_Holds tb th xs L J c dm) (hd : dm ≤ d) (hm : m0 ≤ m) (horg : ∀ a, org = some a → ∀ r ∈ a, r.1.all (fun q => decide (q.1 < m)) = true)
    (IH : ∀ n ∈ ns, ∀ (vn : Nat → Int) (lv : pL) (G : List pE), x_ag m0 v0 vn → x_S tb th vn (n.2.2.2.1, n.2.1, [], n.2.2.1, n.2.2.2.2.1) lv [] G → x_eff th E G0 G → (∀ a, org = some a → x_lex (n.2.2.2.2.2.map (fun l => (xl_ev l vn).toNat)) (a.map (fun l => (xl_ev l vorg).toNat))) → x_Gd xs L J (d + 1) M K n.1 lv [] G) :
    ∀ (f : Nat) (go : Bool) (pc : Nat) (g : xG) (v : Nat → Int) (lv : pL) (ws : List Value) (G : List pE), x_exec tb cts M D E m0 m ps ns org f go pc g = true → x_ag m0 v0 v → x_ag m vorg v → x_S tb th v g lv ws G → x_eff th E G0 G → x_Gd xs L J (d + 1) M K pc lv ws G
  | 0, _, _, _, _, _, _, _, h, _, _, _, _ => by cases h
  | f + 1, go, pc, g, v, lv, ws, G, h, h0, h1, hS, hE => by
    have ih := x_exec_ok hT h36 hQ hK hD hc hd hm horg IH f
    rw [x_exec] at h
    split at h
    · -- a cut point
      rename_i n9 nr9 hn
      have hn2 : ns.filter (fun n => n.1 == pc) = n9 :: nr9 := by
        cases go with
        | true => cases hn
        | false => exact hn
      rw [← hn2] at h
      obtain ⟨n, hn4, h⟩ := List.any_eq_true.mp h
      obtain ⟨hn5, hn6⟩ := List.mem_filter.mp hn4
      have hn3 : n.1 = pc := by simpa using hn6
      obtain ⟨rfl, vn, v', k1, k2, k3, k4⟩ := x_node_ok h hm hS
      rw [← hn3]
      refine IH n hn5 vn lv G (h0.tr k1) k3 hE (fun a ha => ?_)
      have h5 := k4 a ha
      have e : a.map (fun l => (xl_ev l v').toNat) = a.map (fun l => (xl_ev l vorg).toNat) := by
        apply List.map_congr_left
        intro r hr
        rw [xl_lt_ev (h1.tr k2) (horg a ha r hr)]
      rw [e] at h5
      exact h5
    · split at h
      · cases h
      · rename_i q hq
        have hq1 : q.1 = pc := by simpa using List.find?_some hq
        have hdec := hD q (List.mem_of_find?_eq_some hq)
        rw [hq1] at hdec
        split at h
        · rename_i hlen
          split at h
          · -- an end
            split at h
            · rename_i ra hra
              obtain ⟨r, r1, r2⟩ := x_retk_ok hS.1 hS.2.1 hS.2.2.2.1 hra
              exact ⟨r, G, x_runs_ret hdec hlen r1, hK _ _ (x_end_ok h hm hS h0 hE r2)⟩
            · cases h
          · rename_i hnr
            have hnr : x_isRet q.2.1 = false := by simpa using hnr
            split at h
            · -- a step
              rename_i hcl
              split at h
              · rename_i z hz
                obtain ⟨hi, hm2, ws1, ws', G', c1, c2, c3, c4⟩ := x_cpy_ok (own := M.own) (nL := M.maxL) (ini := decide (M.y.name = "<init>")) (xs := xs) (L := L) (J := J) hT hS hz
                have := ih false z.1 z.2 v lv ws' G' h h0 h1 c3 (hE.tr c4)
                rw [hi] at hdec hlen hnr hcl
                have hdec2 := hD (pc + 1, Instr.iastore, 1) hm2
                dsimp only at hdec2
                exact this.via (fun r G' hr => x_runs_step hdec hlen hnr hcl c1 (x_runs_iastore hdec2 c2 hr))
              split at h
              · rename_i out hout
                obtain ⟨z, hz, v', lv', ws', G1, z1, z2, z3, z4⟩ := x_wrd_ok (own := M.own) (nL := M.maxL) (ini := decide (M.y.name = "<init>")) (xs := xs) (L := L) (J := J) hT h36 hS (fun z => hQ z G hE) hout
                have := ih false z.1 z.2 v' lv' ws' G1 (List.all_eq_true.mp h z hz) (h0.tr (fun i hi => z1 i (by omega))) (h1.tr z1) z3 (hE.tr z4)
                exact this.via (fun r G' hr => x_runs_step hdec hlen hnr hcl z2 hr)
              split at h
              · rename_i out hout
                obtain ⟨z, hz, v', lv', ws', G1, z1, z2, z3, z4⟩ := xs_step (ini := decide (M.y.name = "<init>")) (xs := xs) (L := L) (J := J) hT hS hout
                have := ih false z.1 z.2 v' lv' ws' G1 (List.all_eq_true.mp h z hz) (h0.tr (fun i hi => z1 i (by omega))) (h1.tr z1) z3 (hE.tr z4)
                exact this.via (fun r G' hr => x_runs_step hdec hlen hnr hcl z2 hr)
              · cases h
            · -- a call
              rename_i w k hcl
              split at h
              · cases h
              · rename_i c0 hc0
                split at h
                · cases h
                · rename_i hk7
                  split at h
                  · rename_i l1 l2 r hst
                    rw [Bool.and_eq_true, decide_eq_true_eq] at h
                    obtain ⟨⟨rfl, hsum⟩, h⟩ := h
                    split at h
                    · rename_i out hout
                      have hgs := hS.2.2.2.1
                      rw [hst] at hgs
                      obtain ⟨w1, r1, rfl, g1, hs1⟩ := x_gs_cons hgs
                      obtain ⟨w2, r2, rfl, g2, hs2⟩ := x_gs_cons hs1
                      obtain ⟨y, rfl, -⟩ := x_g0 g1
                      obtain ⟨x, rfl, -⟩ := x_g0 g2
                      obtain ⟨z, hz, v', z1, z2, z3⟩ := x_hv_ok (rest := r2) (n0 := g.2.2.2.2) hS hout (if x < y then y else x) (fun v' hS' _ => ⟨fun c hc => absurd hc List.not_mem_nil, by have := hS'.2.2.2.1; dsimp only at this; rw [hst] at this; exact this.2.2⟩)
                      have := ih false z.1 z.2 v' lv _ G (List.all_eq_true.mp h z hz) (h0.tr (fun i hi => z1 i (by omega))) (h1.tr z1) z3 hE
                      rw [z2] at this
                      exact this.via (fun r G' hr => x_runs_max hdec hlen hnr hcl hc0 hk7 (by rw [x_sum_ok hs2]; exact hsum) hr)
                    · cases h
                  · cases h
                · rename_i hk8
                  split at h
                  · rename_i l1 l2 r hst
                    rw [Bool.and_eq_true, decide_eq_true_eq] at h
                    obtain ⟨⟨rfl, hsum⟩, h⟩ := h
                    split at h
                    · rename_i out hout
                      have hgs := hS.2.2.2.1
                      rw [hst] at hgs
                      obtain ⟨w1, r1, rfl, g1, hs1⟩ := x_gs_cons hgs
                      obtain ⟨w2, r2, rfl, g2, hs2⟩ := x_gs_cons hs1
                      obtain ⟨y, rfl, -⟩ := x_g0 g1
                      obtain ⟨x, rfl, -⟩ := x_g0 g2
                      obtain ⟨z, hz, v', z1, z2, z3⟩ := x_hv_ok (rest := r2) (n0 := g.2.2.2.2) hS hout (if y < x then y else x) (fun v' hS' _ => ⟨fun c hc => absurd hc List.not_mem_nil, by have := hS'.2.2.2.1; dsimp only at this; rw [hst] at this; exact this.2.2⟩)
                      have := ih false z.1 z.2 v' lv _ G (List.all_eq_true.mp h z hz) (h0.tr (fun i hi => z1 i (by omega))) (h1.tr z1) z3 hE
                      rw [z2] at this
                      exact this.via (fun r G' hr => x_runs_min hdec hlen hnr hcl hc0 hk8 (by rw [x_sum_ok hs2]; exact hsum) hr)
                    · cases h
                  · cases h
                · rename_i hk9
                  split at h
                  · rename_i l1 r hst
                    rw [Bool.and_eq_true, decide_eq_true_eq] at h
                    obtain ⟨⟨rfl, hsum⟩, h⟩ := h
                    split at h
                    · rename_i out hout
                      have hgs := hS.2.2.2.1
                      rw [hst] at hgs
                      obtain ⟨w1, r1, rfl, g1, hs1⟩ := x_gs_cons hgs
                      obtain ⟨x, rfl, -⟩ := x_g0 g1
                      obtain ⟨z, hz, v', z1, z2, z3⟩ := x_hv_ok (rest := r1) (n0 := g.2.2.2.2) hS hout (if 0 ≤ x then x else 0 - x) (fun v' hS' _ => ⟨fun c hc => absurd hc List.not_mem_nil, by have := hS'.2.2.2.1; dsimp only at this; rw [hst] at this; exact this.2⟩)
                      have := ih false z.1 z.2 v' lv _ G (List.all_eq_true.mp h z hz) (h0.tr (fun i hi => z1 i (by omega))) (h1.tr z1) z3 hE
                      rw [z2] at this
                      exact this.via (fun r G' hr => x_runs_abs hdec hlen hnr hcl hc0 hk9 (by rw [x_sum_ok hs1]; exact hsum) hr)
                    · cases h
                  · cases h
                · rename_i n0 n7 n8 n9
                  split at h
                  · rename_i M' hM'
                    split at h
                    · rename_i hok
                      obtain ⟨o1, o2, o3, o4, o5⟩ := hok
                      split at h
                      · rename_i out hout
                        obtain ⟨z, hz, v2, r1, G1, z1, z2, z3, z4, z5⟩ := x_call_ok hM' hd hS (fun z => hQ z G hE) hc hout
                        have := ih false z.1 z.2 v2 lv _ G1 (List.all_eq_true.mp h z hz) (h0.tr (fun i hi => z1 i (by omega))) (h1.tr z1) z4 (hE.tr z5)
                        rw [z3] at this
                        obtain ⟨t1, t2⟩ := x_gs_take (pm_na M') hS.2.2.2.1
                        refine this.via (fun r G' hr => x_runs_call hdec hlen hnr hcl hc0 ⟨n0, n7, n8, n9⟩ hM' ⟨o1, ?_, ?_, ?_, ?_⟩ z2 hr)
                        · rw [x_gs_len hS.2.2.2.1]; exact o2
                        · exact x_recv_ok hS.2.2.2.2.2 t1 o5
                        · rw [x_sl_sum, x_sum_rev, x_sum_ok (x_gs_take1 (pm_na M') hS.2.2.2.1)]; exact o4
                        · rw [x_sum_ok t2]; exact o3
                      · cases h
                    · cases h
                  · cases h
        · cases h
theorem x_args_ok {v : Nat → Int} : ∀ {as : List xV} {ws : List Value} (i : Nat), x_gs th v as ws → ∀ q ∈ lv_argsX i as, ∃ w, (q.1, w) ∈ lv_args i ws ∧ x_g th v q.2 w
  | [], _, _, _, q, hq => by cases hq
  | _ :: _, [], _, h, _, _ => h.elim
  | a :: as, w :: ws, i, h, q, hq => by
    unfold lv_argsX at hq
    rcases List.mem_cons.mp hq with rfl | hq
    · exact ⟨w, List.mem_cons_self, h.1⟩
    · obtain ⟨w', h1, h2⟩ := x_args_ok _ h.2 q hq
      refine ⟨w', ?_, h2⟩
      unfold lv_args
      rw [x_cat2 h.1]
      refine List.mem_cons_of_mem _ ?_
      by_cases ha : a.1 = 1
      · simpa [ha] using h1
      · simpa [ha] using h1
theorem x_args_key : ∀ (ws : List Value) (i : Nat) (q : Nat × Value), q ∈ lv_args i ws → i ≤ q.1
  | [], _, _, h => by cases h
  | w :: ws, i, q, h => by
    unfold lv_args at h
    rcases List.mem_cons.mp h with rfl | h
    · exact Nat.le_refl _
    · have := x_args_key ws _ q h
      split at this <;> omega
theorem x_args_get : ∀ (ws : List Value) (i : Nat) (q : Nat × Value), q ∈ lv_args i ws → pm_get (lv_args i ws) q.1 = some q.2
  | [], _, _, h => by cases h
  | w :: ws, i, q, h => by
    unfold lv_args at h ⊢
    unfold pm_get
    rw [List.find?_cons]
    rcases List.mem_cons.mp h with rfl | h
    · simp
    · have h1 := x_args_key ws _ q h
      have h2 : (i == q.1) = false := by
        rw [beq_eq_false_iff_ne]
        split at h1 <;> omega
      simp only [h2]
      exact x_args_get ws _ q h
/-- what the checker says holds -/
theorem x_chk_ok {c : xC} {f : Nat} (hT : x_wf tb) (h36 : (tb 36).1 = 1 ∧ (tb 36).2.1 = 0 ∧ (tb 36).2.2.1 = 324) (hD : ∀ q ∈ D, decode M.code q.1 = .ok (q.2.1, q.2.2)) (hM : pm_tab[c.1]? = some M) (hc : ∀ c ∈ cts, x_Holds tb th xs L J c dm) (h : x_chk tb cts c M D ns f = true) : x_Holds tb th xs L J c (dm + 1) := by
  refine ⟨M, hM, fun d0 hd0 v as G hB hC hg hf hI hQ0 => ?_⟩
  obtain ⟨d, rfl⟩ : ∃ d, d0 = d + 1 := ⟨d0 - 1, by omega⟩
  have hd : dm ≤ d := by omega
  unfold x_chk at h
  rw [Bool.and_eq_true, Bool.and_eq_true] at h
  obtain ⟨⟨hfl, hent⟩, hns⟩ := h
  have hQ : x_flag c.2.2.2.2.2.1 = true → ∀ G1, x_eff th c.2.2.2.2.2.1 G G1 → x_Q th G1 := fun z G1 he => by
    rw [z] at hfl
    exact x_Q_eff (by simpa using hfl) he (hQ0 z)
  have hns : ∀ n ∈ ns, c.2.2.2.2.1 ≤ n.2.2.2.2.1 ∧ n.2.2.2.2.2.length = 5 ∧ (∀ r ∈ n.2.2.2.2.2, r.1.all (fun q => decide (q.1 < n.2.2.2.2.1)) = true) ∧ x_exec tb cts M D c.2.2.2.2.2.1 c.2.2.2.2.1 n.2.2.2.2.1 c.2.2.2.2.2.2.2 ns (some n.2.2.2.2.2) f true n.1 (n.2.2.2.1, n.2.1, [], n.2.2.1, n.2.2.2.2.1) = true := by
    intro n hn
    have := List.all_eq_true.mp hns n hn
    simp only [Bool.and_eq_true, decide_eq_true_eq] at this
    exact ⟨this.1.1.1, this.1.1.2, fun r hr => List.all_eq_true.mp this.1.2 r hr, this.2⟩
  have nodes : ∀ a : List Nat, a.length = 5 → ∀ n ∈ ns, ∀ (vn : Nat → Int) (lv : pL) (G1 : List pE), n.2.2.2.2.2.map (fun l => (xl_ev l vn).toNat) = a → x_ag c.2.2.2.2.1 v vn → x_S tb th vn (n.2.2.2.1, n.2.1, [], n.2.2.1, n.2.2.2.2.1) lv [] G1 → x_eff th c.2.2.2.2.2.1 G G1 → x_Gd xs L J (d + 1) M (x_Post tb th c.2.2.2.2.2.1 c.2.2.2.2.2.2.2 c.2.2.2.2.1 v G) n.1 lv [] G1 := by
    refine x_lex_ind 5 _ (fun a ha ih n hn vn lv G1 hra hag hSn hEn => ?_)
    obtain ⟨n1, n2, n3, n4⟩ := hns n hn
    refine x_exec_ok (vorg := vn) hT h36 hQ (fun _ _ h => h) hD hc hd n1 (fun a' ha' r hr => ?_) (fun n' hn' vn' lv' G' hag' hS' hE' hlex => ?_) f true n.1 _ vn lv [] G1 n4 hag x_ag.rf hSn hEn
    · cases ha'
      exact n3 r hr
    · have hl := hlex _ rfl
      rw [hra] at hl
      exact ih _ (by rw [List.length_map]; exact (hns n' hn').2.1) hl n' hn' vn' lv' G' rfl hag' hS' hE'
  have hgood := x_exec_ok (vorg := v) (v0 := v) (G0 := G) (K := x_Post tb th c.2.2.2.2.2.1 c.2.2.2.2.2.2.2 c.2.2.2.2.1 v G) hT h36 hQ (fun _ _ h => h) hD hc hd (Nat.le_refl _) (fun a ha => by cases ha) (fun n hn vn lv G1 hag hSn hEn _ => nodes _ (by rw [List.length_map]; exact (hns n hn).2.1) n hn vn lv G1 rfl hag hSn hEn) f false 0 _ v (lv_args 0 as) [] G hent x_ag.rf x_ag.rf ⟨hB, hC, fun q hq => by
    obtain ⟨w, w1, w2⟩ := x_args_ok 0 hg q hq
    exact ⟨w, x_args_get as 0 _ w1, w2⟩, trivial, hf, hI⟩ x_eff.rf
  obtain ⟨r, G', r1, v', p1, p2, p3, p4, p5⟩ := hgood
  exact ⟨r, G', v', r1, p1, p2, p3, p4, p5⟩
end XQ
end
