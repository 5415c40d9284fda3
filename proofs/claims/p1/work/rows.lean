section
-- ===== PART A: goes FIRST, ahead of the names: the tables' words, and 'selects' of the private methods out of them =====
/-- a private method of a class that the tables say can be made, by its rows of tables_1 -/
def lw_okq (q : MethodName × Nat) : Prop := (q.1.cls ≠ "java/lang/invoke/MethodHandle" ∧ q.1.cls ≠ "java/lang/invoke/VarHandle") ∧ Cond.instantiable q.1.cls q.2 ∈ tables_1 ∧ Cond.privateMethod q.1 ∈ tables_1 ∧ Cond.instanceMethod q.1 ∈ tables_1
theorem lw_p0 : lw_okq (⟨"SleepingCars$Book", "tightestBerth", "(IIII)I"⟩, 10) := ⟨⟨by decide +kernel, by decide +kernel⟩, List.mem_of_getElem? (i := 28) (by decide +kernel), List.mem_of_getElem? (i := 391) (by decide +kernel), List.mem_of_getElem? (i := 392) (by decide +kernel)⟩
theorem lw_p1 : lw_okq (⟨"SleepingCars$Book", "isOnChart", "(III)Z"⟩, 10) := ⟨⟨by decide +kernel, by decide +kernel⟩, List.mem_of_getElem? (i := 28) (by decide +kernel), List.mem_of_getElem? (i := 402) (by decide +kernel), List.mem_of_getElem? (i := 403) (by decide +kernel)⟩
theorem lw_p2 : lw_okq (⟨"SleepingCars$Book", "layTicket", "(II)Z"⟩, 10) := ⟨⟨by decide +kernel, by decide +kernel⟩, List.mem_of_getElem? (i := 28) (by decide +kernel), List.mem_of_getElem? (i := 495) (by decide +kernel), List.mem_of_getElem? (i := 496) (by decide +kernel)⟩
theorem lw_p3 : lw_okq (⟨"SleepingCars$Book", "hasRoomOn", "(III)Z"⟩, 10) := ⟨⟨by decide +kernel, by decide +kernel⟩, List.mem_of_getElem? (i := 28) (by decide +kernel), List.mem_of_getElem? (i := 507) (by decide +kernel), List.mem_of_getElem? (i := 508) (by decide +kernel)⟩
theorem lw_p4 : lw_okq (⟨"SleepingCars", "ownerOrNone", "(II)I"⟩, 4) := ⟨⟨by decide +kernel, by decide +kernel⟩, List.mem_of_getElem? (i := 20) (by decide +kernel), List.mem_of_getElem? (i := 553) (by decide +kernel), List.mem_of_getElem? (i := 554) (by decide +kernel)⟩
theorem lw_p5 : lw_okq (⟨"SleepingCars$Tokens", "takeAt", "(LSleepingCars$Tape;I)I"⟩, 4) := ⟨⟨by decide +kernel, by decide +kernel⟩, List.mem_of_getElem? (i := 263) (by decide +kernel), List.mem_of_getElem? (i := 587) (by decide +kernel), List.mem_of_getElem? (i := 588) (by decide +kernel)⟩
theorem lw_p6 : lw_okq (⟨"SleepingCars$Tokens", "add", "(III)V"⟩, 4) := ⟨⟨by decide +kernel, by decide +kernel⟩, List.mem_of_getElem? (i := 263) (by decide +kernel), List.mem_of_getElem? (i := 666) (by decide +kernel), List.mem_of_getElem? (i := 667) (by decide +kernel)⟩
theorem lw_p7 : lw_okq (⟨"SleepingCars$Reader", "isSound", "()Z"⟩, 6) := ⟨⟨by decide +kernel, by decide +kernel⟩, List.mem_of_getElem? (i := 255) (by decide +kernel), List.mem_of_getElem? (i := 677) (by decide +kernel), List.mem_of_getElem? (i := 678) (by decide +kernel)⟩
theorem lw_p8 : lw_okq (⟨"SleepingCars$Reader", "isNext", "(I)Z"⟩, 6) := ⟨⟨by decide +kernel, by decide +kernel⟩, List.mem_of_getElem? (i := 255) (by decide +kernel), List.mem_of_getElem? (i := 681) (by decide +kernel), List.mem_of_getElem? (i := 682) (by decide +kernel)⟩
theorem lw_p9 : lw_okq (⟨"SleepingCars$Reader", "readLine", "(Z)V"⟩, 6) := ⟨⟨by decide +kernel, by decide +kernel⟩, List.mem_of_getElem? (i := 255) (by decide +kernel), List.mem_of_getElem? (i := 689) (by decide +kernel), List.mem_of_getElem? (i := 690) (by decide +kernel)⟩
theorem lw_p10 : lw_okq (⟨"SleepingCars$Reader", "noteSurplus", "()V"⟩, 6) := ⟨⟨by decide +kernel, by decide +kernel⟩, List.mem_of_getElem? (i := 255) (by decide +kernel), List.mem_of_getElem? (i := 693) (by decide +kernel), List.mem_of_getElem? (i := 694) (by decide +kernel)⟩
theorem lw_p11 : lw_okq (⟨"SleepingCars$Reader", "readTests", "()V"⟩, 6) := ⟨⟨by decide +kernel, by decide +kernel⟩, List.mem_of_getElem? (i := 255) (by decide +kernel), List.mem_of_getElem? (i := 701) (by decide +kernel), List.mem_of_getElem? (i := 702) (by decide +kernel)⟩
theorem lw_p12 : lw_okq (⟨"SleepingCars$Reader", "readTest", "(Z)V"⟩, 6) := ⟨⟨by decide +kernel, by decide +kernel⟩, List.mem_of_getElem? (i := 255) (by decide +kernel), List.mem_of_getElem? (i := 705) (by decide +kernel), List.mem_of_getElem? (i := 706) (by decide +kernel)⟩
theorem lw_p13 : lw_okq (⟨"SleepingCars$Reader", "takeIf", "(Z)V"⟩, 6) := ⟨⟨by decide +kernel, by decide +kernel⟩, List.mem_of_getElem? (i := 255) (by decide +kernel), List.mem_of_getElem? (i := 709) (by decide +kernel), List.mem_of_getElem? (i := 710) (by decide +kernel)⟩
theorem lw_p14 : lw_okq (⟨"SleepingCars$Rates", "allHold", "(I[I)Z"⟩, 8) := ⟨⟨by decide +kernel, by decide +kernel⟩, List.mem_of_getElem? (i := 167) (by decide +kernel), List.mem_of_getElem? (i := 751) (by decide +kernel), List.mem_of_getElem? (i := 752) (by decide +kernel)⟩
theorem lw_p15 : lw_okq (⟨"SleepingCars$Rates", "holds", "(I[I)Z"⟩, 8) := ⟨⟨by decide +kernel, by decide +kernel⟩, List.mem_of_getElem? (i := 167) (by decide +kernel), List.mem_of_getElem? (i := 755) (by decide +kernel), List.mem_of_getElem? (i := 756) (by decide +kernel)⟩
def lw_privs_1 : List (MethodName × Nat) := [(⟨"SleepingCars$Book", "tightestBerth", "(IIII)I"⟩, 10), (⟨"SleepingCars$Book", "isOnChart", "(III)Z"⟩, 10), (⟨"SleepingCars$Book", "layTicket", "(II)Z"⟩, 10), (⟨"SleepingCars$Book", "hasRoomOn", "(III)Z"⟩, 10), (⟨"SleepingCars", "ownerOrNone", "(II)I"⟩, 4), (⟨"SleepingCars$Tokens", "takeAt", "(LSleepingCars$Tape;I)I"⟩, 4), (⟨"SleepingCars$Tokens", "add", "(III)V"⟩, 4), (⟨"SleepingCars$Reader", "isSound", "()Z"⟩, 6), (⟨"SleepingCars$Reader", "isNext", "(I)Z"⟩, 6), (⟨"SleepingCars$Reader", "readLine", "(Z)V"⟩, 6), (⟨"SleepingCars$Reader", "noteSurplus", "()V"⟩, 6), (⟨"SleepingCars$Reader", "readTests", "()V"⟩, 6), (⟨"SleepingCars$Reader", "readTest", "(Z)V"⟩, 6), (⟨"SleepingCars$Reader", "takeIf", "(Z)V"⟩, 6), (⟨"SleepingCars$Rates", "allHold", "(I[I)Z"⟩, 8), (⟨"SleepingCars$Rates", "holds", "(I[I)Z"⟩, 8)]
theorem lw_r1 : ∀ q ∈ lw_privs_1, lw_okq q := List.forall_mem_cons.mpr ⟨lw_p0, List.forall_mem_cons.mpr ⟨lw_p1, List.forall_mem_cons.mpr ⟨lw_p2, List.forall_mem_cons.mpr ⟨lw_p3, List.forall_mem_cons.mpr ⟨lw_p4, List.forall_mem_cons.mpr ⟨lw_p5, List.forall_mem_cons.mpr ⟨lw_p6, List.forall_mem_cons.mpr ⟨lw_p7, List.forall_mem_cons.mpr ⟨lw_p8, List.forall_mem_cons.mpr ⟨lw_p9, List.forall_mem_cons.mpr ⟨lw_p10, List.forall_mem_cons.mpr ⟨lw_p11, List.forall_mem_cons.mpr ⟨lw_p12, List.forall_mem_cons.mpr ⟨lw_p13, List.forall_mem_cons.mpr ⟨lw_p14, List.forall_mem_cons.mpr ⟨lw_p15, fun _ h => absurd h List.not_mem_nil⟩⟩⟩⟩⟩⟩⟩⟩⟩⟩⟩⟩⟩⟩⟩⟩
theorem lw_p16 : lw_okq (⟨"SleepingCarsModel", "runs", "()I"⟩, 53) := ⟨⟨by decide +kernel, by decide +kernel⟩, List.mem_of_getElem? (i := 825) (by decide +kernel), List.mem_of_getElem? (i := 996) (by decide +kernel), List.mem_of_getElem? (i := 997) (by decide +kernel)⟩
theorem lw_p17 : lw_okq (⟨"SleepingCarsModel", "isOffice", "(I)Z"⟩, 53) := ⟨⟨by decide +kernel, by decide +kernel⟩, List.mem_of_getElem? (i := 825) (by decide +kernel), List.mem_of_getElem? (i := 1011) (by decide +kernel), List.mem_of_getElem? (i := 1012) (by decide +kernel)⟩
theorem lw_p18 : lw_okq (⟨"SleepingCarsModel", "canAsk", "(IIII)Z"⟩, 53) := ⟨⟨by decide +kernel, by decide +kernel⟩, List.mem_of_getElem? (i := 825) (by decide +kernel), List.mem_of_getElem? (i := 1027) (by decide +kernel), List.mem_of_getElem? (i := 1028) (by decide +kernel)⟩
theorem lw_p19 : lw_okq (⟨"SleepingCarsModel", "isRun", "(I)Z"⟩, 53) := ⟨⟨by decide +kernel, by decide +kernel⟩, List.mem_of_getElem? (i := 825) (by decide +kernel), List.mem_of_getElem? (i := 1031) (by decide +kernel), List.mem_of_getElem? (i := 1032) (by decide +kernel)⟩
theorem lw_p20 : lw_okq (⟨"SleepingCarsModel", "isStretch", "(II)Z"⟩, 53) := ⟨⟨by decide +kernel, by decide +kernel⟩, List.mem_of_getElem? (i := 825) (by decide +kernel), List.mem_of_getElem? (i := 1035) (by decide +kernel), List.mem_of_getElem? (i := 1036) (by decide +kernel)⟩
theorem lw_p21 : lw_okq (⟨"SleepingCarsModel", "sells", "(IIII)I"⟩, 53) := ⟨⟨by decide +kernel, by decide +kernel⟩, List.mem_of_getElem? (i := 825) (by decide +kernel), List.mem_of_getElem? (i := 1039) (by decide +kernel), List.mem_of_getElem? (i := 1040) (by decide +kernel)⟩
theorem lw_p22 : lw_okq (⟨"SleepingCarsModel", "leaves", "(II)I"⟩, 53) := ⟨⟨by decide +kernel, by decide +kernel⟩, List.mem_of_getElem? (i := 825) (by decide +kernel), List.mem_of_getElem? (i := 1043) (by decide +kernel), List.mem_of_getElem? (i := 1044) (by decide +kernel)⟩
theorem lw_p23 : lw_okq (⟨"SleepingCarsModel", "upTo", "(I)I"⟩, 53) := ⟨⟨by decide +kernel, by decide +kernel⟩, List.mem_of_getElem? (i := 825) (by decide +kernel), List.mem_of_getElem? (i := 1047) (by decide +kernel), List.mem_of_getElem? (i := 1048) (by decide +kernel)⟩
theorem lw_p24 : lw_okq (⟨"SleepingCarsModel", "isFree", "(IIII)Z"⟩, 53) := ⟨⟨by decide +kernel, by decide +kernel⟩, List.mem_of_getElem? (i := 825) (by decide +kernel), List.mem_of_getElem? (i := 1051) (by decide +kernel), List.mem_of_getElem? (i := 1052) (by decide +kernel)⟩
theorem lw_p25 : lw_okq (⟨"SleepingCarsModel", "at", "(III)I"⟩, 53) := ⟨⟨by decide +kernel, by decide +kernel⟩, List.mem_of_getElem? (i := 825) (by decide +kernel), List.mem_of_getElem? (i := 1055) (by decide +kernel), List.mem_of_getElem? (i := 1056) (by decide +kernel)⟩
theorem lw_p26 : lw_okq (⟨"SleepingCarsModel", "gap", "(IIII)I"⟩, 53) := ⟨⟨by decide +kernel, by decide +kernel⟩, List.mem_of_getElem? (i := 825) (by decide +kernel), List.mem_of_getElem? (i := 1059) (by decide +kernel), List.mem_of_getElem? (i := 1060) (by decide +kernel)⟩
theorem lw_p27 : lw_okq (⟨"SleepingCarsModel", "between", "(II)I"⟩, 53) := ⟨⟨by decide +kernel, by decide +kernel⟩, List.mem_of_getElem? (i := 825) (by decide +kernel), List.mem_of_getElem? (i := 1071) (by decide +kernel), List.mem_of_getElem? (i := 1072) (by decide +kernel)⟩
theorem lw_p28 : lw_okq (⟨"SleepingCarsModel", "hasLeft", "(I)Z"⟩, 53) := ⟨⟨by decide +kernel, by decide +kernel⟩, List.mem_of_getElem? (i := 825) (by decide +kernel), List.mem_of_getElem? (i := 1087) (by decide +kernel), List.mem_of_getElem? (i := 1088) (by decide +kernel)⟩
theorem lw_p29 : lw_okq (⟨"SleepingCarsModel", "places", "(IIII)Z"⟩, 53) := ⟨⟨by decide +kernel, by decide +kernel⟩, List.mem_of_getElem? (i := 825) (by decide +kernel), List.mem_of_getElem? (i := 1091) (by decide +kernel), List.mem_of_getElem? (i := 1092) (by decide +kernel)⟩
theorem lw_p30 : lw_okq (⟨"SleepingCarsModel", "following", "(III)I"⟩, 53) := ⟨⟨by decide +kernel, by decide +kernel⟩, List.mem_of_getElem? (i := 825) (by decide +kernel), List.mem_of_getElem? (i := 1095) (by decide +kernel), List.mem_of_getElem? (i := 1096) (by decide +kernel)⟩
theorem lw_p31 : lw_okq (⟨"SleepingCarsModel", "firstFree", "(III)I"⟩, 53) := ⟨⟨by decide +kernel, by decide +kernel⟩, List.mem_of_getElem? (i := 825) (by decide +kernel), List.mem_of_getElem? (i := 1099) (by decide +kernel), List.mem_of_getElem? (i := 1100) (by decide +kernel)⟩
def lw_privs_2 : List (MethodName × Nat) := [(⟨"SleepingCarsModel", "runs", "()I"⟩, 53), (⟨"SleepingCarsModel", "isOffice", "(I)Z"⟩, 53), (⟨"SleepingCarsModel", "canAsk", "(IIII)Z"⟩, 53), (⟨"SleepingCarsModel", "isRun", "(I)Z"⟩, 53), (⟨"SleepingCarsModel", "isStretch", "(II)Z"⟩, 53), (⟨"SleepingCarsModel", "sells", "(IIII)I"⟩, 53), (⟨"SleepingCarsModel", "leaves", "(II)I"⟩, 53), (⟨"SleepingCarsModel", "upTo", "(I)I"⟩, 53), (⟨"SleepingCarsModel", "isFree", "(IIII)Z"⟩, 53), (⟨"SleepingCarsModel", "at", "(III)I"⟩, 53), (⟨"SleepingCarsModel", "gap", "(IIII)I"⟩, 53), (⟨"SleepingCarsModel", "between", "(II)I"⟩, 53), (⟨"SleepingCarsModel", "hasLeft", "(I)Z"⟩, 53), (⟨"SleepingCarsModel", "places", "(IIII)Z"⟩, 53), (⟨"SleepingCarsModel", "following", "(III)I"⟩, 53), (⟨"SleepingCarsModel", "firstFree", "(III)I"⟩, 53)]
theorem lw_r2 : ∀ q ∈ lw_privs_2, lw_okq q := List.forall_mem_cons.mpr ⟨lw_p16, List.forall_mem_cons.mpr ⟨lw_p17, List.forall_mem_cons.mpr ⟨lw_p18, List.forall_mem_cons.mpr ⟨lw_p19, List.forall_mem_cons.mpr ⟨lw_p20, List.forall_mem_cons.mpr ⟨lw_p21, List.forall_mem_cons.mpr ⟨lw_p22, List.forall_mem_cons.mpr ⟨lw_p23, List.forall_mem_cons.mpr ⟨lw_p24, List.forall_mem_cons.mpr ⟨lw_p25, List.forall_mem_cons.mpr ⟨lw_p26, List.forall_mem_cons.mpr ⟨lw_p27, List.forall_mem_cons.mpr ⟨lw_p28, List.forall_mem_cons.mpr ⟨lw_p29, List.forall_mem_cons.mpr ⟨lw_p30, List.forall_mem_cons.mpr ⟨lw_p31, fun _ h => absurd h List.not_mem_nil⟩⟩⟩⟩⟩⟩⟩⟩⟩⟩⟩⟩⟩⟩⟩⟩
theorem lw_p32 : lw_okq (⟨"SleepingCarsModel", "sold", "(II)I"⟩, 53) := ⟨⟨by decide +kernel, by decide +kernel⟩, List.mem_of_getElem? (i := 825) (by decide +kernel), List.mem_of_getElem? (i := 1119) (by decide +kernel), List.mem_of_getElem? (i := 1120) (by decide +kernel)⟩
theorem lw_p33 : lw_okq (⟨"SleepingCarsModel", "four", "(I)V"⟩, 53) := ⟨⟨by decide +kernel, by decide +kernel⟩, List.mem_of_getElem? (i := 825) (by decide +kernel), List.mem_of_getElem? (i := 1127) (by decide +kernel), List.mem_of_getElem? (i := 1128) (by decide +kernel)⟩
theorem lw_p34 : lw_okq (⟨"SleepingCarsModel", "next", "()V"⟩, 53) := ⟨⟨by decide +kernel, by decide +kernel⟩, List.mem_of_getElem? (i := 825) (by decide +kernel), List.mem_of_getElem? (i := 1139) (by decide +kernel), List.mem_of_getElem? (i := 1140) (by decide +kernel)⟩
theorem lw_p35 : lw_okq (⟨"SleepingCarsModel", "see", "()I"⟩, 53) := ⟨⟨by decide +kernel, by decide +kernel⟩, List.mem_of_getElem? (i := 825) (by decide +kernel), List.mem_of_getElem? (i := 1143) (by decide +kernel), List.mem_of_getElem? (i := 1144) (by decide +kernel)⟩
theorem lw_p36 : lw_okq (⟨"SleepingCarsModel", "oneLine", "()Z"⟩, 53) := ⟨⟨by decide +kernel, by decide +kernel⟩, List.mem_of_getElem? (i := 825) (by decide +kernel), List.mem_of_getElem? (i := 1147) (by decide +kernel), List.mem_of_getElem? (i := 1148) (by decide +kernel)⟩
theorem lw_p37 : lw_okq (⟨"SleepingCarsModel", "tooMany", "(I)V"⟩, 53) := ⟨⟨by decide +kernel, by decide +kernel⟩, List.mem_of_getElem? (i := 825) (by decide +kernel), List.mem_of_getElem? (i := 1151) (by decide +kernel), List.mem_of_getElem? (i := 1152) (by decide +kernel)⟩
theorem lw_p38 : lw_okq (⟨"SleepingCarsModel", "isWord", "(J)Z"⟩, 53) := ⟨⟨by decide +kernel, by decide +kernel⟩, List.mem_of_getElem? (i := 825) (by decide +kernel), List.mem_of_getElem? (i := 1156) (by decide +kernel), List.mem_of_getElem? (i := 1157) (by decide +kernel)⟩
theorem lw_p39 : lw_okq (⟨"SleepingCarsModel", "test", "(II)Z"⟩, 53) := ⟨⟨by decide +kernel, by decide +kernel⟩, List.mem_of_getElem? (i := 825) (by decide +kernel), List.mem_of_getElem? (i := 1160) (by decide +kernel), List.mem_of_getElem? (i := 1161) (by decide +kernel)⟩
theorem lw_p40 : lw_okq (⟨"SleepingCarsModel", "wrong", "()Z"⟩, 53) := ⟨⟨by decide +kernel, by decide +kernel⟩, List.mem_of_getElem? (i := 825) (by decide +kernel), List.mem_of_getElem? (i := 1170) (by decide +kernel), List.mem_of_getElem? (i := 1171) (by decide +kernel)⟩
theorem lw_p41 : lw_okq (⟨"SleepingCarsModel", "need", "(I)Z"⟩, 53) := ⟨⟨by decide +kernel, by decide +kernel⟩, List.mem_of_getElem? (i := 825) (by decide +kernel), List.mem_of_getElem? (i := 1175) (by decide +kernel), List.mem_of_getElem? (i := 1176) (by decide +kernel)⟩
theorem lw_p42 : lw_okq (⟨"SleepingCarsModel", "isSign", "(I)Z"⟩, 53) := ⟨⟨by decide +kernel, by decide +kernel⟩, List.mem_of_getElem? (i := 825) (by decide +kernel), List.mem_of_getElem? (i := 1179) (by decide +kernel), List.mem_of_getElem? (i := 1180) (by decide +kernel)⟩
theorem lw_p43 : lw_okq (⟨"SleepingCarsModel", "costOf", "(II)J"⟩, 53) := ⟨⟨by decide +kernel, by decide +kernel⟩, List.mem_of_getElem? (i := 825) (by decide +kernel), List.mem_of_getElem? (i := 1195) (by decide +kernel), List.mem_of_getElem? (i := 1196) (by decide +kernel)⟩
theorem lw_p44 : lw_okq (⟨"SleepingCarsModel", "holds", "(III)Z"⟩, 53) := ⟨⟨by decide +kernel, by decide +kernel⟩, List.mem_of_getElem? (i := 825) (by decide +kernel), List.mem_of_getElem? (i := 1199) (by decide +kernel), List.mem_of_getElem? (i := 1200) (by decide +kernel)⟩
theorem lw_p45 : lw_okq (⟨"SleepingCarsModel", "asked", "(III)I"⟩, 53) := ⟨⟨by decide +kernel, by decide +kernel⟩, List.mem_of_getElem? (i := 825) (by decide +kernel), List.mem_of_getElem? (i := 1203) (by decide +kernel), List.mem_of_getElem? (i := 1204) (by decide +kernel)⟩
theorem lw_p46 : lw_okq (⟨"SleepingCarsModel", "copy", "(II)V"⟩, 53) := ⟨⟨by decide +kernel, by decide +kernel⟩, List.mem_of_getElem? (i := 825) (by decide +kernel), List.mem_of_getElem? (i := 1220) (by decide +kernel), List.mem_of_getElem? (i := 1221) (by decide +kernel)⟩
def lw_privs_3 : List (MethodName × Nat) := [(⟨"SleepingCarsModel", "sold", "(II)I"⟩, 53), (⟨"SleepingCarsModel", "four", "(I)V"⟩, 53), (⟨"SleepingCarsModel", "next", "()V"⟩, 53), (⟨"SleepingCarsModel", "see", "()I"⟩, 53), (⟨"SleepingCarsModel", "oneLine", "()Z"⟩, 53), (⟨"SleepingCarsModel", "tooMany", "(I)V"⟩, 53), (⟨"SleepingCarsModel", "isWord", "(J)Z"⟩, 53), (⟨"SleepingCarsModel", "test", "(II)Z"⟩, 53), (⟨"SleepingCarsModel", "wrong", "()Z"⟩, 53), (⟨"SleepingCarsModel", "need", "(I)Z"⟩, 53), (⟨"SleepingCarsModel", "isSign", "(I)Z"⟩, 53), (⟨"SleepingCarsModel", "costOf", "(II)J"⟩, 53), (⟨"SleepingCarsModel", "holds", "(III)Z"⟩, 53), (⟨"SleepingCarsModel", "asked", "(III)I"⟩, 53), (⟨"SleepingCarsModel", "copy", "(II)V"⟩, 53)]
theorem lw_r3 : ∀ q ∈ lw_privs_3, lw_okq q := List.forall_mem_cons.mpr ⟨lw_p32, List.forall_mem_cons.mpr ⟨lw_p33, List.forall_mem_cons.mpr ⟨lw_p34, List.forall_mem_cons.mpr ⟨lw_p35, List.forall_mem_cons.mpr ⟨lw_p36, List.forall_mem_cons.mpr ⟨lw_p37, List.forall_mem_cons.mpr ⟨lw_p38, List.forall_mem_cons.mpr ⟨lw_p39, List.forall_mem_cons.mpr ⟨lw_p40, List.forall_mem_cons.mpr ⟨lw_p41, List.forall_mem_cons.mpr ⟨lw_p42, List.forall_mem_cons.mpr ⟨lw_p43, List.forall_mem_cons.mpr ⟨lw_p44, List.forall_mem_cons.mpr ⟨lw_p45, List.forall_mem_cons.mpr ⟨lw_p46, fun _ h => absurd h List.not_mem_nil⟩⟩⟩⟩⟩⟩⟩⟩⟩⟩⟩⟩⟩⟩⟩
def lw_privs : List (MethodName × Nat) := lw_privs_1 ++ (lw_privs_2 ++ (lw_privs_3))
def lw_tbl : List Cond := k2_sels lw_privs ++ tables_1
theorem lw_privs_ok : ∀ q ∈ lw_privs, lw_okq q := by
  show ∀ q ∈ lw_privs_1 ++ (lw_privs_2 ++ (lw_privs_3)), lw_okq q
  exact List.forall_mem_append.mpr ⟨lw_r1, List.forall_mem_append.mpr ⟨lw_r2, lw_r3⟩⟩
end
section
/-! ===== BEGIN words of one list among another's, by their places ===== -/
theorem goodIn_r {big : List Cond} (ws : List Cond) (ps : List Nat) (hp : ws = ps.filterMap (fun i => big[i]?)) (h : ws.all goodWord = true) : GoodIn big ws := by
  intro w hw
  have h1 := List.all_eq_true.mp h w hw
  rw [hp] at hw
  obtain ⟨i, -, hi⟩ := List.mem_filterMap.mp hw
  have hm : w ∈ big := by first | exact List.mem_of_getElem? hi | exact List.getElem?_mem hi
  exact ⟨hm, good_of_word h1⟩
theorem goodIn_app {big a b : List Cond} (ha : GoodIn big a) (hb : GoodIn big b) : GoodIn big (a ++ b) := fun w h => (List.mem_append.mp h).elim (ha w) (hb w)
theorem goodIn_ca {big a b : List Cond} {c : Cond} (ha : GoodIn big (c :: a)) (hb : GoodIn big b) : GoodIn big (c :: (a ++ b)) := fun w h => (List.mem_cons.mp h).elim (fun e => ha w (List.mem_cons.mpr (Or.inl e))) (fun h => (List.mem_append.mp h).elim (fun h => ha w (List.mem_cons.mpr (Or.inr h))) (hb w))
theorem goodIn_sub {big ws : List Cond} (hm : ∀ w ∈ ws, w ∈ big) (h : ws.all goodWord = true) : GoodIn big ws := fun w hw => ⟨hm w hw, good_of_word (List.all_eq_true.mp h w hw)⟩
/-! ===== END ===== -/

/-! ===== BEGIN printed: names, fields, word lists, decode rows ===== -/
def RX0 : String := "SleepingCars$Book"
def TX0 : u_T := fun k => match k with
  | 0 => ("SleepingCars$Book", "now", "I", false)
  | 1 => ("SleepingCars$Book", "route", "LSleepingCars$Route;", true)
  | 2 => ("SleepingCars$Book", "runs", "LSleepingCars$Runs;", true)
  | 3 => ("SleepingCars$Book", "tickets", "LSleepingCars$Tickets;", true)
  | 4 => ("SleepingCars$Book", "letters", "LSleepingCars$Letters;", true)
  | 5 => ("SleepingCars$Book", "rates", "LSleepingCars$Rates;", true)
  | 6 => ("SleepingCars$Book", "officeStops", "[I", true)
  | 7 => ("SleepingCars$Book", "shares", "[I", true)
  | 8 => ("SleepingCars$Book", "newLegs", "[I", true)
  | _ => ("SleepingCars$Book", "facts", "[I", true)
def tyX0 : Nat → FieldType := fun k => match k with
  | 0 => .int
  | 1 => .object "SleepingCars$Route"
  | 2 => .object "SleepingCars$Runs"
  | 3 => .object "SleepingCars$Tickets"
  | 4 => .object "SleepingCars$Letters"
  | 5 => .object "SleepingCars$Rates"
  | 6 => .array .int
  | 7 => .array .int
  | 8 => .array .int
  | _ => .array .int
abbrev wsX00 : List Cond := u_ws RX0 TX0 10
theorem nmX0 : ∀ a, a < 10 → ∀ b, b < 10 → a ≠ b → (TX0 a).2.1 ≠ (TX0 b).2.1 := by decide +kernel
theorem tyX0_ok : ∀ k, k < 10 → parseFieldDescriptor (TX0 k).2.2.1 = some (tyX0 k) := by decide +kernel
abbrev cX0_init : ByteArray := prog_2_method_1_code
def yX0_init : MethodName := ⟨RX0, "<init>", "()V"⟩
abbrev cX0_isRunStretch : ByteArray := prog_2_method_2_code
def yX0_isRunStretch : MethodName := ⟨RX0, "isRunStretch", "(III)Z"⟩
abbrev cX0_hasLeft : ByteArray := prog_2_method_3_code
def yX0_hasLeft : MethodName := ⟨RX0, "hasLeft", "(II)Z"⟩
abbrev cX0_isOnChart : ByteArray := prog_2_method_4_code
def yX0_isOnChart : MethodName := ⟨RX0, "isOnChart", "(III)Z"⟩
abbrev cX0_sellStretch : ByteArray := prog_2_method_5_code
def yX0_sellStretch : MethodName := ⟨RX0, "sellStretch", "(IIII)I"⟩
abbrev cX0_tightestBerth : ByteArray := prog_2_method_6_code
def yX0_tightestBerth : MethodName := ⟨RX0, "tightestBerth", "(IIII)I"⟩
abbrev cX0_takeBack : ByteArray := prog_2_method_7_code
def yX0_takeBack : MethodName := ⟨RX0, "takeBack", "(I)Z"⟩
abbrev cX0_letterHours : ByteArray := prog_2_method_8_code
def yX0_letterHours : MethodName := ⟨RX0, "letterHours", "(II)I"⟩
abbrev cX0_beginNextHour : ByteArray := prog_2_method_9_code
def yX0_beginNextHour : MethodName := ⟨RX0, "beginNextHour", "()V"⟩
abbrev cX0_layAnew : ByteArray := prog_2_method_10_code
def yX0_layAnew : MethodName := ⟨RX0, "layAnew", "(I)I"⟩
abbrev cX0_layTicket : ByteArray := prog_2_method_11_code
def yX0_layTicket : MethodName := ⟨RX0, "layTicket", "(II)Z"⟩
abbrev cX0_hasRoom : ByteArray := prog_2_method_12_code
def yX0_hasRoom : MethodName := ⟨RX0, "hasRoom", "(IIII)Z"⟩
abbrev cX0_hasRoomOn : ByteArray := prog_2_method_13_code
def yX0_hasRoomOn : MethodName := ⟨RX0, "hasRoomOn", "(III)Z"⟩
abbrev cX0_mostSold : ByteArray := prog_2_method_14_code
def yX0_mostSold : MethodName := ⟨RX0, "mostSold", "(I)I"⟩
abbrev cX0_legsSold : ByteArray := prog_2_method_15_code
def yX0_legsSold : MethodName := ⟨RX0, "legsSold", "(I)I"⟩
abbrev cX0_priceOfRun : ByteArray := prog_2_method_16_code
def yX0_priceOfRun : MethodName := ⟨RX0, "priceOfRun", "(I)J"⟩
abbrev cX0_priceOfLeg : ByteArray := prog_2_method_17_code
def yX0_priceOfLeg : MethodName := ⟨RX0, "priceOfLeg", "(II)J"⟩
abbrev cX0_copyFrom : ByteArray := prog_2_method_18_code
def yX0_copyFrom : MethodName := ⟨RX0, "copyFrom", "(LSleepingCars$Book;)V"⟩
def RX1 : String := "SleepingCars$Letters"
def TX1 : u_T := fun k => match k with
  | 0 => ("SleepingCars$Letters", "size", "I", false)
  | 1 => ("SleepingCars$Letters", "offices", "[I", true)
  | 2 => ("SleepingCars$Letters", "days", "[I", true)
  | 3 => ("SleepingCars$Letters", "froms", "[I", true)
  | 4 => ("SleepingCars$Letters", "tos", "[I", true)
  | 5 => ("SleepingCars$Letters", "comes", "[I", true)
  | 6 => ("SleepingCars$Letters", "answered", "[I", true)
  | _ => ("SleepingCars$Letters", "sold", "[I", true)
def tyX1 : Nat → FieldType := fun k => match k with
  | 0 => .int
  | 1 => .array .int
  | 2 => .array .int
  | 3 => .array .int
  | 4 => .array .int
  | 5 => .array .int
  | 6 => .array .int
  | _ => .array .int
abbrev wsX10 : List Cond := u_ws RX1 TX1 8
theorem nmX1 : ∀ a, a < 8 → ∀ b, b < 8 → a ≠ b → (TX1 a).2.1 ≠ (TX1 b).2.1 := by decide +kernel
theorem tyX1_ok : ∀ k, k < 8 → parseFieldDescriptor (TX1 k).2.2.1 = some (tyX1 k) := by decide +kernel
abbrev cX1_init : ByteArray := prog_3_method_1_code
def yX1_init : MethodName := ⟨RX1, "<init>", "()V"⟩
abbrev cX1_has : ByteArray := prog_3_method_2_code
def yX1_has : MethodName := ⟨RX1, "has", "(I)Z"⟩
abbrev cX1_add : ByteArray := prog_3_method_3_code
def yX1_add : MethodName := ⟨RX1, "add", "(IIIIII)I"⟩
abbrev cX1_standing : ByteArray := prog_3_method_4_code
def yX1_standing : MethodName := ⟨RX1, "standing", "(II)I"⟩
abbrev cX1_copyFrom : ByteArray := prog_3_method_5_code
def yX1_copyFrom : MethodName := ⟨RX1, "copyFrom", "(LSleepingCars$Letters;)V"⟩
def RX2 : String := "SleepingCars$Rates"
def TX2 : u_T := fun k => match k with
  | 0 => ("SleepingCars$Rates", "lines", "I", false)
  | 1 => ("SleepingCars$Rates", "charges", "[I", true)
  | 2 => ("SleepingCars$Rates", "amounts", "[I", true)
  | 3 => ("SleepingCars$Rates", "tests", "[I", true)
  | 4 => ("SleepingCars$Rates", "subjects", "[I", true)
  | 5 => ("SleepingCars$Rates", "signs", "[I", true)
  | 6 => ("SleepingCars$Rates", "bounds", "[I", true)
  | _ => ("SleepingCars$Rates", "negated", "[I", true)
def tyX2 : Nat → FieldType := fun k => match k with
  | 0 => .int
  | 1 => .array .int
  | 2 => .array .int
  | 3 => .array .int
  | 4 => .array .int
  | 5 => .array .int
  | 6 => .array .int
  | _ => .array .int
abbrev wsX20 : List Cond := u_ws RX2 TX2 8
theorem nmX2 : ∀ a, a < 8 → ∀ b, b < 8 → a ≠ b → (TX2 a).2.1 ≠ (TX2 b).2.1 := by decide +kernel
theorem tyX2_ok : ∀ k, k < 8 → parseFieldDescriptor (TX2 k).2.2.1 = some (tyX2 k) := by decide +kernel
abbrev cX2_init : ByteArray := prog_4_method_1_code
def yX2_init : MethodName := ⟨RX2, "<init>", "()V"⟩
abbrev cX2_clear : ByteArray := prog_4_method_2_code
def yX2_clear : MethodName := ⟨RX2, "clear", "()V"⟩
abbrev cX2_addTest : ByteArray := prog_4_method_3_code
def yX2_addTest : MethodName := ⟨RX2, "addTest", "(IIIZ)V"⟩
abbrev cX2_addLine : ByteArray := prog_4_method_4_code
def yX2_addLine : MethodName := ⟨RX2, "addLine", "(II)V"⟩
abbrev cX2_priceOf : ByteArray := prog_4_method_5_code
def yX2_priceOf : MethodName := ⟨RX2, "priceOf", "([I)J"⟩
abbrev cX2_allHold : ByteArray := prog_4_method_6_code
def yX2_allHold : MethodName := ⟨RX2, "allHold", "(I[I)Z"⟩
abbrev cX2_holds : ByteArray := prog_4_method_7_code
def yX2_holds : MethodName := ⟨RX2, "holds", "(I[I)Z"⟩
abbrev cX2_compares : ByteArray := prog_4_method_8_code
def yX2_compares : MethodName := ⟨RX2, "compares", "(III)Z"⟩
abbrev cX2_timesCharged : ByteArray := prog_4_method_9_code
def yX2_timesCharged : MethodName := ⟨RX2, "timesCharged", "(I[I)J"⟩
abbrev cX2_copyFrom : ByteArray := prog_4_method_10_code
def yX2_copyFrom : MethodName := ⟨RX2, "copyFrom", "(LSleepingCars$Rates;)V"⟩
def RX3 : String := "SleepingCars$Reader"
def TX3 : u_T := fun k => match k with
  | 0 => ("SleepingCars$Reader", "faultKind", "I", false)
  | 1 => ("SleepingCars$Reader", "faultPlace", "I", false)
  | 2 => ("SleepingCars$Reader", "draft", "LSleepingCars$Rates;", true)
  | 3 => ("SleepingCars$Reader", "tokens", "LSleepingCars$Tokens;", true)
  | 4 => ("SleepingCars$Reader", "at", "I", false)
  | _ => ("SleepingCars$Reader", "surplusPlace", "I", false)
def tyX3 : Nat → FieldType := fun k => match k with
  | 0 => .int
  | 1 => .int
  | 2 => .object "SleepingCars$Rates"
  | 3 => .object "SleepingCars$Tokens"
  | 4 => .int
  | _ => .int
abbrev wsX30 : List Cond := u_ws RX3 TX3 6
theorem nmX3 : ∀ a, a < 6 → ∀ b, b < 6 → a ≠ b → (TX3 a).2.1 ≠ (TX3 b).2.1 := by decide +kernel
theorem tyX3_ok : ∀ k, k < 6 → parseFieldDescriptor (TX3 k).2.2.1 = some (tyX3 k) := by decide +kernel
abbrev cX3_init : ByteArray := prog_5_method_1_code
def yX3_init : MethodName := ⟨RX3, "<init>", "()V"⟩
abbrev cX3_read : ByteArray := prog_5_method_2_code
def yX3_read : MethodName := ⟨RX3, "read", "(LSleepingCars$Tape;)V"⟩
abbrev cX3_readLine : ByteArray := prog_5_method_3_code
def yX3_readLine : MethodName := ⟨RX3, "readLine", "(Z)V"⟩
abbrev cX3_readTests : ByteArray := prog_5_method_4_code
def yX3_readTests : MethodName := ⟨RX3, "readTests", "()V"⟩
abbrev cX3_readTest : ByteArray := prog_5_method_5_code
def yX3_readTest : MethodName := ⟨RX3, "readTest", "(Z)V"⟩
abbrev cX3_isSound : ByteArray := prog_5_method_6_code
def yX3_isSound : MethodName := ⟨RX3, "isSound", "()Z"⟩
abbrev cX3_isNext : ByteArray := prog_5_method_7_code
def yX3_isNext : MethodName := ⟨RX3, "isNext", "(I)Z"⟩
abbrev cX3_takeIf : ByteArray := prog_5_method_8_code
def yX3_takeIf : MethodName := ⟨RX3, "takeIf", "(Z)V"⟩
abbrev cX3_noteSurplus : ByteArray := prog_5_method_9_code
def yX3_noteSurplus : MethodName := ⟨RX3, "noteSurplus", "()V"⟩
def RX4 : String := "SleepingCars$Route"
def TX4 : u_T := fun k => match k with
  | 0 => ("SleepingCars$Route", "stops", "I", false)
  | 1 => ("SleepingCars$Route", "legKm", "[I", true)
  | _ => ("SleepingCars$Route", "legHours", "[I", true)
def tyX4 : Nat → FieldType := fun k => match k with
  | 0 => .int
  | 1 => .array .int
  | _ => .array .int
abbrev wsX40 : List Cond := u_ws RX4 TX4 3
theorem nmX4 : ∀ a, a < 3 → ∀ b, b < 3 → a ≠ b → (TX4 a).2.1 ≠ (TX4 b).2.1 := by decide +kernel
theorem tyX4_ok : ∀ k, k < 3 → parseFieldDescriptor (TX4 k).2.2.1 = some (tyX4 k) := by decide +kernel
abbrev cX4_init : ByteArray := prog_6_method_1_code
def yX4_init : MethodName := ⟨RX4, "<init>", "()V"⟩
abbrev cX4_lay : ByteArray := prog_6_method_2_code
def yX4_lay : MethodName := ⟨RX4, "lay", "(I)V"⟩
abbrev cX4_isStop : ByteArray := prog_6_method_3_code
def yX4_isStop : MethodName := ⟨RX4, "isStop", "(I)Z"⟩
abbrev cX4_hasLeg : ByteArray := prog_6_method_4_code
def yX4_hasLeg : MethodName := ⟨RX4, "hasLeg", "(I)Z"⟩
abbrev cX4_isStretch : ByteArray := prog_6_method_5_code
def yX4_isStretch : MethodName := ⟨RX4, "isStretch", "(II)Z"⟩
abbrev cX4_hoursTo : ByteArray := prog_6_method_6_code
def yX4_hoursTo : MethodName := ⟨RX4, "hoursTo", "(I)I"⟩
abbrev cX4_allHours : ByteArray := prog_6_method_7_code
def yX4_allHours : MethodName := ⟨RX4, "allHours", "()I"⟩
abbrev cX4_allKm : ByteArray := prog_6_method_8_code
def yX4_allKm : MethodName := ⟨RX4, "allKm", "()I"⟩
abbrev cX4_copyFrom : ByteArray := prog_6_method_9_code
def yX4_copyFrom : MethodName := ⟨RX4, "copyFrom", "(LSleepingCars$Route;)V"⟩
def RX5 : String := "SleepingCars$Runs"
def TX5 : u_T := fun k => match k with
  | 0 => ("SleepingCars$Runs", "size", "I", false)
  | 1 => ("SleepingCars$Runs", "berths", "[I", true)
  | 2 => ("SleepingCars$Runs", "owners", "[I", true)
  | _ => ("SleepingCars$Runs", "soldLegs", "[I", true)
def tyX5 : Nat → FieldType := fun k => match k with
  | 0 => .int
  | 1 => .array .int
  | 2 => .array .int
  | _ => .array .int
abbrev wsX50 : List Cond := u_ws RX5 TX5 4
theorem nmX5 : ∀ a, a < 4 → ∀ b, b < 4 → a ≠ b → (TX5 a).2.1 ≠ (TX5 b).2.1 := by decide +kernel
theorem tyX5_ok : ∀ k, k < 4 → parseFieldDescriptor (TX5 k).2.2.1 = some (tyX5 k) := by decide +kernel
abbrev cX5_init : ByteArray := prog_7_method_1_code
def yX5_init : MethodName := ⟨RX5, "<init>", "()V"⟩
abbrev cX5_isTold : ByteArray := prog_7_method_2_code
def yX5_isTold : MethodName := ⟨RX5, "isTold", "(I)Z"⟩
abbrev cX5_hasBerth : ByteArray := prog_7_method_3_code
def yX5_hasBerth : MethodName := ⟨RX5, "hasBerth", "(II)Z"⟩
abbrev cX5_add : ByteArray := prog_7_method_4_code
def yX5_add : MethodName := ⟨RX5, "add", "(II[I)V"⟩
abbrev cX5_owner : ByteArray := prog_7_method_5_code
def yX5_owner : MethodName := ⟨RX5, "owner", "(II)I"⟩
abbrev cX5_legsOf : ByteArray := prog_7_method_6_code
def yX5_legsOf : MethodName := ⟨RX5, "legsOf", "(II)I"⟩
abbrev cX5_setLegs : ByteArray := prog_7_method_7_code
def yX5_setLegs : MethodName := ⟨RX5, "setLegs", "(III)V"⟩
abbrev cX5_isSold : ByteArray := prog_7_method_8_code
def yX5_isSold : MethodName := ⟨RX5, "isSold", "(III)Z"⟩
abbrev cX5_soldOn : ByteArray := prog_7_method_9_code
def yX5_soldOn : MethodName := ⟨RX5, "soldOn", "(II)I"⟩
abbrev cX5_gap : ByteArray := prog_7_method_10_code
def yX5_gap : MethodName := ⟨RX5, "gap", "(IIIII)I"⟩
abbrev cX5_copyFrom : ByteArray := prog_7_method_11_code
def yX5_copyFrom : MethodName := ⟨RX5, "copyFrom", "(LSleepingCars$Runs;)V"⟩
def RX6 : String := "SleepingCars$Tape"
def TX6 : u_T := fun k => match k with
  | 0 => ("SleepingCars$Tape", "size", "I", false)
  | _ => ("SleepingCars$Tape", "bytes", "[I", true)
def tyX6 : Nat → FieldType := fun k => match k with
  | 0 => .int
  | _ => .array .int
abbrev wsX60 : List Cond := u_ws RX6 TX6 2
theorem nmX6 : ∀ a, a < 2 → ∀ b, b < 2 → a ≠ b → (TX6 a).2.1 ≠ (TX6 b).2.1 := by decide +kernel
theorem tyX6_ok : ∀ k, k < 2 → parseFieldDescriptor (TX6 k).2.2.1 = some (tyX6 k) := by decide +kernel
abbrev cX6_init : ByteArray := prog_8_method_1_code
def yX6_init : MethodName := ⟨RX6, "<init>", "()V"⟩
abbrev cX6_append : ByteArray := prog_8_method_2_code
def yX6_append : MethodName := ⟨RX6, "append", "(I)V"⟩
def RX7 : String := "SleepingCars$Tickets"
def TX7 : u_T := fun k => match k with
  | 0 => ("SleepingCars$Tickets", "size", "I", false)
  | 1 => ("SleepingCars$Tickets", "days", "[I", true)
  | 2 => ("SleepingCars$Tickets", "berths", "[I", true)
  | 3 => ("SleepingCars$Tickets", "froms", "[I", true)
  | 4 => ("SleepingCars$Tickets", "tos", "[I", true)
  | 5 => ("SleepingCars$Tickets", "offices", "[I", true)
  | _ => ("SleepingCars$Tickets", "given", "[I", true)
def tyX7 : Nat → FieldType := fun k => match k with
  | 0 => .int
  | 1 => .array .int
  | 2 => .array .int
  | 3 => .array .int
  | 4 => .array .int
  | 5 => .array .int
  | _ => .array .int
abbrev wsX70 : List Cond := u_ws RX7 TX7 7
theorem nmX7 : ∀ a, a < 7 → ∀ b, b < 7 → a ≠ b → (TX7 a).2.1 ≠ (TX7 b).2.1 := by decide +kernel
theorem tyX7_ok : ∀ k, k < 7 → parseFieldDescriptor (TX7 k).2.2.1 = some (tyX7 k) := by decide +kernel
abbrev cX7_init : ByteArray := prog_9_method_1_code
def yX7_init : MethodName := ⟨RX7, "<init>", "()V"⟩
abbrev cX7_has : ByteArray := prog_9_method_2_code
def yX7_has : MethodName := ⟨RX7, "has", "(I)Z"⟩
abbrev cX7_isFull : ByteArray := prog_9_method_3_code
def yX7_isFull : MethodName := ⟨RX7, "isFull", "()Z"⟩
abbrev cX7_add : ByteArray := prog_9_method_4_code
def yX7_add : MethodName := ⟨RX7, "add", "(IIIII)I"⟩
abbrev cX7_isLive : ByteArray := prog_9_method_5_code
def yX7_isLive : MethodName := ⟨RX7, "isLive", "(II)Z"⟩
abbrev cX7_legsOf : ByteArray := prog_9_method_6_code
def yX7_legsOf : MethodName := ⟨RX7, "legsOf", "(I)I"⟩
abbrev cX7_liveOf : ByteArray := prog_9_method_7_code
def yX7_liveOf : MethodName := ⟨RX7, "liveOf", "(I)I"⟩
abbrev cX7_find : ByteArray := prog_9_method_8_code
def yX7_find : MethodName := ⟨RX7, "find", "(III)I"⟩
abbrev cX7_copyFrom : ByteArray := prog_9_method_9_code
def yX7_copyFrom : MethodName := ⟨RX7, "copyFrom", "(LSleepingCars$Tickets;)V"⟩
def RX8 : String := "SleepingCars$Tokens"
def TX8 : u_T := fun k => match k with
  | 0 => ("SleepingCars$Tokens", "size", "I", false)
  | 1 => ("SleepingCars$Tokens", "kinds", "[I", true)
  | 2 => ("SleepingCars$Tokens", "numbers", "[I", true)
  | _ => ("SleepingCars$Tokens", "places", "[I", true)
def tyX8 : Nat → FieldType := fun k => match k with
  | 0 => .int
  | 1 => .array .int
  | 2 => .array .int
  | _ => .array .int
abbrev wsX80 : List Cond := u_ws RX8 TX8 4
theorem nmX8 : ∀ a, a < 4 → ∀ b, b < 4 → a ≠ b → (TX8 a).2.1 ≠ (TX8 b).2.1 := by decide +kernel
theorem tyX8_ok : ∀ k, k < 4 → parseFieldDescriptor (TX8 k).2.2.1 = some (tyX8 k) := by decide +kernel
abbrev cX8_init : ByteArray := prog_10_method_1_code
def yX8_init : MethodName := ⟨RX8, "<init>", "()V"⟩
abbrev cX8_split : ByteArray := prog_10_method_2_code
def yX8_split : MethodName := ⟨RX8, "split", "(LSleepingCars$Tape;)V"⟩
abbrev cX8_kindAt : ByteArray := prog_10_method_3_code
def yX8_kindAt : MethodName := ⟨RX8, "kindAt", "(I)I"⟩
abbrev cX8_numberAt : ByteArray := prog_10_method_4_code
def yX8_numberAt : MethodName := ⟨RX8, "numberAt", "(I)I"⟩
abbrev cX8_placeAt : ByteArray := prog_10_method_5_code
def yX8_placeAt : MethodName := ⟨RX8, "placeAt", "(I)I"⟩
abbrev cX8_add : ByteArray := prog_10_method_6_code
def yX8_add : MethodName := ⟨RX8, "add", "(III)V"⟩
abbrev cX8_takeAt : ByteArray := prog_10_method_7_code
def yX8_takeAt : MethodName := ⟨RX8, "takeAt", "(LSleepingCars$Tape;I)I"⟩
abbrev cX8_isIn : ByteArray := prog_10_method_8_code
def yX8_isIn : MethodName := ⟨RX8, "isIn", "(ICC)Z"⟩
abbrev cX8_rowLength : ByteArray := prog_10_method_9_code
def yX8_rowLength : MethodName := ⟨RX8, "rowLength", "(LSleepingCars$Tape;ICC)I"⟩
abbrev cX8_numberOf : ByteArray := prog_10_method_10_code
def yX8_numberOf : MethodName := ⟨RX8, "numberOf", "(LSleepingCars$Tape;II)I"⟩
abbrev cX8_signKind : ByteArray := prog_10_method_11_code
def yX8_signKind : MethodName := ⟨RX8, "signKind", "(I)I"⟩
abbrev cX8_wordKind : ByteArray := prog_10_method_12_code
def yX8_wordKind : MethodName := ⟨RX8, "wordKind", "(LSleepingCars$Tape;II)I"⟩
abbrev cX8_wordOf : ByteArray := prog_10_method_13_code
def yX8_wordOf : MethodName := ⟨RX8, "wordOf", "(I)Ljava/lang/String;"⟩
abbrev cX8_spells : ByteArray := prog_10_method_14_code
def yX8_spells : MethodName := ⟨RX8, "spells", "(LSleepingCars$Tape;IILjava/lang/String;)Z"⟩
def RX9 : String := "SleepingCars"
def TX9 : u_T := fun k => match k with
  | 0 => ("SleepingCars", "book", "LSleepingCars$Book;", true)
  | 1 => ("SleepingCars", "images", "[LSleepingCars$Book;", true)
  | 2 => ("SleepingCars", "tape", "LSleepingCars$Tape;", true)
  | _ => ("SleepingCars", "reader", "LSleepingCars$Reader;", true)
def tyX9 : Nat → FieldType := fun k => match k with
  | 0 => .object "SleepingCars$Book"
  | 1 => .array (.object "SleepingCars$Book")
  | 2 => .object "SleepingCars$Tape"
  | _ => .object "SleepingCars$Reader"
abbrev wsX90 : List Cond := u_ws RX9 TX9 4
theorem nmX9 : ∀ a, a < 4 → ∀ b, b < 4 → a ≠ b → (TX9 a).2.1 ≠ (TX9 b).2.1 := by decide +kernel
theorem tyX9_ok : ∀ k, k < 4 → parseFieldDescriptor (TX9 k).2.2.1 = some (tyX9 k) := by decide +kernel
abbrev cX9_init : ByteArray := prog_1_method_1_code
def yX9_init : MethodName := ⟨RX9, "<init>", "()V"⟩
abbrev cX9_line : ByteArray := prog_1_method_2_code
def yX9_line : MethodName := ⟨RX9, "line", "(I)Z"⟩
abbrev cX9_stretch : ByteArray := prog_1_method_3_code
def yX9_stretch : MethodName := ⟨RX9, "stretch", "(III)Z"⟩
abbrev cX9_office : ByteArray := prog_1_method_4_code
def yX9_office : MethodName := ⟨RX9, "office", "(II)Z"⟩
abbrev cX9_share : ByteArray := prog_1_method_5_code
def yX9_share : MethodName := ⟨RX9, "share", "(II)Z"⟩
abbrev cX9_run : ByteArray := prog_1_method_6_code
def yX9_run : MethodName := ⟨RX9, "run", "(II)Z"⟩
abbrev cX9_sell : ByteArray := prog_1_method_7_code
def yX9_sell : MethodName := ⟨RX9, "sell", "(IIII)I"⟩
abbrev cX9_back : ByteArray := prog_1_method_8_code
def yX9_back : MethodName := ⟨RX9, "back", "(I)Z"⟩
abbrev cX9_letter : ByteArray := prog_1_method_9_code
def yX9_letter : MethodName := ⟨RX9, "letter", "(IIIII)I"⟩
abbrev cX9_post : ByteArray := prog_1_method_10_code
def yX9_post : MethodName := ⟨RX9, "post", "(II)I"⟩
abbrev cX9_hours : ByteArray := prog_1_method_11_code
def yX9_hours : MethodName := ⟨RX9, "hours", "(I)I"⟩
abbrev cX9_moved : ByteArray := prog_1_method_12_code
def yX9_moved : MethodName := ⟨RX9, "moved", "(I)I"⟩
abbrev cX9_wouldFit : ByteArray := prog_1_method_13_code
def yX9_wouldFit : MethodName := ⟨RX9, "wouldFit", "(IIII)Z"⟩
abbrev cX9_ticket : ByteArray := prog_1_method_14_code
def yX9_ticket : MethodName := ⟨RX9, "ticket", "(II)I"⟩
abbrev cX9_lies : ByteArray := prog_1_method_15_code
def yX9_lies : MethodName := ⟨RX9, "lies", "(III)I"⟩
abbrev cX9_told : ByteArray := prog_1_method_16_code
def yX9_told : MethodName := ⟨RX9, "told", "(II)I"⟩
abbrev cX9_feed : ByteArray := prog_1_method_17_code
def yX9_feed : MethodName := ⟨RX9, "feed", "(IIIII)I"⟩
abbrev cX9_end : ByteArray := prog_1_method_18_code
def yX9_end : MethodName := ⟨RX9, "end", "(I)I"⟩
abbrev cX9_contract : ByteArray := prog_1_method_19_code
def yX9_contract : MethodName := ⟨RX9, "contract", "()I"⟩
abbrev cX9_fault : ByteArray := prog_1_method_20_code
def yX9_fault : MethodName := ⟨RX9, "fault", "(I)I"⟩
abbrev cX9_cost : ByteArray := prog_1_method_21_code
def yX9_cost : MethodName := ⟨RX9, "cost", "(II)J"⟩
abbrev cX9_cars : ByteArray := prog_1_method_22_code
def yX9_cars : MethodName := ⟨RX9, "cars", "(II)I"⟩
abbrev cX9_count : ByteArray := prog_1_method_23_code
def yX9_count : MethodName := ⟨RX9, "count", "(I)I"⟩
abbrev cX9_image : ByteArray := prog_1_method_24_code
def yX9_image : MethodName := ⟨RX9, "image", "(I)Z"⟩
abbrev cX9_again : ByteArray := prog_1_method_25_code
def yX9_again : MethodName := ⟨RX9, "again", "(I)Z"⟩
abbrev cX9_isOffice : ByteArray := prog_1_method_26_code
def yX9_isOffice : MethodName := ⟨RX9, "isOffice", "(I)Z"⟩
abbrev cX9_ownerOrNone : ByteArray := prog_1_method_27_code
def yX9_ownerOrNone : MethodName := ⟨RX9, "ownerOrNone", "(II)I"⟩
abbrev cX9_isInSet : ByteArray := prog_1_method_28_code
def yX9_isInSet : MethodName := ⟨RX9, "isInSet", "(II)Z"⟩
abbrev cX9_carsOut : ByteArray := prog_1_method_29_code
def yX9_carsOut : MethodName := ⟨RX9, "carsOut", "(III)I"⟩
abbrev cX9_legsBetween : ByteArray := prog_1_method_30_code
def yX9_legsBetween : MethodName := ⟨RX9, "legsBetween", "(II)I"⟩
def RX10 : String := "SleepingCarsModel"
def TX10 : u_T := fun k => match k with
  | 0 => ("SleepingCarsModel", "code", "I", false)
  | 1 => ("SleepingCarsModel", "tape", "[B", true)
  | 2 => ("SleepingCarsModel", "size", "I", false)
  | 3 => ("SleepingCarsModel", "stops", "[I", true)
  | 4 => ("SleepingCarsModel", "km", "[I", true)
  | 5 => ("SleepingCarsModel", "takes", "[I", true)
  | 6 => ("SleepingCarsModel", "officeAt", "[I", true)
  | 7 => ("SleepingCarsModel", "shares", "[I", true)
  | 8 => ("SleepingCarsModel", "berths", "[I", true)
  | 9 => ("SleepingCarsModel", "owner", "[I", true)
  | 10 => ("SleepingCarsModel", "lies", "[I", true)
  | 11 => ("SleepingCarsModel", "tickets", "[I", true)
  | 12 => ("SleepingCarsModel", "tDay", "[I", true)
  | 13 => ("SleepingCarsModel", "tBerth", "[I", true)
  | 14 => ("SleepingCarsModel", "tFrom", "[I", true)
  | 15 => ("SleepingCarsModel", "tTo", "[I", true)
  | 16 => ("SleepingCarsModel", "tOffice", "[I", true)
  | 17 => ("SleepingCarsModel", "tBack", "[I", true)
  | 18 => ("SleepingCarsModel", "letters", "[I", true)
  | 19 => ("SleepingCarsModel", "lComes", "[I", true)
  | 20 => ("SleepingCarsModel", "lAnswer", "[I", true)
  | 21 => ("SleepingCarsModel", "lOffice", "[I", true)
  | 22 => ("SleepingCarsModel", "lDay", "[I", true)
  | 23 => ("SleepingCarsModel", "lFrom", "[I", true)
  | 24 => ("SleepingCarsModel", "lTo", "[I", true)
  | 25 => ("SleepingCarsModel", "lTicket", "[I", true)
  | 26 => ("SleepingCarsModel", "now", "[I", true)
  | 27 => ("SleepingCarsModel", "lines", "[I", true)
  | 28 => ("SleepingCarsModel", "lineTests", "[I", true)
  | 29 => ("SleepingCarsModel", "testWhat", "[I", true)
  | 30 => ("SleepingCarsModel", "testSign", "[I", true)
  | 31 => ("SleepingCarsModel", "testThan", "[I", true)
  | 32 => ("SleepingCarsModel", "lineAct", "[I", true)
  | 33 => ("SleepingCarsModel", "lineNumber", "[I", true)
  | 34 => ("SleepingCarsModel", "free", "[I", true)
  | 35 => ("SleepingCarsModel", "newBerth", "[I", true)
  | 36 => ("SleepingCarsModel", "ahead", "I", false)
  | 37 => ("SleepingCarsModel", "length", "I", false)
  | 38 => ("SleepingCarsModel", "begins", "I", false)
  | 39 => ("SleepingCarsModel", "sort", "I", false)
  | 40 => ("SleepingCarsModel", "value", "I", false)
  | 41 => ("SleepingCarsModel", "word", "J", false)
  | 42 => ("SleepingCarsModel", "fault", "I", false)
  | 43 => ("SleepingCarsModel", "faultPlace", "I", false)
  | 44 => ("SleepingCarsModel", "laterPlace", "I", false)
  | 45 => ("SleepingCarsModel", "newLines", "I", false)
  | 46 => ("SleepingCarsModel", "newTests", "[I", true)
  | 47 => ("SleepingCarsModel", "newWhat", "[I", true)
  | 48 => ("SleepingCarsModel", "newSign", "[I", true)
  | 49 => ("SleepingCarsModel", "newThan", "[I", true)
  | 50 => ("SleepingCarsModel", "newAct", "[I", true)
  | 51 => ("SleepingCarsModel", "newNumber", "[I", true)
  | _ => ("SleepingCarsModel", "has", "[Z", true)
def tyX10 : Nat → FieldType := fun k => match k with
  | 0 => .int
  | 1 => .array .byte
  | 2 => .int
  | 3 => .array .int
  | 4 => .array .int
  | 5 => .array .int
  | 6 => .array .int
  | 7 => .array .int
  | 8 => .array .int
  | 9 => .array .int
  | 10 => .array .int
  | 11 => .array .int
  | 12 => .array .int
  | 13 => .array .int
  | 14 => .array .int
  | 15 => .array .int
  | 16 => .array .int
  | 17 => .array .int
  | 18 => .array .int
  | 19 => .array .int
  | 20 => .array .int
  | 21 => .array .int
  | 22 => .array .int
  | 23 => .array .int
  | 24 => .array .int
  | 25 => .array .int
  | 26 => .array .int
  | 27 => .array .int
  | 28 => .array .int
  | 29 => .array .int
  | 30 => .array .int
  | 31 => .array .int
  | 32 => .array .int
  | 33 => .array .int
  | 34 => .array .int
  | 35 => .array .int
  | 36 => .int
  | 37 => .int
  | 38 => .int
  | 39 => .int
  | 40 => .int
  | 41 => .long
  | 42 => .int
  | 43 => .int
  | 44 => .int
  | 45 => .int
  | 46 => .array .int
  | 47 => .array .int
  | 48 => .array .int
  | 49 => .array .int
  | 50 => .array .int
  | 51 => .array .int
  | _ => .array .boolean
abbrev wsX100 : List Cond := u_ws RX10 TX10 53
theorem nmX10 : ∀ a, a < 53 → ∀ b, b < 53 → a ≠ b → (TX10 a).2.1 ≠ (TX10 b).2.1 := by decide +kernel
theorem tyX10_ok : ∀ k, k < 53 → parseFieldDescriptor (TX10 k).2.2.1 = some (tyX10 k) := by decide +kernel
abbrev cX10_init : ByteArray := prog_12_method_1_code
def yX10_init : MethodName := ⟨RX10, "<init>", "()V"⟩
abbrev cX10_in : ByteArray := prog_12_method_3_code
def yX10_in : MethodName := ⟨RX10, "in", "(III)Z"⟩
abbrev cX10_move : ByteArray := prog_12_method_4_code
def yX10_move : MethodName := ⟨RX10, "move", "([IIII)V"⟩
abbrev cX10_copy : ByteArray := prog_12_method_5_code
def yX10_copy : MethodName := ⟨RX10, "copy", "(II)V"⟩
abbrev cX10_runs : ByteArray := prog_12_method_6_code
def yX10_runs : MethodName := ⟨RX10, "runs", "()I"⟩
abbrev cX10_isRun : ByteArray := prog_12_method_7_code
def yX10_isRun : MethodName := ⟨RX10, "isRun", "(I)Z"⟩
abbrev cX10_isOffice : ByteArray := prog_12_method_8_code
def yX10_isOffice : MethodName := ⟨RX10, "isOffice", "(I)Z"⟩
abbrev cX10_upTo : ByteArray := prog_12_method_9_code
def yX10_upTo : MethodName := ⟨RX10, "upTo", "(I)I"⟩
abbrev cX10_leaves : ByteArray := prog_12_method_10_code
def yX10_leaves : MethodName := ⟨RX10, "leaves", "(II)I"⟩
abbrev cX10_at : ByteArray := prog_12_method_11_code
def yX10_at : MethodName := ⟨RX10, "at", "(III)I"⟩
abbrev cX10_line : ByteArray := prog_12_method_12_code
def yX10_line : MethodName := ⟨RX10, "line", "(I)Z"⟩
abbrev cX10_stretch : ByteArray := prog_12_method_13_code
def yX10_stretch : MethodName := ⟨RX10, "stretch", "(III)Z"⟩
abbrev cX10_office : ByteArray := prog_12_method_14_code
def yX10_office : MethodName := ⟨RX10, "office", "(II)Z"⟩
abbrev cX10_share : ByteArray := prog_12_method_15_code
def yX10_share : MethodName := ⟨RX10, "share", "(II)Z"⟩
abbrev cX10_run : ByteArray := prog_12_method_16_code
def yX10_run : MethodName := ⟨RX10, "run", "(II)Z"⟩
abbrev cX10_isStretch : ByteArray := prog_12_method_17_code
def yX10_isStretch : MethodName := ⟨RX10, "isStretch", "(II)Z"⟩
abbrev cX10_isFree : ByteArray := prog_12_method_18_code
def yX10_isFree : MethodName := ⟨RX10, "isFree", "(IIII)Z"⟩
abbrev cX10_gap : ByteArray := prog_12_method_19_code
def yX10_gap : MethodName := ⟨RX10, "gap", "(IIII)I"⟩
abbrev cX10_canAsk : ByteArray := prog_12_method_20_code
def yX10_canAsk : MethodName := ⟨RX10, "canAsk", "(IIII)Z"⟩
abbrev cX10_sells : ByteArray := prog_12_method_21_code
def yX10_sells : MethodName := ⟨RX10, "sells", "(IIII)I"⟩
abbrev cX10_sell : ByteArray := prog_12_method_22_code
def yX10_sell : MethodName := ⟨RX10, "sell", "(IIII)I"⟩
abbrev cX10_back : ByteArray := prog_12_method_23_code
def yX10_back : MethodName := ⟨RX10, "back", "(I)Z"⟩
abbrev cX10_between : ByteArray := prog_12_method_24_code
def yX10_between : MethodName := ⟨RX10, "between", "(II)I"⟩
abbrev cX10_letter : ByteArray := prog_12_method_25_code
def yX10_letter : MethodName := ⟨RX10, "letter", "(IIIII)I"⟩
abbrev cX10_post : ByteArray := prog_12_method_26_code
def yX10_post : MethodName := ⟨RX10, "post", "(II)I"⟩
abbrev cX10_hours : ByteArray := prog_12_method_27_code
def yX10_hours : MethodName := ⟨RX10, "hours", "(I)I"⟩
abbrev cX10_following : ByteArray := prog_12_method_28_code
def yX10_following : MethodName := ⟨RX10, "following", "(III)I"⟩
abbrev cX10_firstFree : ByteArray := prog_12_method_29_code
def yX10_firstFree : MethodName := ⟨RX10, "firstFree", "(III)I"⟩
abbrev cX10_places : ByteArray := prog_12_method_30_code
def yX10_places : MethodName := ⟨RX10, "places", "(IIII)Z"⟩
abbrev cX10_hasLeft : ByteArray := prog_12_method_31_code
def yX10_hasLeft : MethodName := ⟨RX10, "hasLeft", "(I)Z"⟩
abbrev cX10_moved : ByteArray := prog_12_method_32_code
def yX10_moved : MethodName := ⟨RX10, "moved", "(I)I"⟩
abbrev cX10_wouldFit : ByteArray := prog_12_method_33_code
def yX10_wouldFit : MethodName := ⟨RX10, "wouldFit", "(IIII)Z"⟩
abbrev cX10_ticket : ByteArray := prog_12_method_34_code
def yX10_ticket : MethodName := ⟨RX10, "ticket", "(II)I"⟩
abbrev cX10_lies : ByteArray := prog_12_method_35_code
def yX10_lies : MethodName := ⟨RX10, "lies", "(III)I"⟩
abbrev cX10_sold : ByteArray := prog_12_method_36_code
def yX10_sold : MethodName := ⟨RX10, "sold", "(II)I"⟩
abbrev cX10_told : ByteArray := prog_12_method_37_code
def yX10_told : MethodName := ⟨RX10, "told", "(II)I"⟩
abbrev cX10_feed : ByteArray := prog_12_method_38_code
def yX10_feed : MethodName := ⟨RX10, "feed", "(IIIII)I"⟩
abbrev cX10_four : ByteArray := prog_12_method_39_code
def yX10_four : MethodName := ⟨RX10, "four", "(I)V"⟩
abbrev cX10_end : ByteArray := prog_12_method_40_code
def yX10_end : MethodName := ⟨RX10, "end", "(I)I"⟩
abbrev cX10_see : ByteArray := prog_12_method_41_code
def yX10_see : MethodName := ⟨RX10, "see", "()I"⟩
abbrev cX10_next : ByteArray := prog_12_method_42_code
def yX10_next : MethodName := ⟨RX10, "next", "()V"⟩
abbrev cX10_isWord : ByteArray := prog_12_method_43_code
def yX10_isWord : MethodName := ⟨RX10, "isWord", "(J)Z"⟩
abbrev cX10_isSign : ByteArray := prog_12_method_44_code
def yX10_isSign : MethodName := ⟨RX10, "isSign", "(I)Z"⟩
abbrev cX10_wrong : ByteArray := prog_12_method_45_code
def yX10_wrong : MethodName := ⟨RX10, "wrong", "()Z"⟩
abbrev cX10_tooMany : ByteArray := prog_12_method_46_code
def yX10_tooMany : MethodName := ⟨RX10, "tooMany", "(I)V"⟩
abbrev cX10_need : ByteArray := prog_12_method_47_code
def yX10_need : MethodName := ⟨RX10, "need", "(I)Z"⟩
abbrev cX10_oneLine : ByteArray := prog_12_method_48_code
def yX10_oneLine : MethodName := ⟨RX10, "oneLine", "()Z"⟩
abbrev cX10_test : ByteArray := prog_12_method_49_code
def yX10_test : MethodName := ⟨RX10, "test", "(II)Z"⟩
abbrev cX10_contract : ByteArray := prog_12_method_50_code
def yX10_contract : MethodName := ⟨RX10, "contract", "()I"⟩
abbrev cX10_fault : ByteArray := prog_12_method_51_code
def yX10_fault : MethodName := ⟨RX10, "fault", "(I)I"⟩
abbrev cX10_asked : ByteArray := prog_12_method_52_code
def yX10_asked : MethodName := ⟨RX10, "asked", "(III)I"⟩
abbrev cX10_holds : ByteArray := prog_12_method_53_code
def yX10_holds : MethodName := ⟨RX10, "holds", "(III)Z"⟩
abbrev cX10_costOf : ByteArray := prog_12_method_54_code
def yX10_costOf : MethodName := ⟨RX10, "costOf", "(II)J"⟩
abbrev cX10_cost : ByteArray := prog_12_method_55_code
def yX10_cost : MethodName := ⟨RX10, "cost", "(II)J"⟩
abbrev cX10_cars : ByteArray := prog_12_method_56_code
def yX10_cars : MethodName := ⟨RX10, "cars", "(II)I"⟩
abbrev cX10_count : ByteArray := prog_12_method_57_code
def yX10_count : MethodName := ⟨RX10, "count", "(I)I"⟩
abbrev cX10_image : ByteArray := prog_12_method_58_code
def yX10_image : MethodName := ⟨RX10, "image", "(I)Z"⟩
abbrev cX10_again : ByteArray := prog_12_method_59_code
def yX10_again : MethodName := ⟨RX10, "again", "(I)Z"⟩
def RJ9 : String := "java/lang/Math"
def TJ9 : u_T := fun k => match k with
  | _ => ("", "", "", false)
def tyJ9 : Nat → FieldType := fun k => match k with
  | _ => .int
abbrev wsJ90 : List Cond := u_ws RJ9 TJ9 0
theorem nmJ9 : ∀ a, a < 0 → ∀ b, b < 0 → a ≠ b → (TJ9 a).2.1 ≠ (TJ9 b).2.1 := by decide +kernel
theorem tyJ9_ok : ∀ k, k < 0 → parseFieldDescriptor (TJ9 k).2.2.1 = some (tyJ9 k) := by decide +kernel
abbrev cJ9_abs_0f7a4 : ByteArray := prog_13_method_59_code
def yJ9_abs_0f7a4 : MethodName := ⟨RJ9, "abs", "(I)I"⟩
abbrev cJ9_max_7cf53 : ByteArray := prog_13_method_65_code
def yJ9_max_7cf53 : MethodName := ⟨RJ9, "max", "(II)I"⟩
def RJ0 : String := "java/lang/String"
def TJ0 : u_T := fun k => match k with
  | _ => ("", "", "", false)
def tyJ0 : Nat → FieldType := fun k => match k with
  | _ => .int
abbrev wsJ00 : List Cond := u_ws RJ0 TJ0 0
theorem nmJ0 : ∀ a, a < 0 → ∀ b, b < 0 → a ≠ b → (TJ0 a).2.1 ≠ (TJ0 b).2.1 := by decide +kernel
theorem tyJ0_ok : ∀ k, k < 0 → parseFieldDescriptor (TJ0 k).2.2.1 = some (tyJ0 k) := by decide +kernel
abbrev cJ0_length_8abf5 : ByteArray := prog_14_method_54_code
def yJ0_length_8abf5 : MethodName := ⟨RJ0, "length", "()I"⟩
abbrev cJ0_charAt_5068e : ByteArray := prog_14_method_56_code
def yJ0_charAt_5068e : MethodName := ⟨RJ0, "charAt", "(I)C"⟩
abbrev cJ0_coder_7d493 : ByteArray := prog_14_method_152_code
def yJ0_coder_7d493 : MethodName := ⟨RJ0, "coder", "()B"⟩
abbrev cJ0_isLatin1_aae02 : ByteArray := prog_14_method_154_code
def yJ0_isLatin1_aae02 : MethodName := ⟨RJ0, "isLatin1", "()Z"⟩
abbrev cJ0_checkIndex_df160 : ByteArray := prog_14_method_155_code
def yJ0_checkIndex_df160 : MethodName := ⟨RJ0, "checkIndex", "(II)V"⟩
def RJ1 : String := "java/lang/StringLatin1"
def TJ1 : u_T := fun k => match k with
  | _ => ("", "", "", false)
def tyJ1 : Nat → FieldType := fun k => match k with
  | _ => .int
abbrev wsJ10 : List Cond := u_ws RJ1 TJ1 0
theorem nmJ1 : ∀ a, a < 0 → ∀ b, b < 0 → a ≠ b → (TJ1 a).2.1 ≠ (TJ1 b).2.1 := by decide +kernel
theorem tyJ1_ok : ∀ k, k < 0 → parseFieldDescriptor (TJ1 k).2.2.1 = some (tyJ1 k) := by decide +kernel
abbrev cJ1_charAt_3b067 : ByteArray := prog_15_method_2_code
def yJ1_charAt_3b067 : MethodName := ⟨RJ1, "charAt", "([BI)C"⟩
def RJ2 : String := "java/lang/StringUTF16"
def TJ2 : u_T := fun k => match k with
  | _ => ("", "", "", false)
def tyJ2 : Nat → FieldType := fun k => match k with
  | _ => .int
abbrev wsJ20 : List Cond := u_ws RJ2 TJ2 0
theorem nmJ2 : ∀ a, a < 0 → ∀ b, b < 0 → a ≠ b → (TJ2 a).2.1 ≠ (TJ2 b).2.1 := by decide +kernel
theorem tyJ2_ok : ∀ k, k < 0 → parseFieldDescriptor (TJ2 k).2.2.1 = some (tyJ2 k) := by decide +kernel
abbrev cJ2_getChar_3b067 : ByteArray := prog_16_method_5_code
def yJ2_getChar_3b067 : MethodName := ⟨RJ2, "getChar", "([BI)C"⟩
abbrev cJ2_length_9d52b : ByteArray := prog_16_method_6_code
def yJ2_length_9d52b : MethodName := ⟨RJ2, "length", "([B)I"⟩
abbrev cJ2_charAt_3b067 : ByteArray := prog_16_method_83_code
def yJ2_charAt_3b067 : MethodName := ⟨RJ2, "charAt", "([BI)C"⟩
abbrev cJ2_checkIndex_2214a : ByteArray := prog_16_method_91_code
def yJ2_checkIndex_2214a : MethodName := ⟨RJ2, "checkIndex", "(I[B)V"⟩
def RJ10 : String := "java/lang/System"
def TJ10 : u_T := fun k => match k with
  | _ => ("", "", "", false)
def tyJ10 : Nat → FieldType := fun k => match k with
  | _ => .int
abbrev wsJ100 : List Cond := u_ws RJ10 TJ10 0
theorem nmJ10 : ∀ a, a < 0 → ∀ b, b < 0 → a ≠ b → (TJ10 a).2.1 ≠ (TJ10 b).2.1 := by decide +kernel
theorem tyJ10_ok : ∀ k, k < 0 → parseFieldDescriptor (TJ10 k).2.2.1 = some (tyJ10 k) := by decide +kernel
def RJ7 : String := "java/util/Arrays"
def TJ7 : u_T := fun k => match k with
  | _ => ("", "", "", false)
def tyJ7 : Nat → FieldType := fun k => match k with
  | _ => .int
abbrev wsJ70 : List Cond := u_ws RJ7 TJ7 0
theorem nmJ7 : ∀ a, a < 0 → ∀ b, b < 0 → a ≠ b → (TJ7 a).2.1 ≠ (TJ7 b).2.1 := by decide +kernel
theorem tyJ7_ok : ∀ k, k < 0 → parseFieldDescriptor (TJ7 k).2.2.1 = some (tyJ7 k) := by decide +kernel
abbrev cJ7_fill_53178 : ByteArray := prog_18_method_103_code
def yJ7_fill_53178 : MethodName := ⟨RJ7, "fill", "([II)V"⟩
def RJ3 : String := "jdk/internal/util/Preconditions"
def TJ3 : u_T := fun k => match k with
  | _ => ("", "", "", false)
def tyJ3 : Nat → FieldType := fun k => match k with
  | _ => .int
abbrev wsJ30 : List Cond := u_ws RJ3 TJ3 0
theorem nmJ3 : ∀ a, a < 0 → ∀ b, b < 0 → a ≠ b → (TJ3 a).2.1 ≠ (TJ3 b).2.1 := by decide +kernel
theorem tyJ3_ok : ∀ k, k < 0 → parseFieldDescriptor (TJ3 k).2.2.1 = some (tyJ3 k) := by decide +kernel
abbrev cJ3_checkIndex_8e157 : ByteArray := prog_19_method_11_code
def yJ3_checkIndex_8e157 : MethodName := ⟨RJ3, "checkIndex", "(IILjava/util/function/BiFunction;)I"⟩
def RL : String := "SleepingCarsLaw"
abbrev cL_law : ByteArray := code
def yL_law : MethodName := ⟨RL, "law", "([I)Z"⟩
def wsJ7_fill_53178 : List Cond := .code yJ7_fill_53178 cJ7_fill_53178 4 none :: ([])
def wsX4_lay : List Cond := .code yX4_lay cX4_lay 2 none :: ([.fieldLink RX4 22 "SleepingCars$Route" "stops" "I", .fieldLink RX4 9 "SleepingCars$Route" "legKm" "[I", .fieldLink RX4 15 "SleepingCars$Route" "legHours" "[I", .methodLink RX4 26 yJ7_fill_53178, .static yJ7_fill_53178, .initialized RJ7, .code yJ7_fill_53178 cJ7_fill_53178 4 none] ++ wsX40)
def wsX4_init : List Cond := .code yX4_init cX4_init 1 none :: ([.methodLink RX4 3 objectInit, .instanceMethod objectInit, .code objectInit ⟨#[0xb1]⟩ 1 none, .arrayClass .int, .fieldLink RX4 9 "SleepingCars$Route" "legKm" "[I", .fieldLink RX4 15 "SleepingCars$Route" "legHours" "[I", .methodLink RX4 18 yX4_lay, .instanceMethod yX4_lay, .selects RX4 yX4_lay yX4_lay, .initialized RX4, .code yX4_lay cX4_lay 2 none, .fieldLink RX4 22 "SleepingCars$Route" "stops" "I", .methodLink RX4 26 yJ7_fill_53178, .static yJ7_fill_53178, .initialized RJ7, .code yJ7_fill_53178 cJ7_fill_53178 4 none] ++ wsX40)
def wsX5_init : List Cond := .code yX5_init cX5_init 1 none :: ([.methodLink RX5 3 objectInit, .instanceMethod objectInit, .code objectInit ⟨#[0xb1]⟩ 1 none, .arrayClass .int, .fieldLink RX5 9 "SleepingCars$Runs" "berths" "[I", .fieldLink RX5 15 "SleepingCars$Runs" "owners" "[I", .fieldLink RX5 18 "SleepingCars$Runs" "soldLegs" "[I"] ++ wsX50)
def wsX7_init : List Cond := .code yX7_init cX7_init 1 none :: ([.methodLink RX7 3 objectInit, .instanceMethod objectInit, .code objectInit ⟨#[0xb1]⟩ 1 none, .arrayClass .int, .fieldLink RX7 9 "SleepingCars$Tickets" "days" "[I", .fieldLink RX7 15 "SleepingCars$Tickets" "berths" "[I", .fieldLink RX7 18 "SleepingCars$Tickets" "froms" "[I", .fieldLink RX7 21 "SleepingCars$Tickets" "tos" "[I", .fieldLink RX7 24 "SleepingCars$Tickets" "offices" "[I", .fieldLink RX7 27 "SleepingCars$Tickets" "given" "[I"] ++ wsX70)
def wsX1_init : List Cond := .code yX1_init cX1_init 1 none :: ([.methodLink RX1 3 objectInit, .instanceMethod objectInit, .code objectInit ⟨#[0xb1]⟩ 1 none, .arrayClass .int, .fieldLink RX1 9 "SleepingCars$Letters" "offices" "[I", .fieldLink RX1 15 "SleepingCars$Letters" "days" "[I", .fieldLink RX1 18 "SleepingCars$Letters" "froms" "[I", .fieldLink RX1 21 "SleepingCars$Letters" "tos" "[I", .fieldLink RX1 24 "SleepingCars$Letters" "comes" "[I", .fieldLink RX1 27 "SleepingCars$Letters" "answered" "[I", .fieldLink RX1 30 "SleepingCars$Letters" "sold" "[I"] ++ wsX10)
def wsX2_init : List Cond := .code yX2_init cX2_init 1 none :: ([.methodLink RX2 3 objectInit, .instanceMethod objectInit, .code objectInit ⟨#[0xb1]⟩ 1 none, .arrayClass .int, .fieldLink RX2 9 "SleepingCars$Rates" "charges" "[I", .fieldLink RX2 15 "SleepingCars$Rates" "amounts" "[I", .fieldLink RX2 18 "SleepingCars$Rates" "tests" "[I", .fieldLink RX2 21 "SleepingCars$Rates" "subjects" "[I", .fieldLink RX2 24 "SleepingCars$Rates" "signs" "[I", .fieldLink RX2 27 "SleepingCars$Rates" "bounds" "[I", .fieldLink RX2 30 "SleepingCars$Rates" "negated" "[I"] ++ wsX20)
def wsX0_init_r1 : List Cond := [Cond.methodLink RX0 3 objectInit, Cond.instanceMethod objectInit, Cond.code objectInit ⟨#[0xb1]⟩ 1 none, Cond.classLink RX0 9 RX4, Cond.instantiable RX4 3, Cond.initialized RX4, Cond.fieldLink RX0 12 "SleepingCars$Book" "route" "LSleepingCars$Route;", Cond.classLink RX0 18 RX5, Cond.instantiable RX5 4, Cond.initialized RX5, Cond.fieldLink RX0 21 "SleepingCars$Book" "runs" "LSleepingCars$Runs;", Cond.classLink RX0 25 RX7, Cond.instantiable RX7 7, Cond.initialized RX7, Cond.fieldLink RX0 28 "SleepingCars$Book" "tickets" "LSleepingCars$Tickets;", Cond.classLink RX0 32 RX1, Cond.instantiable RX1 8, Cond.initialized RX1, Cond.fieldLink RX0 35 "SleepingCars$Book" "letters" "LSleepingCars$Letters;", Cond.classLink RX0 39 RX2, Cond.instantiable RX2 8, Cond.initialized RX2, Cond.fieldLink RX0 42 "SleepingCars$Book" "rates" "LSleepingCars$Rates;", Cond.arrayClass .int]
def wsX0_init_r2 : List Cond := [Cond.fieldLink RX0 46 "SleepingCars$Book" "officeStops" "[I", Cond.fieldLink RX0 50 "SleepingCars$Book" "shares" "[I", Cond.fieldLink RX0 53 "SleepingCars$Book" "newLegs" "[I", Cond.fieldLink RX0 56 "SleepingCars$Book" "facts" "[I", Cond.methodLink RX0 11 yX4_init, Cond.instanceMethod yX4_init, Cond.code yX4_init cX4_init 1 none, Cond.methodLink RX4 3 objectInit, Cond.fieldLink RX4 9 "SleepingCars$Route" "legKm" "[I", Cond.fieldLink RX4 15 "SleepingCars$Route" "legHours" "[I", Cond.methodLink RX4 18 yX4_lay, Cond.instanceMethod yX4_lay, Cond.selects RX4 yX4_lay yX4_lay, Cond.code yX4_lay cX4_lay 2 none, Cond.fieldLink RX4 22 "SleepingCars$Route" "stops" "I", Cond.methodLink RX4 26 yJ7_fill_53178, Cond.static yJ7_fill_53178, Cond.initialized RJ7, Cond.code yJ7_fill_53178 cJ7_fill_53178 4 none, Cond.instanceMethod yX5_init, Cond.code yX5_init cX5_init 1 none, Cond.methodLink RX5 3 objectInit, Cond.fieldLink RX5 9 "SleepingCars$Runs" "berths" "[I", Cond.fieldLink RX5 15 "SleepingCars$Runs" "owners" "[I"]
def wsX0_init_r3 : List Cond := [Cond.fieldLink RX5 18 "SleepingCars$Runs" "soldLegs" "[I", Cond.instanceMethod yX7_init, Cond.code yX7_init cX7_init 1 none, Cond.methodLink RX7 3 objectInit, Cond.fieldLink RX7 9 "SleepingCars$Tickets" "days" "[I", Cond.fieldLink RX7 15 "SleepingCars$Tickets" "berths" "[I", Cond.fieldLink RX7 18 "SleepingCars$Tickets" "froms" "[I", Cond.fieldLink RX7 21 "SleepingCars$Tickets" "tos" "[I", Cond.fieldLink RX7 24 "SleepingCars$Tickets" "offices" "[I", Cond.fieldLink RX7 27 "SleepingCars$Tickets" "given" "[I", Cond.instanceMethod yX1_init, Cond.code yX1_init cX1_init 1 none, Cond.methodLink RX1 3 objectInit, Cond.fieldLink RX1 9 "SleepingCars$Letters" "offices" "[I", Cond.fieldLink RX1 15 "SleepingCars$Letters" "days" "[I", Cond.fieldLink RX1 18 "SleepingCars$Letters" "froms" "[I", Cond.fieldLink RX1 21 "SleepingCars$Letters" "tos" "[I", Cond.fieldLink RX1 24 "SleepingCars$Letters" "comes" "[I", Cond.fieldLink RX1 27 "SleepingCars$Letters" "answered" "[I", Cond.fieldLink RX1 30 "SleepingCars$Letters" "sold" "[I", Cond.instanceMethod yX2_init, Cond.code yX2_init cX2_init 1 none, Cond.methodLink RX2 3 objectInit, Cond.fieldLink RX2 9 "SleepingCars$Rates" "charges" "[I"]
def wsX0_init_r4 : List Cond := [Cond.fieldLink RX2 15 "SleepingCars$Rates" "amounts" "[I", Cond.fieldLink RX2 18 "SleepingCars$Rates" "tests" "[I", Cond.fieldLink RX2 21 "SleepingCars$Rates" "subjects" "[I", Cond.fieldLink RX2 24 "SleepingCars$Rates" "signs" "[I", Cond.fieldLink RX2 27 "SleepingCars$Rates" "bounds" "[I", Cond.fieldLink RX2 30 "SleepingCars$Rates" "negated" "[I"]
def wsX0_init : List Cond := .code yX0_init cX0_init 1 none :: ((wsX0_init_r1 ++ (wsX0_init_r2 ++ (wsX0_init_r3 ++ wsX0_init_r4))) ++ wsX40 ++ wsX00 ++ wsX50 ++ wsX70 ++ wsX10 ++ wsX20)
def wsX5_isTold : List Cond := .code yX5_isTold cX5_isTold 2 (some .boolean) :: ([.fieldLink RX5 9 "SleepingCars$Runs" "berths" "[I"] ++ wsX50)
def wsX4_isStretch : List Cond := .code yX4_isStretch cX4_isStretch 3 (some .boolean) :: ([.fieldLink RX4 22 "SleepingCars$Route" "stops" "I"] ++ wsX40)
def wsX0_isRunStretch : List Cond := .code yX0_isRunStretch cX0_isRunStretch 4 (some .boolean) :: ([.fieldLink RX0 21 "SleepingCars$Book" "runs" "LSleepingCars$Runs;", .fieldLink RX0 12 "SleepingCars$Book" "route" "LSleepingCars$Route;", .methodLink RX0 59 yX5_isTold, .instanceMethod yX5_isTold, .selects RX5 yX5_isTold yX5_isTold, .initialized RX5, .code yX5_isTold cX5_isTold 2 (some .boolean), .fieldLink RX5 9 "SleepingCars$Runs" "berths" "[I", .methodLink RX0 63 yX4_isStretch, .instanceMethod yX4_isStretch, .selects RX4 yX4_isStretch yX4_isStretch, .initialized RX4, .code yX4_isStretch cX4_isStretch 3 (some .boolean), .fieldLink RX4 22 "SleepingCars$Route" "stops" "I"] ++ wsX00 ++ wsX50 ++ wsX40)
def wsX4_hoursTo : List Cond := .code yX4_hoursTo cX4_hoursTo 4 (some .int) :: ([.fieldLink RX4 15 "SleepingCars$Route" "legHours" "[I"] ++ wsX40)
def wsX0_hasLeft : List Cond := .code yX0_hasLeft cX0_hasLeft 3 (some .boolean) :: ([.fieldLink RX0 67 "SleepingCars$Book" "now" "I", .fieldLink RX0 12 "SleepingCars$Book" "route" "LSleepingCars$Route;", .methodLink RX0 71 yX4_hoursTo, .instanceMethod yX4_hoursTo, .selects RX4 yX4_hoursTo yX4_hoursTo, .initialized RX4, .code yX4_hoursTo cX4_hoursTo 4 (some .int), .fieldLink RX4 15 "SleepingCars$Route" "legHours" "[I"] ++ wsX00 ++ wsX40)
def wsX5_owner : List Cond := .code yX5_owner cX5_owner 3 (some .int) :: ([.fieldLink RX5 15 "SleepingCars$Runs" "owners" "[I"] ++ wsX50)
def wsX0_isOnChart : List Cond := .code yX0_isOnChart cX0_isOnChart 4 (some .boolean) :: ([.fieldLink RX0 67 "SleepingCars$Book" "now" "I", .fieldLink RX0 21 "SleepingCars$Book" "runs" "LSleepingCars$Runs;", .methodLink RX0 75 yX5_owner, .instanceMethod yX5_owner, .selects RX5 yX5_owner yX5_owner, .initialized RX5, .code yX5_owner cX5_owner 3 (some .int), .fieldLink RX5 15 "SleepingCars$Runs" "owners" "[I"] ++ wsX00 ++ wsX50)
def wsX7_isFull : List Cond := .code yX7_isFull cX7_isFull 1 (some .boolean) :: ([.fieldLink RX7 30 "SleepingCars$Tickets" "size" "I"] ++ wsX70)
def wsX5_legsOf : List Cond := .code yX5_legsOf cX5_legsOf 3 (some .int) :: ([.fieldLink RX5 18 "SleepingCars$Runs" "soldLegs" "[I"] ++ wsX50)
def wsX9_legsBetween : List Cond := .code yX9_legsBetween cX9_legsBetween 2 (some .int) :: ([])
def wsX5_isSold : List Cond := .code yX5_isSold cX5_isSold 4 (some .boolean) :: ([.methodLink RX5 35 yX5_legsOf, .instanceMethod yX5_legsOf, .selects RX5 yX5_legsOf yX5_legsOf, .initialized RX5, .code yX5_legsOf cX5_legsOf 3 (some .int), .fieldLink RX5 18 "SleepingCars$Runs" "soldLegs" "[I"] ++ wsX50)
def wsX5_gap : List Cond := .code yX5_gap cX5_gap 8 (some .int) :: ([.methodLink RX5 39 yX5_isSold, .instanceMethod yX5_isSold, .selects RX5 yX5_isSold yX5_isSold, .initialized RX5, .code yX5_isSold cX5_isSold 4 (some .boolean), .methodLink RX5 35 yX5_legsOf, .instanceMethod yX5_legsOf, .selects RX5 yX5_legsOf yX5_legsOf, .code yX5_legsOf cX5_legsOf 3 (some .int), .fieldLink RX5 18 "SleepingCars$Runs" "soldLegs" "[I"] ++ wsX50)
def wsX0_tightestBerth_r1 : List Cond := [Cond.fieldLink RX0 21 "SleepingCars$Book" "runs" "LSleepingCars$Runs;", Cond.fieldLink RX0 104 "SleepingCars$Runs" "berths" "[I", Cond.fieldLink RX0 12 "SleepingCars$Book" "route" "LSleepingCars$Route;", Cond.fieldLink RX0 111 "SleepingCars$Route" "stops" "I", Cond.methodLink RX0 90 yX5_legsOf, Cond.instanceMethod yX5_legsOf, Cond.selects RX5 yX5_legsOf yX5_legsOf, Cond.initialized RX5, Cond.code yX5_legsOf cX5_legsOf 3 (some .int), Cond.fieldLink RX5 18 "SleepingCars$Runs" "soldLegs" "[I", Cond.static yX9_legsBetween, Cond.initialized RX9, Cond.code yX9_legsBetween cX9_legsBetween 2 (some .int), Cond.methodLink RX0 107 yX0_isOnChart, Cond.instanceMethod yX0_isOnChart, Cond.selects RX0 yX0_isOnChart yX0_isOnChart, Cond.initialized RX0, Cond.code yX0_isOnChart cX0_isOnChart 4 (some .boolean), Cond.fieldLink RX0 67 "SleepingCars$Book" "now" "I", Cond.methodLink RX0 75 yX5_owner, Cond.instanceMethod yX5_owner, Cond.selects RX5 yX5_owner yX5_owner, Cond.code yX5_owner cX5_owner 3 (some .int), Cond.fieldLink RX5 15 "SleepingCars$Runs" "owners" "[I"]
def wsX0_tightestBerth_r2 : List Cond := [Cond.methodLink RX0 114 yX5_gap, Cond.instanceMethod yX5_gap, Cond.selects RX5 yX5_gap yX5_gap, Cond.code yX5_gap cX5_gap 8 (some .int), Cond.methodLink RX5 39 yX5_isSold, Cond.instanceMethod yX5_isSold, Cond.selects RX5 yX5_isSold yX5_isSold, Cond.code yX5_isSold cX5_isSold 4 (some .boolean), Cond.methodLink RX5 35 yX5_legsOf]
def wsX0_tightestBerth : List Cond := .code yX0_tightestBerth cX0_tightestBerth 10 (some .int) :: ((wsX0_tightestBerth_r1 ++ wsX0_tightestBerth_r2) ++ wsX00 ++ wsX50 ++ wsX40)
def wsX5_setLegs : List Cond := .code yX5_setLegs cX5_setLegs 4 none :: ([.fieldLink RX5 18 "SleepingCars$Runs" "soldLegs" "[I"] ++ wsX50)
def wsX7_add : List Cond := .code yX7_add cX7_add 6 (some .int) :: ([.fieldLink RX7 9 "SleepingCars$Tickets" "days" "[I", .fieldLink RX7 30 "SleepingCars$Tickets" "size" "I", .fieldLink RX7 15 "SleepingCars$Tickets" "berths" "[I", .fieldLink RX7 18 "SleepingCars$Tickets" "froms" "[I", .fieldLink RX7 21 "SleepingCars$Tickets" "tos" "[I", .fieldLink RX7 24 "SleepingCars$Tickets" "offices" "[I", .fieldLink RX7 27 "SleepingCars$Tickets" "given" "[I", .methodLink RX7 34 yX7_isFull, .instanceMethod yX7_isFull, .selects RX7 yX7_isFull yX7_isFull, .initialized RX7, .code yX7_isFull cX7_isFull 1 (some .boolean)] ++ wsX70)
def wsX0_sellStretch_r1 : List Cond := [Cond.fieldLink RX0 28 "SleepingCars$Book" "tickets" "LSleepingCars$Tickets;", Cond.fieldLink RX0 21 "SleepingCars$Book" "runs" "LSleepingCars$Runs;", Cond.methodLink RX0 79 yX7_isFull, Cond.instanceMethod yX7_isFull, Cond.selects RX7 yX7_isFull yX7_isFull, Cond.initialized RX7, Cond.code yX7_isFull cX7_isFull 1 (some .boolean), Cond.fieldLink RX7 30 "SleepingCars$Tickets" "size" "I", Cond.methodLink RX0 83 yX0_hasLeft, Cond.instanceMethod yX0_hasLeft, Cond.selects RX0 yX0_hasLeft yX0_hasLeft, Cond.initialized RX0, Cond.code yX0_hasLeft cX0_hasLeft 3 (some .boolean), Cond.fieldLink RX0 67 "SleepingCars$Book" "now" "I", Cond.fieldLink RX0 12 "SleepingCars$Book" "route" "LSleepingCars$Route;", Cond.methodLink RX0 71 yX4_hoursTo, Cond.instanceMethod yX4_hoursTo, Cond.selects RX4 yX4_hoursTo yX4_hoursTo, Cond.initialized RX4, Cond.code yX4_hoursTo cX4_hoursTo 4 (some .int), Cond.fieldLink RX4 15 "SleepingCars$Route" "legHours" "[I", Cond.methodLink RX0 86 yX0_tightestBerth, Cond.instanceMethod yX0_tightestBerth, Cond.selects RX0 yX0_tightestBerth yX0_tightestBerth]
def wsX0_sellStretch_r2 : List Cond := [Cond.code yX0_tightestBerth cX0_tightestBerth 10 (some .int), Cond.fieldLink RX0 104 "SleepingCars$Runs" "berths" "[I", Cond.fieldLink RX0 111 "SleepingCars$Route" "stops" "I", Cond.methodLink RX0 90 yX5_legsOf, Cond.instanceMethod yX5_legsOf, Cond.selects RX5 yX5_legsOf yX5_legsOf, Cond.initialized RX5, Cond.code yX5_legsOf cX5_legsOf 3 (some .int), Cond.fieldLink RX5 18 "SleepingCars$Runs" "soldLegs" "[I", Cond.static yX9_legsBetween, Cond.initialized RX9, Cond.code yX9_legsBetween cX9_legsBetween 2 (some .int), Cond.methodLink RX0 107 yX0_isOnChart, Cond.instanceMethod yX0_isOnChart, Cond.selects RX0 yX0_isOnChart yX0_isOnChart, Cond.code yX0_isOnChart cX0_isOnChart 4 (some .boolean), Cond.methodLink RX0 75 yX5_owner, Cond.instanceMethod yX5_owner, Cond.selects RX5 yX5_owner yX5_owner, Cond.code yX5_owner cX5_owner 3 (some .int), Cond.fieldLink RX5 15 "SleepingCars$Runs" "owners" "[I", Cond.methodLink RX0 114 yX5_gap, Cond.instanceMethod yX5_gap, Cond.selects RX5 yX5_gap yX5_gap]
def wsX0_sellStretch_r3 : List Cond := [Cond.code yX5_gap cX5_gap 8 (some .int), Cond.methodLink RX5 39 yX5_isSold, Cond.instanceMethod yX5_isSold, Cond.selects RX5 yX5_isSold yX5_isSold, Cond.code yX5_isSold cX5_isSold 4 (some .boolean), Cond.methodLink RX5 35 yX5_legsOf, Cond.methodLink RX0 96 yX5_setLegs, Cond.instanceMethod yX5_setLegs, Cond.selects RX5 yX5_setLegs yX5_setLegs, Cond.code yX5_setLegs cX5_setLegs 4 none, Cond.methodLink RX0 100 yX7_add, Cond.instanceMethod yX7_add, Cond.selects RX7 yX7_add yX7_add, Cond.code yX7_add cX7_add 6 (some .int), Cond.fieldLink RX7 9 "SleepingCars$Tickets" "days" "[I", Cond.fieldLink RX7 15 "SleepingCars$Tickets" "berths" "[I", Cond.fieldLink RX7 18 "SleepingCars$Tickets" "froms" "[I", Cond.fieldLink RX7 21 "SleepingCars$Tickets" "tos" "[I", Cond.fieldLink RX7 24 "SleepingCars$Tickets" "offices" "[I", Cond.fieldLink RX7 27 "SleepingCars$Tickets" "given" "[I", Cond.methodLink RX7 34 yX7_isFull]
def wsX0_sellStretch : List Cond := .code yX0_sellStretch cX0_sellStretch 6 (some .int) :: ((wsX0_sellStretch_r1 ++ (wsX0_sellStretch_r2 ++ wsX0_sellStretch_r3)) ++ wsX00 ++ wsX70 ++ wsX40 ++ wsX50)
def wsX7_legsOf : List Cond := .code yX7_legsOf cX7_legsOf 2 (some .int) :: ([.fieldLink RX7 18 "SleepingCars$Tickets" "froms" "[I", .fieldLink RX7 21 "SleepingCars$Tickets" "tos" "[I", .static yX9_legsBetween, .initialized RX9, .code yX9_legsBetween cX9_legsBetween 2 (some .int)] ++ wsX70)
def wsX0_takeBack_r1 : List Cond := [Cond.fieldLink RX0 28 "SleepingCars$Book" "tickets" "LSleepingCars$Tickets;", Cond.fieldLink RX0 117 "SleepingCars$Tickets" "days" "[I", Cond.fieldLink RX0 120 "SleepingCars$Tickets" "given" "[I", Cond.fieldLink RX0 123 "SleepingCars$Tickets" "froms" "[I", Cond.fieldLink RX0 126 "SleepingCars$Tickets" "berths" "[I", Cond.fieldLink RX0 21 "SleepingCars$Book" "runs" "LSleepingCars$Runs;", Cond.methodLink RX0 83 yX0_hasLeft, Cond.instanceMethod yX0_hasLeft, Cond.selects RX0 yX0_hasLeft yX0_hasLeft, Cond.initialized RX0, Cond.code yX0_hasLeft cX0_hasLeft 3 (some .boolean), Cond.fieldLink RX0 67 "SleepingCars$Book" "now" "I", Cond.fieldLink RX0 12 "SleepingCars$Book" "route" "LSleepingCars$Route;", Cond.methodLink RX0 71 yX4_hoursTo, Cond.instanceMethod yX4_hoursTo, Cond.selects RX4 yX4_hoursTo yX4_hoursTo, Cond.initialized RX4, Cond.code yX4_hoursTo cX4_hoursTo 4 (some .int), Cond.fieldLink RX4 15 "SleepingCars$Route" "legHours" "[I", Cond.methodLink RX0 90 yX5_legsOf, Cond.instanceMethod yX5_legsOf, Cond.selects RX5 yX5_legsOf yX5_legsOf, Cond.initialized RX5, Cond.code yX5_legsOf cX5_legsOf 3 (some .int)]
def wsX0_takeBack_r2 : List Cond := [Cond.fieldLink RX5 18 "SleepingCars$Runs" "soldLegs" "[I", Cond.methodLink RX0 127 yX7_legsOf, Cond.instanceMethod yX7_legsOf, Cond.selects RX7 yX7_legsOf yX7_legsOf, Cond.initialized RX7, Cond.code yX7_legsOf cX7_legsOf 2 (some .int), Cond.fieldLink RX7 18 "SleepingCars$Tickets" "froms" "[I", Cond.fieldLink RX7 21 "SleepingCars$Tickets" "tos" "[I", Cond.static yX9_legsBetween, Cond.initialized RX9, Cond.code yX9_legsBetween cX9_legsBetween 2 (some .int), Cond.methodLink RX0 96 yX5_setLegs, Cond.instanceMethod yX5_setLegs, Cond.selects RX5 yX5_setLegs yX5_setLegs, Cond.code yX5_setLegs cX5_setLegs 4 none]
def wsX0_takeBack : List Cond := .code yX0_takeBack cX0_takeBack 4 (some .boolean) :: ((wsX0_takeBack_r1 ++ wsX0_takeBack_r2) ++ wsX00 ++ wsX70 ++ wsX40 ++ wsX50)
def wsX0_letterHours : List Cond := .code yX0_letterHours cX0_letterHours 4 (some .int) :: ([.fieldLink RX0 12 "SleepingCars$Book" "route" "LSleepingCars$Route;", .fieldLink RX0 46 "SleepingCars$Book" "officeStops" "[I", .methodLink RX0 129 Lib.Math.abs.name, .static Lib.Math.abs.name, .initialized "java/lang/Math", .code Lib.Math.abs.name Lib.Math.abs.code 1 (some .int), .methodLink RX0 71 yX4_hoursTo, .instanceMethod yX4_hoursTo, .selects RX4 yX4_hoursTo yX4_hoursTo, .initialized RX4, .code yX4_hoursTo cX4_hoursTo 4 (some .int), .fieldLink RX4 15 "SleepingCars$Route" "legHours" "[I"] ++ wsX00 ++ wsX40)
def wsX0_beginNextHour_r1 : List Cond := [Cond.fieldLink RX0 67 "SleepingCars$Book" "now" "I", Cond.fieldLink RX0 35 "SleepingCars$Book" "letters" "LSleepingCars$Letters;", Cond.fieldLink RX0 134 "SleepingCars$Letters" "size" "I", Cond.fieldLink RX0 137 "SleepingCars$Letters" "comes" "[I", Cond.fieldLink RX0 140 "SleepingCars$Letters" "sold" "[I", Cond.fieldLink RX0 143 "SleepingCars$Letters" "offices" "[I", Cond.fieldLink RX0 146 "SleepingCars$Letters" "days" "[I", Cond.fieldLink RX0 147 "SleepingCars$Letters" "froms" "[I", Cond.fieldLink RX0 148 "SleepingCars$Letters" "tos" "[I", Cond.methodLink RX0 151 yX0_sellStretch, Cond.instanceMethod yX0_sellStretch, Cond.selects RX0 yX0_sellStretch yX0_sellStretch, Cond.initialized RX0, Cond.code yX0_sellStretch cX0_sellStretch 6 (some .int), Cond.fieldLink RX0 28 "SleepingCars$Book" "tickets" "LSleepingCars$Tickets;", Cond.fieldLink RX0 21 "SleepingCars$Book" "runs" "LSleepingCars$Runs;", Cond.methodLink RX0 79 yX7_isFull, Cond.instanceMethod yX7_isFull, Cond.selects RX7 yX7_isFull yX7_isFull, Cond.initialized RX7, Cond.code yX7_isFull cX7_isFull 1 (some .boolean), Cond.fieldLink RX7 30 "SleepingCars$Tickets" "size" "I", Cond.methodLink RX0 83 yX0_hasLeft, Cond.instanceMethod yX0_hasLeft]
def wsX0_beginNextHour_r2 : List Cond := [Cond.selects RX0 yX0_hasLeft yX0_hasLeft, Cond.code yX0_hasLeft cX0_hasLeft 3 (some .boolean), Cond.fieldLink RX0 12 "SleepingCars$Book" "route" "LSleepingCars$Route;", Cond.methodLink RX0 71 yX4_hoursTo, Cond.instanceMethod yX4_hoursTo, Cond.selects RX4 yX4_hoursTo yX4_hoursTo, Cond.initialized RX4, Cond.code yX4_hoursTo cX4_hoursTo 4 (some .int), Cond.fieldLink RX4 15 "SleepingCars$Route" "legHours" "[I", Cond.methodLink RX0 86 yX0_tightestBerth, Cond.instanceMethod yX0_tightestBerth, Cond.selects RX0 yX0_tightestBerth yX0_tightestBerth, Cond.code yX0_tightestBerth cX0_tightestBerth 10 (some .int), Cond.fieldLink RX0 104 "SleepingCars$Runs" "berths" "[I", Cond.fieldLink RX0 111 "SleepingCars$Route" "stops" "I", Cond.methodLink RX0 90 yX5_legsOf, Cond.instanceMethod yX5_legsOf, Cond.selects RX5 yX5_legsOf yX5_legsOf, Cond.initialized RX5, Cond.code yX5_legsOf cX5_legsOf 3 (some .int), Cond.fieldLink RX5 18 "SleepingCars$Runs" "soldLegs" "[I", Cond.static yX9_legsBetween, Cond.initialized RX9, Cond.code yX9_legsBetween cX9_legsBetween 2 (some .int)]
def wsX0_beginNextHour_r3 : List Cond := [Cond.methodLink RX0 107 yX0_isOnChart, Cond.instanceMethod yX0_isOnChart, Cond.selects RX0 yX0_isOnChart yX0_isOnChart, Cond.code yX0_isOnChart cX0_isOnChart 4 (some .boolean), Cond.methodLink RX0 75 yX5_owner, Cond.instanceMethod yX5_owner, Cond.selects RX5 yX5_owner yX5_owner, Cond.code yX5_owner cX5_owner 3 (some .int), Cond.fieldLink RX5 15 "SleepingCars$Runs" "owners" "[I", Cond.methodLink RX0 114 yX5_gap, Cond.instanceMethod yX5_gap, Cond.selects RX5 yX5_gap yX5_gap, Cond.code yX5_gap cX5_gap 8 (some .int), Cond.methodLink RX5 39 yX5_isSold, Cond.instanceMethod yX5_isSold, Cond.selects RX5 yX5_isSold yX5_isSold, Cond.code yX5_isSold cX5_isSold 4 (some .boolean), Cond.methodLink RX5 35 yX5_legsOf, Cond.methodLink RX0 96 yX5_setLegs, Cond.instanceMethod yX5_setLegs, Cond.selects RX5 yX5_setLegs yX5_setLegs, Cond.code yX5_setLegs cX5_setLegs 4 none, Cond.methodLink RX0 100 yX7_add, Cond.instanceMethod yX7_add]
def wsX0_beginNextHour_r4 : List Cond := [Cond.selects RX7 yX7_add yX7_add, Cond.code yX7_add cX7_add 6 (some .int), Cond.fieldLink RX7 9 "SleepingCars$Tickets" "days" "[I", Cond.fieldLink RX7 15 "SleepingCars$Tickets" "berths" "[I", Cond.fieldLink RX7 18 "SleepingCars$Tickets" "froms" "[I", Cond.fieldLink RX7 21 "SleepingCars$Tickets" "tos" "[I", Cond.fieldLink RX7 24 "SleepingCars$Tickets" "offices" "[I", Cond.fieldLink RX7 27 "SleepingCars$Tickets" "given" "[I", Cond.methodLink RX7 34 yX7_isFull]
def wsX0_beginNextHour : List Cond := .code yX0_beginNextHour cX0_beginNextHour 2 none :: ((wsX0_beginNextHour_r1 ++ (wsX0_beginNextHour_r2 ++ (wsX0_beginNextHour_r3 ++ wsX0_beginNextHour_r4))) ++ wsX00 ++ wsX10 ++ wsX70 ++ wsX40 ++ wsX50)
def wsX7_isLive : List Cond := .code yX7_isLive cX7_isLive 3 (some .boolean) :: ([.fieldLink RX7 27 "SleepingCars$Tickets" "given" "[I", .fieldLink RX7 9 "SleepingCars$Tickets" "days" "[I"] ++ wsX70)
def wsX0_layTicket_r1 : List Cond := [Cond.fieldLink RX0 28 "SleepingCars$Book" "tickets" "LSleepingCars$Tickets;", Cond.fieldLink RX0 126 "SleepingCars$Tickets" "berths" "[I", Cond.fieldLink RX0 21 "SleepingCars$Book" "runs" "LSleepingCars$Runs;", Cond.fieldLink RX0 104 "SleepingCars$Runs" "berths" "[I", Cond.fieldLink RX0 53 "SleepingCars$Book" "newLegs" "[I", Cond.methodLink RX0 75 yX5_owner, Cond.instanceMethod yX5_owner, Cond.selects RX5 yX5_owner yX5_owner, Cond.initialized RX5, Cond.code yX5_owner cX5_owner 3 (some .int), Cond.fieldLink RX5 15 "SleepingCars$Runs" "owners" "[I", Cond.methodLink RX0 127 yX7_legsOf, Cond.instanceMethod yX7_legsOf, Cond.selects RX7 yX7_legsOf yX7_legsOf, Cond.initialized RX7, Cond.code yX7_legsOf cX7_legsOf 2 (some .int), Cond.fieldLink RX7 18 "SleepingCars$Tickets" "froms" "[I", Cond.fieldLink RX7 21 "SleepingCars$Tickets" "tos" "[I", Cond.static yX9_legsBetween, Cond.initialized RX9, Cond.code yX9_legsBetween cX9_legsBetween 2 (some .int), Cond.methodLink RX0 107 yX0_isOnChart, Cond.instanceMethod yX0_isOnChart, Cond.selects RX0 yX0_isOnChart yX0_isOnChart]
def wsX0_layTicket_r2 : List Cond := [Cond.initialized RX0, Cond.code yX0_isOnChart cX0_isOnChart 4 (some .boolean), Cond.fieldLink RX0 67 "SleepingCars$Book" "now" "I"]
def wsX0_layTicket : List Cond := .code yX0_layTicket cX0_layTicket 7 (some .boolean) :: ((wsX0_layTicket_r1 ++ wsX0_layTicket_r2) ++ wsX00 ++ wsX70 ++ wsX50)
def wsX0_layAnew_r1 : List Cond := [Cond.fieldLink RX0 53 "SleepingCars$Book" "newLegs" "[I", Cond.fieldLink RX0 12 "SleepingCars$Book" "route" "LSleepingCars$Route;", Cond.fieldLink RX0 111 "SleepingCars$Route" "stops" "I", Cond.fieldLink RX0 28 "SleepingCars$Book" "tickets" "LSleepingCars$Tickets;", Cond.fieldLink RX0 160 "SleepingCars$Tickets" "size" "I", Cond.fieldLink RX0 123 "SleepingCars$Tickets" "froms" "[I", Cond.fieldLink RX0 21 "SleepingCars$Book" "runs" "LSleepingCars$Runs;", Cond.fieldLink RX0 104 "SleepingCars$Runs" "berths" "[I", Cond.methodLink RX0 154 yJ7_fill_53178, Cond.static yJ7_fill_53178, Cond.initialized RJ7, Cond.code yJ7_fill_53178 cJ7_fill_53178 4 none, Cond.methodLink RX0 161 yX7_isLive, Cond.instanceMethod yX7_isLive, Cond.selects RX7 yX7_isLive yX7_isLive, Cond.initialized RX7, Cond.code yX7_isLive cX7_isLive 3 (some .boolean), Cond.fieldLink RX7 27 "SleepingCars$Tickets" "given" "[I", Cond.fieldLink RX7 9 "SleepingCars$Tickets" "days" "[I", Cond.methodLink RX0 164 yX0_layTicket, Cond.instanceMethod yX0_layTicket, Cond.selects RX0 yX0_layTicket yX0_layTicket, Cond.initialized RX0, Cond.code yX0_layTicket cX0_layTicket 7 (some .boolean)]
def wsX0_layAnew_r2 : List Cond := [Cond.fieldLink RX0 126 "SleepingCars$Tickets" "berths" "[I", Cond.methodLink RX0 75 yX5_owner, Cond.instanceMethod yX5_owner, Cond.selects RX5 yX5_owner yX5_owner, Cond.initialized RX5, Cond.code yX5_owner cX5_owner 3 (some .int), Cond.fieldLink RX5 15 "SleepingCars$Runs" "owners" "[I", Cond.methodLink RX0 127 yX7_legsOf, Cond.instanceMethod yX7_legsOf, Cond.selects RX7 yX7_legsOf yX7_legsOf, Cond.code yX7_legsOf cX7_legsOf 2 (some .int), Cond.fieldLink RX7 18 "SleepingCars$Tickets" "froms" "[I", Cond.fieldLink RX7 21 "SleepingCars$Tickets" "tos" "[I", Cond.static yX9_legsBetween, Cond.initialized RX9, Cond.code yX9_legsBetween cX9_legsBetween 2 (some .int), Cond.methodLink RX0 107 yX0_isOnChart, Cond.instanceMethod yX0_isOnChart, Cond.selects RX0 yX0_isOnChart yX0_isOnChart, Cond.code yX0_isOnChart cX0_isOnChart 4 (some .boolean), Cond.fieldLink RX0 67 "SleepingCars$Book" "now" "I", Cond.methodLink RX0 96 yX5_setLegs, Cond.instanceMethod yX5_setLegs, Cond.selects RX5 yX5_setLegs yX5_setLegs]
def wsX0_layAnew_r3 : List Cond := [Cond.code yX5_setLegs cX5_setLegs 4 none, Cond.fieldLink RX5 18 "SleepingCars$Runs" "soldLegs" "[I"]
def wsX0_layAnew : List Cond := .code yX0_layAnew cX0_layAnew 5 (some .int) :: ((wsX0_layAnew_r1 ++ (wsX0_layAnew_r2 ++ wsX0_layAnew_r3)) ++ wsX00 ++ wsX40 ++ wsX70 ++ wsX50)
def wsX0_hasRoomOn : List Cond := .code yX0_hasRoomOn cX0_hasRoomOn 5 (some .boolean) :: ([.fieldLink RX0 21 "SleepingCars$Book" "runs" "LSleepingCars$Runs;", .fieldLink RX0 104 "SleepingCars$Runs" "berths" "[I", .methodLink RX0 107 yX0_isOnChart, .instanceMethod yX0_isOnChart, .selects RX0 yX0_isOnChart yX0_isOnChart, .initialized RX0, .code yX0_isOnChart cX0_isOnChart 4 (some .boolean), .fieldLink RX0 67 "SleepingCars$Book" "now" "I", .methodLink RX0 75 yX5_owner, .instanceMethod yX5_owner, .selects RX5 yX5_owner yX5_owner, .initialized RX5, .code yX5_owner cX5_owner 3 (some .int), .fieldLink RX5 15 "SleepingCars$Runs" "owners" "[I", .methodLink RX0 170 yX5_isSold, .instanceMethod yX5_isSold, .selects RX5 yX5_isSold yX5_isSold, .code yX5_isSold cX5_isSold 4 (some .boolean), .methodLink RX5 35 yX5_legsOf, .instanceMethod yX5_legsOf, .selects RX5 yX5_legsOf yX5_legsOf, .code yX5_legsOf cX5_legsOf 3 (some .int), .fieldLink RX5 18 "SleepingCars$Runs" "soldLegs" "[I"] ++ wsX00 ++ wsX50)
def wsX0_hasRoom_r1 : List Cond := [Cond.methodLink RX0 167 yX0_hasRoomOn, Cond.instanceMethod yX0_hasRoomOn, Cond.selects RX0 yX0_hasRoomOn yX0_hasRoomOn, Cond.initialized RX0, Cond.code yX0_hasRoomOn cX0_hasRoomOn 5 (some .boolean), Cond.fieldLink RX0 21 "SleepingCars$Book" "runs" "LSleepingCars$Runs;", Cond.fieldLink RX0 104 "SleepingCars$Runs" "berths" "[I", Cond.methodLink RX0 107 yX0_isOnChart, Cond.instanceMethod yX0_isOnChart, Cond.selects RX0 yX0_isOnChart yX0_isOnChart, Cond.code yX0_isOnChart cX0_isOnChart 4 (some .boolean), Cond.fieldLink RX0 67 "SleepingCars$Book" "now" "I", Cond.methodLink RX0 75 yX5_owner, Cond.instanceMethod yX5_owner, Cond.selects RX5 yX5_owner yX5_owner, Cond.initialized RX5, Cond.code yX5_owner cX5_owner 3 (some .int), Cond.fieldLink RX5 15 "SleepingCars$Runs" "owners" "[I", Cond.methodLink RX0 170 yX5_isSold, Cond.instanceMethod yX5_isSold, Cond.selects RX5 yX5_isSold yX5_isSold, Cond.code yX5_isSold cX5_isSold 4 (some .boolean), Cond.methodLink RX5 35 yX5_legsOf, Cond.instanceMethod yX5_legsOf]
def wsX0_hasRoom_r2 : List Cond := [Cond.selects RX5 yX5_legsOf yX5_legsOf, Cond.code yX5_legsOf cX5_legsOf 3 (some .int), Cond.fieldLink RX5 18 "SleepingCars$Runs" "soldLegs" "[I"]
def wsX0_hasRoom : List Cond := .code yX0_hasRoom cX0_hasRoom 6 (some .boolean) :: ((wsX0_hasRoom_r1 ++ wsX0_hasRoom_r2) ++ wsX00 ++ wsX50)
def wsX5_soldOn : List Cond := .code yX5_soldOn cX5_soldOn 5 (some .int) :: ([.fieldLink RX5 9 "SleepingCars$Runs" "berths" "[I", .methodLink RX5 39 yX5_isSold, .instanceMethod yX5_isSold, .selects RX5 yX5_isSold yX5_isSold, .initialized RX5, .code yX5_isSold cX5_isSold 4 (some .boolean), .methodLink RX5 35 yX5_legsOf, .instanceMethod yX5_legsOf, .selects RX5 yX5_legsOf yX5_legsOf, .code yX5_legsOf cX5_legsOf 3 (some .int), .fieldLink RX5 18 "SleepingCars$Runs" "soldLegs" "[I"] ++ wsX50)
def wsX0_mostSold : List Cond := .code yX0_mostSold cX0_mostSold 4 (some .int) :: ([.fieldLink RX0 12 "SleepingCars$Book" "route" "LSleepingCars$Route;", .fieldLink RX0 111 "SleepingCars$Route" "stops" "I", .fieldLink RX0 21 "SleepingCars$Book" "runs" "LSleepingCars$Runs;", .methodLink RX0 176 Lib.Math.max.name, .static Lib.Math.max.name, .initialized "java/lang/Math", .code Lib.Math.max.name Lib.Math.max.code 2 (some .int), .methodLink RX0 173 yX5_soldOn, .instanceMethod yX5_soldOn, .selects RX5 yX5_soldOn yX5_soldOn, .initialized RX5, .code yX5_soldOn cX5_soldOn 5 (some .int), .fieldLink RX5 9 "SleepingCars$Runs" "berths" "[I", .methodLink RX5 39 yX5_isSold, .instanceMethod yX5_isSold, .selects RX5 yX5_isSold yX5_isSold, .code yX5_isSold cX5_isSold 4 (some .boolean), .methodLink RX5 35 yX5_legsOf, .instanceMethod yX5_legsOf, .selects RX5 yX5_legsOf yX5_legsOf, .code yX5_legsOf cX5_legsOf 3 (some .int), .fieldLink RX5 18 "SleepingCars$Runs" "soldLegs" "[I"] ++ wsX00 ++ wsX40 ++ wsX50)
def wsX0_legsSold : List Cond := .code yX0_legsSold cX0_legsSold 4 (some .int) :: ([.fieldLink RX0 12 "SleepingCars$Book" "route" "LSleepingCars$Route;", .fieldLink RX0 111 "SleepingCars$Route" "stops" "I", .fieldLink RX0 21 "SleepingCars$Book" "runs" "LSleepingCars$Runs;", .methodLink RX0 173 yX5_soldOn, .instanceMethod yX5_soldOn, .selects RX5 yX5_soldOn yX5_soldOn, .initialized RX5, .code yX5_soldOn cX5_soldOn 5 (some .int), .fieldLink RX5 9 "SleepingCars$Runs" "berths" "[I", .methodLink RX5 39 yX5_isSold, .instanceMethod yX5_isSold, .selects RX5 yX5_isSold yX5_isSold, .code yX5_isSold cX5_isSold 4 (some .boolean), .methodLink RX5 35 yX5_legsOf, .instanceMethod yX5_legsOf, .selects RX5 yX5_legsOf yX5_legsOf, .code yX5_legsOf cX5_legsOf 3 (some .int), .fieldLink RX5 18 "SleepingCars$Runs" "soldLegs" "[I"] ++ wsX00 ++ wsX40 ++ wsX50)
def wsX2_compares : List Cond := .code yX2_compares cX2_compares 3 (some .boolean) :: ([])
def wsX2_holds : List Cond := .code yX2_holds cX2_holds 4 (some .boolean) :: ([.fieldLink RX2 21 "SleepingCars$Rates" "subjects" "[I", .fieldLink RX2 24 "SleepingCars$Rates" "signs" "[I", .fieldLink RX2 27 "SleepingCars$Rates" "bounds" "[I", .fieldLink RX2 30 "SleepingCars$Rates" "negated" "[I", .methodLink RX2 54 yX2_compares, .static yX2_compares, .initialized RX2, .code yX2_compares cX2_compares 3 (some .boolean)] ++ wsX20)
def wsX2_allHold : List Cond := .code yX2_allHold cX2_allHold 4 (some .boolean) :: ([.fieldLink RX2 18 "SleepingCars$Rates" "tests" "[I", .methodLink RX2 51 yX2_holds, .instanceMethod yX2_holds, .selects RX2 yX2_holds yX2_holds, .initialized RX2, .code yX2_holds cX2_holds 4 (some .boolean), .fieldLink RX2 21 "SleepingCars$Rates" "subjects" "[I", .fieldLink RX2 24 "SleepingCars$Rates" "signs" "[I", .fieldLink RX2 27 "SleepingCars$Rates" "bounds" "[I", .fieldLink RX2 30 "SleepingCars$Rates" "negated" "[I", .methodLink RX2 54 yX2_compares, .static yX2_compares, .code yX2_compares cX2_compares 3 (some .boolean)] ++ wsX20)
def wsX2_timesCharged : List Cond := .code yX2_timesCharged cX2_timesCharged 2 (some .long) :: ([.constantLong RX2 58 (4), .constantLong RX2 60 (-1)])
def wsX2_priceOf_r1 : List Cond := [Cond.fieldLink RX2 33 "SleepingCars$Rates" "lines" "I", Cond.fieldLink RX2 15 "SleepingCars$Rates" "amounts" "[I", Cond.fieldLink RX2 9 "SleepingCars$Rates" "charges" "[I", Cond.methodLink RX2 43 yX2_allHold, Cond.instanceMethod yX2_allHold, Cond.selects RX2 yX2_allHold yX2_allHold, Cond.initialized RX2, Cond.code yX2_allHold cX2_allHold 4 (some .boolean), Cond.fieldLink RX2 18 "SleepingCars$Rates" "tests" "[I", Cond.methodLink RX2 51 yX2_holds, Cond.instanceMethod yX2_holds, Cond.selects RX2 yX2_holds yX2_holds, Cond.code yX2_holds cX2_holds 4 (some .boolean), Cond.fieldLink RX2 21 "SleepingCars$Rates" "subjects" "[I", Cond.fieldLink RX2 24 "SleepingCars$Rates" "signs" "[I", Cond.fieldLink RX2 27 "SleepingCars$Rates" "bounds" "[I", Cond.fieldLink RX2 30 "SleepingCars$Rates" "negated" "[I", Cond.methodLink RX2 54 yX2_compares, Cond.static yX2_compares, Cond.code yX2_compares cX2_compares 3 (some .boolean), Cond.methodLink RX2 47 yX2_timesCharged, Cond.static yX2_timesCharged, Cond.code yX2_timesCharged cX2_timesCharged 2 (some .long), Cond.constantLong RX2 58 (4)]
def wsX2_priceOf_r2 : List Cond := [Cond.constantLong RX2 60 (-1)]
def wsX2_priceOf : List Cond := .code yX2_priceOf cX2_priceOf 5 (some .long) :: ((wsX2_priceOf_r1 ++ wsX2_priceOf_r2) ++ wsX20)
def wsX0_priceOfLeg_r1 : List Cond := [Cond.fieldLink RX0 12 "SleepingCars$Book" "route" "LSleepingCars$Route;", Cond.fieldLink RX0 56 "SleepingCars$Book" "facts" "[I", Cond.fieldLink RX0 183 "SleepingCars$Route" "legKm" "[I", Cond.fieldLink RX0 21 "SleepingCars$Book" "runs" "LSleepingCars$Runs;", Cond.fieldLink RX0 42 "SleepingCars$Book" "rates" "LSleepingCars$Rates;", Cond.methodLink RX0 71 yX4_hoursTo, Cond.instanceMethod yX4_hoursTo, Cond.selects RX4 yX4_hoursTo yX4_hoursTo, Cond.initialized RX4, Cond.code yX4_hoursTo cX4_hoursTo 4 (some .int), Cond.fieldLink RX4 15 "SleepingCars$Route" "legHours" "[I", Cond.methodLink RX0 173 yX5_soldOn, Cond.instanceMethod yX5_soldOn, Cond.selects RX5 yX5_soldOn yX5_soldOn, Cond.initialized RX5, Cond.code yX5_soldOn cX5_soldOn 5 (some .int), Cond.fieldLink RX5 9 "SleepingCars$Runs" "berths" "[I", Cond.methodLink RX5 39 yX5_isSold, Cond.instanceMethod yX5_isSold, Cond.selects RX5 yX5_isSold yX5_isSold, Cond.code yX5_isSold cX5_isSold 4 (some .boolean), Cond.methodLink RX5 35 yX5_legsOf, Cond.instanceMethod yX5_legsOf, Cond.selects RX5 yX5_legsOf yX5_legsOf]
def wsX0_priceOfLeg_r2 : List Cond := [Cond.code yX5_legsOf cX5_legsOf 3 (some .int), Cond.fieldLink RX5 18 "SleepingCars$Runs" "soldLegs" "[I", Cond.methodLink RX0 186 yX2_priceOf, Cond.instanceMethod yX2_priceOf, Cond.selects RX2 yX2_priceOf yX2_priceOf, Cond.initialized RX2, Cond.code yX2_priceOf cX2_priceOf 5 (some .long), Cond.fieldLink RX2 33 "SleepingCars$Rates" "lines" "I", Cond.fieldLink RX2 15 "SleepingCars$Rates" "amounts" "[I", Cond.fieldLink RX2 9 "SleepingCars$Rates" "charges" "[I", Cond.methodLink RX2 43 yX2_allHold, Cond.instanceMethod yX2_allHold, Cond.selects RX2 yX2_allHold yX2_allHold, Cond.code yX2_allHold cX2_allHold 4 (some .boolean), Cond.fieldLink RX2 18 "SleepingCars$Rates" "tests" "[I", Cond.methodLink RX2 51 yX2_holds, Cond.instanceMethod yX2_holds, Cond.selects RX2 yX2_holds yX2_holds, Cond.code yX2_holds cX2_holds 4 (some .boolean), Cond.fieldLink RX2 21 "SleepingCars$Rates" "subjects" "[I", Cond.fieldLink RX2 24 "SleepingCars$Rates" "signs" "[I", Cond.fieldLink RX2 27 "SleepingCars$Rates" "bounds" "[I", Cond.fieldLink RX2 30 "SleepingCars$Rates" "negated" "[I", Cond.methodLink RX2 54 yX2_compares]
def wsX0_priceOfLeg_r3 : List Cond := [Cond.static yX2_compares, Cond.code yX2_compares cX2_compares 3 (some .boolean), Cond.methodLink RX2 47 yX2_timesCharged, Cond.static yX2_timesCharged, Cond.code yX2_timesCharged cX2_timesCharged 2 (some .long), Cond.constantLong RX2 58 (4), Cond.constantLong RX2 60 (-1)]
def wsX0_priceOfLeg : List Cond := .code yX0_priceOfLeg cX0_priceOfLeg 4 (some .long) :: ((wsX0_priceOfLeg_r1 ++ (wsX0_priceOfLeg_r2 ++ wsX0_priceOfLeg_r3)) ++ wsX00 ++ wsX40 ++ wsX50 ++ wsX20)
def wsX0_priceOfRun_r1 : List Cond := [Cond.fieldLink RX0 12 "SleepingCars$Book" "route" "LSleepingCars$Route;", Cond.fieldLink RX0 111 "SleepingCars$Route" "stops" "I", Cond.methodLink RX0 179 yX0_priceOfLeg, Cond.instanceMethod yX0_priceOfLeg, Cond.selects RX0 yX0_priceOfLeg yX0_priceOfLeg, Cond.initialized RX0, Cond.code yX0_priceOfLeg cX0_priceOfLeg 4 (some .long), Cond.fieldLink RX0 56 "SleepingCars$Book" "facts" "[I", Cond.fieldLink RX0 183 "SleepingCars$Route" "legKm" "[I", Cond.fieldLink RX0 21 "SleepingCars$Book" "runs" "LSleepingCars$Runs;", Cond.fieldLink RX0 42 "SleepingCars$Book" "rates" "LSleepingCars$Rates;", Cond.methodLink RX0 71 yX4_hoursTo, Cond.instanceMethod yX4_hoursTo, Cond.selects RX4 yX4_hoursTo yX4_hoursTo, Cond.initialized RX4, Cond.code yX4_hoursTo cX4_hoursTo 4 (some .int), Cond.fieldLink RX4 15 "SleepingCars$Route" "legHours" "[I", Cond.methodLink RX0 173 yX5_soldOn, Cond.instanceMethod yX5_soldOn, Cond.selects RX5 yX5_soldOn yX5_soldOn, Cond.initialized RX5, Cond.code yX5_soldOn cX5_soldOn 5 (some .int), Cond.fieldLink RX5 9 "SleepingCars$Runs" "berths" "[I", Cond.methodLink RX5 39 yX5_isSold]
def wsX0_priceOfRun_r2 : List Cond := [Cond.instanceMethod yX5_isSold, Cond.selects RX5 yX5_isSold yX5_isSold, Cond.code yX5_isSold cX5_isSold 4 (some .boolean), Cond.methodLink RX5 35 yX5_legsOf, Cond.instanceMethod yX5_legsOf, Cond.selects RX5 yX5_legsOf yX5_legsOf, Cond.code yX5_legsOf cX5_legsOf 3 (some .int), Cond.fieldLink RX5 18 "SleepingCars$Runs" "soldLegs" "[I", Cond.methodLink RX0 186 yX2_priceOf, Cond.instanceMethod yX2_priceOf, Cond.selects RX2 yX2_priceOf yX2_priceOf, Cond.initialized RX2, Cond.code yX2_priceOf cX2_priceOf 5 (some .long), Cond.fieldLink RX2 33 "SleepingCars$Rates" "lines" "I", Cond.fieldLink RX2 15 "SleepingCars$Rates" "amounts" "[I", Cond.fieldLink RX2 9 "SleepingCars$Rates" "charges" "[I", Cond.methodLink RX2 43 yX2_allHold, Cond.instanceMethod yX2_allHold, Cond.selects RX2 yX2_allHold yX2_allHold, Cond.code yX2_allHold cX2_allHold 4 (some .boolean), Cond.fieldLink RX2 18 "SleepingCars$Rates" "tests" "[I", Cond.methodLink RX2 51 yX2_holds, Cond.instanceMethod yX2_holds, Cond.selects RX2 yX2_holds yX2_holds]
def wsX0_priceOfRun_r3 : List Cond := [Cond.code yX2_holds cX2_holds 4 (some .boolean), Cond.fieldLink RX2 21 "SleepingCars$Rates" "subjects" "[I", Cond.fieldLink RX2 24 "SleepingCars$Rates" "signs" "[I", Cond.fieldLink RX2 27 "SleepingCars$Rates" "bounds" "[I", Cond.fieldLink RX2 30 "SleepingCars$Rates" "negated" "[I", Cond.methodLink RX2 54 yX2_compares, Cond.static yX2_compares, Cond.code yX2_compares cX2_compares 3 (some .boolean), Cond.methodLink RX2 47 yX2_timesCharged, Cond.static yX2_timesCharged, Cond.code yX2_timesCharged cX2_timesCharged 2 (some .long), Cond.constantLong RX2 58 (4), Cond.constantLong RX2 60 (-1)]
def wsX0_priceOfRun : List Cond := .code yX0_priceOfRun cX0_priceOfRun 5 (some .long) :: ((wsX0_priceOfRun_r1 ++ (wsX0_priceOfRun_r2 ++ wsX0_priceOfRun_r3)) ++ wsX00 ++ wsX40 ++ wsX50 ++ wsX20)
def wsX4_copyFrom : List Cond := .code yX4_copyFrom cX4_copyFrom 2 none :: ([.fieldLink RX4 22 "SleepingCars$Route" "stops" "I", .fieldLink RX4 9 "SleepingCars$Route" "legKm" "[I", .methodLink RX4 36 arraycopyName, .native arraycopyName, .static arraycopyName, .initialized "java/lang/System", .fieldLink RX4 15 "SleepingCars$Route" "legHours" "[I"] ++ wsX40)
def wsX5_copyFrom : List Cond := .code yX5_copyFrom cX5_copyFrom 2 none :: ([.fieldLink RX5 25 "SleepingCars$Runs" "size" "I", .fieldLink RX5 9 "SleepingCars$Runs" "berths" "[I", .methodLink RX5 29 arraycopyName, .native arraycopyName, .static arraycopyName, .initialized "java/lang/System", .fieldLink RX5 15 "SleepingCars$Runs" "owners" "[I", .fieldLink RX5 18 "SleepingCars$Runs" "soldLegs" "[I"] ++ wsX50)
def wsX7_copyFrom : List Cond := .code yX7_copyFrom cX7_copyFrom 2 none :: ([.fieldLink RX7 30 "SleepingCars$Tickets" "size" "I", .fieldLink RX7 9 "SleepingCars$Tickets" "days" "[I", .methodLink RX7 46 arraycopyName, .native arraycopyName, .static arraycopyName, .initialized "java/lang/System", .fieldLink RX7 15 "SleepingCars$Tickets" "berths" "[I", .fieldLink RX7 18 "SleepingCars$Tickets" "froms" "[I", .fieldLink RX7 21 "SleepingCars$Tickets" "tos" "[I", .fieldLink RX7 24 "SleepingCars$Tickets" "offices" "[I", .fieldLink RX7 27 "SleepingCars$Tickets" "given" "[I"] ++ wsX70)
def wsX1_copyFrom : List Cond := .code yX1_copyFrom cX1_copyFrom 2 none :: ([.fieldLink RX1 33 "SleepingCars$Letters" "size" "I", .fieldLink RX1 9 "SleepingCars$Letters" "offices" "[I", .methodLink RX1 37 arraycopyName, .native arraycopyName, .static arraycopyName, .initialized "java/lang/System", .fieldLink RX1 15 "SleepingCars$Letters" "days" "[I", .fieldLink RX1 18 "SleepingCars$Letters" "froms" "[I", .fieldLink RX1 21 "SleepingCars$Letters" "tos" "[I", .fieldLink RX1 24 "SleepingCars$Letters" "comes" "[I", .fieldLink RX1 27 "SleepingCars$Letters" "answered" "[I", .fieldLink RX1 30 "SleepingCars$Letters" "sold" "[I"] ++ wsX10)
def wsX2_copyFrom : List Cond := .code yX2_copyFrom cX2_copyFrom 2 none :: ([.fieldLink RX2 33 "SleepingCars$Rates" "lines" "I", .fieldLink RX2 9 "SleepingCars$Rates" "charges" "[I", .methodLink RX2 62 arraycopyName, .native arraycopyName, .static arraycopyName, .initialized "java/lang/System", .fieldLink RX2 15 "SleepingCars$Rates" "amounts" "[I", .fieldLink RX2 18 "SleepingCars$Rates" "tests" "[I", .fieldLink RX2 21 "SleepingCars$Rates" "subjects" "[I", .fieldLink RX2 24 "SleepingCars$Rates" "signs" "[I", .fieldLink RX2 27 "SleepingCars$Rates" "bounds" "[I", .fieldLink RX2 30 "SleepingCars$Rates" "negated" "[I"] ++ wsX20)
def wsX0_copyFrom_r1 : List Cond := [Cond.fieldLink RX0 67 "SleepingCars$Book" "now" "I", Cond.fieldLink RX0 12 "SleepingCars$Book" "route" "LSleepingCars$Route;", Cond.fieldLink RX0 21 "SleepingCars$Book" "runs" "LSleepingCars$Runs;", Cond.fieldLink RX0 28 "SleepingCars$Book" "tickets" "LSleepingCars$Tickets;", Cond.fieldLink RX0 35 "SleepingCars$Book" "letters" "LSleepingCars$Letters;", Cond.fieldLink RX0 42 "SleepingCars$Book" "rates" "LSleepingCars$Rates;", Cond.fieldLink RX0 46 "SleepingCars$Book" "officeStops" "[I", Cond.methodLink RX0 206 arraycopyName, Cond.native arraycopyName, Cond.static arraycopyName, Cond.initialized "java/lang/System", Cond.fieldLink RX0 50 "SleepingCars$Book" "shares" "[I", Cond.methodLink RX0 190 yX4_copyFrom, Cond.instanceMethod yX4_copyFrom, Cond.selects RX4 yX4_copyFrom yX4_copyFrom, Cond.initialized RX4, Cond.code yX4_copyFrom cX4_copyFrom 2 none, Cond.fieldLink RX4 22 "SleepingCars$Route" "stops" "I", Cond.fieldLink RX4 9 "SleepingCars$Route" "legKm" "[I", Cond.methodLink RX4 36 arraycopyName, Cond.fieldLink RX4 15 "SleepingCars$Route" "legHours" "[I", Cond.methodLink RX0 194 yX5_copyFrom, Cond.instanceMethod yX5_copyFrom, Cond.selects RX5 yX5_copyFrom yX5_copyFrom]
def wsX0_copyFrom_r2 : List Cond := [Cond.initialized RX5, Cond.code yX5_copyFrom cX5_copyFrom 2 none, Cond.fieldLink RX5 25 "SleepingCars$Runs" "size" "I", Cond.fieldLink RX5 9 "SleepingCars$Runs" "berths" "[I", Cond.methodLink RX5 29 arraycopyName, Cond.fieldLink RX5 15 "SleepingCars$Runs" "owners" "[I", Cond.fieldLink RX5 18 "SleepingCars$Runs" "soldLegs" "[I", Cond.methodLink RX0 197 yX7_copyFrom, Cond.instanceMethod yX7_copyFrom, Cond.selects RX7 yX7_copyFrom yX7_copyFrom, Cond.initialized RX7, Cond.code yX7_copyFrom cX7_copyFrom 2 none, Cond.fieldLink RX7 30 "SleepingCars$Tickets" "size" "I", Cond.fieldLink RX7 9 "SleepingCars$Tickets" "days" "[I", Cond.methodLink RX7 46 arraycopyName, Cond.fieldLink RX7 15 "SleepingCars$Tickets" "berths" "[I", Cond.fieldLink RX7 18 "SleepingCars$Tickets" "froms" "[I", Cond.fieldLink RX7 21 "SleepingCars$Tickets" "tos" "[I", Cond.fieldLink RX7 24 "SleepingCars$Tickets" "offices" "[I", Cond.fieldLink RX7 27 "SleepingCars$Tickets" "given" "[I", Cond.methodLink RX0 200 yX1_copyFrom, Cond.instanceMethod yX1_copyFrom, Cond.selects RX1 yX1_copyFrom yX1_copyFrom, Cond.initialized RX1]
def wsX0_copyFrom_r3 : List Cond := [Cond.code yX1_copyFrom cX1_copyFrom 2 none, Cond.fieldLink RX1 33 "SleepingCars$Letters" "size" "I", Cond.fieldLink RX1 9 "SleepingCars$Letters" "offices" "[I", Cond.methodLink RX1 37 arraycopyName, Cond.fieldLink RX1 15 "SleepingCars$Letters" "days" "[I", Cond.fieldLink RX1 18 "SleepingCars$Letters" "froms" "[I", Cond.fieldLink RX1 21 "SleepingCars$Letters" "tos" "[I", Cond.fieldLink RX1 24 "SleepingCars$Letters" "comes" "[I", Cond.fieldLink RX1 27 "SleepingCars$Letters" "answered" "[I", Cond.fieldLink RX1 30 "SleepingCars$Letters" "sold" "[I", Cond.methodLink RX0 203 yX2_copyFrom, Cond.instanceMethod yX2_copyFrom, Cond.selects RX2 yX2_copyFrom yX2_copyFrom, Cond.initialized RX2, Cond.code yX2_copyFrom cX2_copyFrom 2 none, Cond.fieldLink RX2 33 "SleepingCars$Rates" "lines" "I", Cond.fieldLink RX2 9 "SleepingCars$Rates" "charges" "[I", Cond.methodLink RX2 62 arraycopyName, Cond.fieldLink RX2 15 "SleepingCars$Rates" "amounts" "[I", Cond.fieldLink RX2 18 "SleepingCars$Rates" "tests" "[I", Cond.fieldLink RX2 21 "SleepingCars$Rates" "subjects" "[I", Cond.fieldLink RX2 24 "SleepingCars$Rates" "signs" "[I", Cond.fieldLink RX2 27 "SleepingCars$Rates" "bounds" "[I", Cond.fieldLink RX2 30 "SleepingCars$Rates" "negated" "[I"]
def wsX0_copyFrom : List Cond := .code yX0_copyFrom cX0_copyFrom 2 none :: ((wsX0_copyFrom_r1 ++ (wsX0_copyFrom_r2 ++ wsX0_copyFrom_r3)) ++ wsX00 ++ wsX40 ++ wsX50 ++ wsX70 ++ wsX10 ++ wsX20)
def wsX1_has : List Cond := .code yX1_has cX1_has 2 (some .boolean) :: ([.fieldLink RX1 33 "SleepingCars$Letters" "size" "I"] ++ wsX10)
def wsX1_add : List Cond := .code yX1_add cX1_add 7 (some .int) :: ([.fieldLink RX1 33 "SleepingCars$Letters" "size" "I", .fieldLink RX1 9 "SleepingCars$Letters" "offices" "[I", .fieldLink RX1 15 "SleepingCars$Letters" "days" "[I", .fieldLink RX1 18 "SleepingCars$Letters" "froms" "[I", .fieldLink RX1 21 "SleepingCars$Letters" "tos" "[I", .fieldLink RX1 24 "SleepingCars$Letters" "comes" "[I", .fieldLink RX1 27 "SleepingCars$Letters" "answered" "[I", .fieldLink RX1 30 "SleepingCars$Letters" "sold" "[I"] ++ wsX10)
def wsX1_standing : List Cond := .code yX1_standing cX1_standing 3 (some .int) :: ([.fieldLink RX1 24 "SleepingCars$Letters" "comes" "[I", .fieldLink RX1 27 "SleepingCars$Letters" "answered" "[I"] ++ wsX10)
def wsX2_clear : List Cond := .code yX2_clear cX2_clear 1 none :: ([.fieldLink RX2 33 "SleepingCars$Rates" "lines" "I", .fieldLink RX2 18 "SleepingCars$Rates" "tests" "[I", .methodLink RX2 37 yJ7_fill_53178, .static yJ7_fill_53178, .initialized RJ7, .code yJ7_fill_53178 cJ7_fill_53178 4 none] ++ wsX20)
def wsX2_addTest : List Cond := .code yX2_addTest cX2_addTest 6 none :: ([.fieldLink RX2 33 "SleepingCars$Rates" "lines" "I", .fieldLink RX2 18 "SleepingCars$Rates" "tests" "[I", .fieldLink RX2 21 "SleepingCars$Rates" "subjects" "[I", .fieldLink RX2 24 "SleepingCars$Rates" "signs" "[I", .fieldLink RX2 27 "SleepingCars$Rates" "bounds" "[I", .fieldLink RX2 30 "SleepingCars$Rates" "negated" "[I"] ++ wsX20)
def wsX2_addLine : List Cond := .code yX2_addLine cX2_addLine 3 none :: ([.fieldLink RX2 33 "SleepingCars$Rates" "lines" "I", .fieldLink RX2 9 "SleepingCars$Rates" "charges" "[I", .fieldLink RX2 15 "SleepingCars$Rates" "amounts" "[I"] ++ wsX20)
def wsX8_init : List Cond := .code yX8_init cX8_init 1 none :: ([.methodLink RX8 3 objectInit, .instanceMethod objectInit, .code objectInit ⟨#[0xb1]⟩ 1 none, .arrayClass .int, .fieldLink RX8 9 "SleepingCars$Tokens" "kinds" "[I", .fieldLink RX8 15 "SleepingCars$Tokens" "numbers" "[I", .fieldLink RX8 18 "SleepingCars$Tokens" "places" "[I"] ++ wsX80)
def wsX3_init_r1 : List Cond := [Cond.methodLink RX3 3 objectInit, Cond.instanceMethod objectInit, Cond.code objectInit ⟨#[0xb1]⟩ 1 none, Cond.fieldLink RX3 9 "SleepingCars$Reader" "faultKind" "I", Cond.fieldLink RX3 15 "SleepingCars$Reader" "faultPlace" "I", Cond.classLink RX3 18 RX2, Cond.instantiable RX2 8, Cond.initialized RX2, Cond.fieldLink RX3 21 "SleepingCars$Reader" "draft" "LSleepingCars$Rates;", Cond.classLink RX3 25 RX8, Cond.instantiable RX8 4, Cond.initialized RX8, Cond.fieldLink RX3 28 "SleepingCars$Reader" "tokens" "LSleepingCars$Tokens;", Cond.instanceMethod yX2_init, Cond.code yX2_init cX2_init 1 none, Cond.methodLink RX2 3 objectInit, Cond.arrayClass .int, Cond.fieldLink RX2 9 "SleepingCars$Rates" "charges" "[I", Cond.fieldLink RX2 15 "SleepingCars$Rates" "amounts" "[I", Cond.fieldLink RX2 18 "SleepingCars$Rates" "tests" "[I", Cond.fieldLink RX2 21 "SleepingCars$Rates" "subjects" "[I", Cond.fieldLink RX2 24 "SleepingCars$Rates" "signs" "[I", Cond.fieldLink RX2 27 "SleepingCars$Rates" "bounds" "[I", Cond.fieldLink RX2 30 "SleepingCars$Rates" "negated" "[I"]
def wsX3_init_r2 : List Cond := [Cond.instanceMethod yX8_init, Cond.code yX8_init cX8_init 1 none, Cond.methodLink RX8 3 objectInit, Cond.fieldLink RX8 9 "SleepingCars$Tokens" "kinds" "[I", Cond.fieldLink RX8 15 "SleepingCars$Tokens" "numbers" "[I", Cond.fieldLink RX8 18 "SleepingCars$Tokens" "places" "[I"]
def wsX3_init : List Cond := .code yX3_init cX3_init 1 none :: ((wsX3_init_r1 ++ wsX3_init_r2) ++ wsX30 ++ wsX20 ++ wsX80)
def wsX8_isIn : List Cond := .code yX8_isIn cX8_isIn 3 (some .boolean) :: ([])
def wsX8_rowLength : List Cond := .code yX8_rowLength cX8_rowLength 5 (some .int) :: ([.fieldLink RX8 25 "SleepingCars$Tape" "size" "I", .fieldLink RX8 42 "SleepingCars$Tape" "bytes" "[I", .methodLink RX8 45 yX8_isIn, .static yX8_isIn, .initialized RX8, .code yX8_isIn cX8_isIn 3 (some .boolean)] ++ wsX60)
def wsX8_wordOf : List Cond := .code yX8_wordOf cX8_wordOf 1 (some (.object "java/lang/String")) :: ([])
def wsJ0_coder_7d493 : List Cond := .code yJ0_coder_7d493 cJ0_coder_7d493 1 (some .byte) :: ([.fieldLink RJ0 38 "java/lang/String" "COMPACT_STRINGS" "Z", .fieldLink RJ0 15 "java/lang/String" "coder" "B"])
def wsJ0_length_8abf5 : List Cond := .code yJ0_length_8abf5 cJ0_length_8abf5 1 (some .int) :: ([.fieldLink RJ0 9 "java/lang/String" "value" "[B", .methodLink RJ0 335 yJ0_coder_7d493, .instanceMethod yJ0_coder_7d493, .selects RJ0 yJ0_coder_7d493 yJ0_coder_7d493, .initialized RJ0, .code yJ0_coder_7d493 cJ0_coder_7d493 1 (some .byte), .fieldLink RJ0 38 "java/lang/String" "COMPACT_STRINGS" "Z", .fieldLink RJ0 15 "java/lang/String" "coder" "B"])
def wsJ0_isLatin1_aae02 : List Cond := .code yJ0_isLatin1_aae02 cJ0_isLatin1_aae02 1 (some .boolean) :: ([.fieldLink RJ0 38 "java/lang/String" "COMPACT_STRINGS" "Z", .fieldLink RJ0 15 "java/lang/String" "coder" "B"])
def wsJ3_checkIndex_8e157 : List Cond := .code yJ3_checkIndex_8e157 cJ3_checkIndex_8e157 3 (some .int) :: ([])
def wsJ0_checkIndex_df160 : List Cond := .code yJ0_checkIndex_df160 cJ0_checkIndex_df160 2 none :: ([.fieldLink RJ0 1053 "jdk/internal/util/Preconditions" "SIOOBE_FORMATTER" "Ljava/util/function/BiFunction;", .methodLink RJ0 1059 yJ3_checkIndex_8e157, .static yJ3_checkIndex_8e157, .initialized RJ3, .code yJ3_checkIndex_8e157 cJ3_checkIndex_8e157 3 (some .int)])
def wsJ1_charAt_3b067 : List Cond := .code yJ1_charAt_3b067 cJ1_charAt_3b067 2 (some .char) :: ([.methodLink RJ1 9 yJ0_checkIndex_df160, .static yJ0_checkIndex_df160, .initialized RJ0, .code yJ0_checkIndex_df160 cJ0_checkIndex_df160 2 none, .fieldLink RJ0 1053 "jdk/internal/util/Preconditions" "SIOOBE_FORMATTER" "Ljava/util/function/BiFunction;", .methodLink RJ0 1059 yJ3_checkIndex_8e157, .static yJ3_checkIndex_8e157, .initialized RJ3, .code yJ3_checkIndex_8e157 cJ3_checkIndex_8e157 3 (some .int)])
def wsJ2_length_9d52b : List Cond := .code yJ2_length_9d52b cJ2_length_9d52b 1 (some .int) :: ([])
def wsJ2_checkIndex_2214a : List Cond := .code yJ2_checkIndex_2214a cJ2_checkIndex_2214a 2 none :: ([.methodLink RJ2 48 yJ2_length_9d52b, .static yJ2_length_9d52b, .initialized RJ2, .code yJ2_length_9d52b cJ2_length_9d52b 1 (some .int), .methodLink RJ2 414 yJ0_checkIndex_df160, .static yJ0_checkIndex_df160, .initialized RJ0, .code yJ0_checkIndex_df160 cJ0_checkIndex_df160 2 none, .fieldLink RJ0 1053 "jdk/internal/util/Preconditions" "SIOOBE_FORMATTER" "Ljava/util/function/BiFunction;", .methodLink RJ0 1059 yJ3_checkIndex_8e157, .static yJ3_checkIndex_8e157, .initialized RJ3, .code yJ3_checkIndex_8e157 cJ3_checkIndex_8e157 3 (some .int)])
def wsJ2_getChar_3b067 : List Cond := .code yJ2_getChar_3b067 cJ2_getChar_3b067 2 (some .char) :: ([.fieldLink RJ2 44 "java/lang/StringUTF16" "$assertionsDisabled" "Z", .fieldLink RJ2 59 "java/lang/StringUTF16" "HI_BYTE_SHIFT" "I", .fieldLink RJ2 63 "java/lang/StringUTF16" "LO_BYTE_SHIFT" "I", .methodLink RJ2 48 yJ2_length_9d52b, .static yJ2_length_9d52b, .initialized RJ2, .code yJ2_length_9d52b cJ2_length_9d52b 1 (some .int)])
def wsJ2_charAt_3b067 : List Cond := .code yJ2_charAt_3b067 cJ2_charAt_3b067 2 (some .char) :: ([.methodLink RJ2 67 yJ2_checkIndex_2214a, .static yJ2_checkIndex_2214a, .initialized RJ2, .code yJ2_checkIndex_2214a cJ2_checkIndex_2214a 2 none, .methodLink RJ2 48 yJ2_length_9d52b, .static yJ2_length_9d52b, .code yJ2_length_9d52b cJ2_length_9d52b 1 (some .int), .methodLink RJ2 414 yJ0_checkIndex_df160, .static yJ0_checkIndex_df160, .initialized RJ0, .code yJ0_checkIndex_df160 cJ0_checkIndex_df160 2 none, .fieldLink RJ0 1053 "jdk/internal/util/Preconditions" "SIOOBE_FORMATTER" "Ljava/util/function/BiFunction;", .methodLink RJ0 1059 yJ3_checkIndex_8e157, .static yJ3_checkIndex_8e157, .initialized RJ3, .code yJ3_checkIndex_8e157 cJ3_checkIndex_8e157 3 (some .int), .methodLink RJ2 71 yJ2_getChar_3b067, .static yJ2_getChar_3b067, .code yJ2_getChar_3b067 cJ2_getChar_3b067 2 (some .char), .fieldLink RJ2 44 "java/lang/StringUTF16" "$assertionsDisabled" "Z", .fieldLink RJ2 59 "java/lang/StringUTF16" "HI_BYTE_SHIFT" "I", .fieldLink RJ2 63 "java/lang/StringUTF16" "LO_BYTE_SHIFT" "I"])
def wsJ0_charAt_5068e_r1 : List Cond := [Cond.fieldLink RJ0 9 "java/lang/String" "value" "[B", Cond.methodLink RJ0 492 yJ0_isLatin1_aae02, Cond.instanceMethod yJ0_isLatin1_aae02, Cond.selects RJ0 yJ0_isLatin1_aae02 yJ0_isLatin1_aae02, Cond.initialized RJ0, Cond.code yJ0_isLatin1_aae02 cJ0_isLatin1_aae02 1 (some .boolean), Cond.fieldLink RJ0 38 "java/lang/String" "COMPACT_STRINGS" "Z", Cond.fieldLink RJ0 15 "java/lang/String" "coder" "B", Cond.methodLink RJ0 495 yJ1_charAt_3b067, Cond.static yJ1_charAt_3b067, Cond.initialized RJ1, Cond.code yJ1_charAt_3b067 cJ1_charAt_3b067 2 (some .char), Cond.methodLink RJ1 9 yJ0_checkIndex_df160, Cond.static yJ0_checkIndex_df160, Cond.code yJ0_checkIndex_df160 cJ0_checkIndex_df160 2 none, Cond.fieldLink RJ0 1053 "jdk/internal/util/Preconditions" "SIOOBE_FORMATTER" "Ljava/util/function/BiFunction;", Cond.methodLink RJ0 1059 yJ3_checkIndex_8e157, Cond.static yJ3_checkIndex_8e157, Cond.initialized RJ3, Cond.code yJ3_checkIndex_8e157 cJ3_checkIndex_8e157 3 (some .int), Cond.methodLink RJ0 498 yJ2_charAt_3b067, Cond.static yJ2_charAt_3b067, Cond.initialized RJ2, Cond.code yJ2_charAt_3b067 cJ2_charAt_3b067 2 (some .char)]
def wsJ0_charAt_5068e_r2 : List Cond := [Cond.methodLink RJ2 67 yJ2_checkIndex_2214a, Cond.static yJ2_checkIndex_2214a, Cond.code yJ2_checkIndex_2214a cJ2_checkIndex_2214a 2 none, Cond.methodLink RJ2 48 yJ2_length_9d52b, Cond.static yJ2_length_9d52b, Cond.code yJ2_length_9d52b cJ2_length_9d52b 1 (some .int), Cond.methodLink RJ2 414 yJ0_checkIndex_df160, Cond.methodLink RJ2 71 yJ2_getChar_3b067, Cond.static yJ2_getChar_3b067, Cond.code yJ2_getChar_3b067 cJ2_getChar_3b067 2 (some .char), Cond.fieldLink RJ2 44 "java/lang/StringUTF16" "$assertionsDisabled" "Z", Cond.fieldLink RJ2 59 "java/lang/StringUTF16" "HI_BYTE_SHIFT" "I", Cond.fieldLink RJ2 63 "java/lang/StringUTF16" "LO_BYTE_SHIFT" "I"]
def wsJ0_charAt_5068e : List Cond := .code yJ0_charAt_5068e cJ0_charAt_5068e 2 (some .char) :: ((wsJ0_charAt_5068e_r1 ++ wsJ0_charAt_5068e_r2))
def wsX8_spells_r1 : List Cond := [Cond.fieldLink RX8 42 "SleepingCars$Tape" "bytes" "[I", Cond.methodLink RX8 96 yJ0_length_8abf5, Cond.instanceMethod yJ0_length_8abf5, Cond.selects RJ0 yJ0_length_8abf5 yJ0_length_8abf5, Cond.initialized RJ0, Cond.code yJ0_length_8abf5 cJ0_length_8abf5 1 (some .int), Cond.fieldLink RJ0 9 "java/lang/String" "value" "[B", Cond.methodLink RJ0 335 yJ0_coder_7d493, Cond.instanceMethod yJ0_coder_7d493, Cond.selects RJ0 yJ0_coder_7d493 yJ0_coder_7d493, Cond.code yJ0_coder_7d493 cJ0_coder_7d493 1 (some .byte), Cond.fieldLink RJ0 38 "java/lang/String" "COMPACT_STRINGS" "Z", Cond.fieldLink RJ0 15 "java/lang/String" "coder" "B", Cond.methodLink RX8 102 yJ0_charAt_5068e, Cond.instanceMethod yJ0_charAt_5068e, Cond.selects RJ0 yJ0_charAt_5068e yJ0_charAt_5068e, Cond.code yJ0_charAt_5068e cJ0_charAt_5068e 2 (some .char), Cond.methodLink RJ0 492 yJ0_isLatin1_aae02, Cond.instanceMethod yJ0_isLatin1_aae02, Cond.selects RJ0 yJ0_isLatin1_aae02 yJ0_isLatin1_aae02, Cond.code yJ0_isLatin1_aae02 cJ0_isLatin1_aae02 1 (some .boolean), Cond.methodLink RJ0 495 yJ1_charAt_3b067, Cond.static yJ1_charAt_3b067, Cond.initialized RJ1]
def wsX8_spells_r2 : List Cond := [Cond.code yJ1_charAt_3b067 cJ1_charAt_3b067 2 (some .char), Cond.methodLink RJ1 9 yJ0_checkIndex_df160, Cond.static yJ0_checkIndex_df160, Cond.code yJ0_checkIndex_df160 cJ0_checkIndex_df160 2 none, Cond.fieldLink RJ0 1053 "jdk/internal/util/Preconditions" "SIOOBE_FORMATTER" "Ljava/util/function/BiFunction;", Cond.methodLink RJ0 1059 yJ3_checkIndex_8e157, Cond.static yJ3_checkIndex_8e157, Cond.initialized RJ3, Cond.code yJ3_checkIndex_8e157 cJ3_checkIndex_8e157 3 (some .int), Cond.methodLink RJ0 498 yJ2_charAt_3b067, Cond.static yJ2_charAt_3b067, Cond.initialized RJ2, Cond.code yJ2_charAt_3b067 cJ2_charAt_3b067 2 (some .char), Cond.methodLink RJ2 67 yJ2_checkIndex_2214a, Cond.static yJ2_checkIndex_2214a, Cond.code yJ2_checkIndex_2214a cJ2_checkIndex_2214a 2 none, Cond.methodLink RJ2 48 yJ2_length_9d52b, Cond.static yJ2_length_9d52b, Cond.code yJ2_length_9d52b cJ2_length_9d52b 1 (some .int), Cond.methodLink RJ2 414 yJ0_checkIndex_df160, Cond.methodLink RJ2 71 yJ2_getChar_3b067, Cond.static yJ2_getChar_3b067, Cond.code yJ2_getChar_3b067 cJ2_getChar_3b067 2 (some .char), Cond.fieldLink RJ2 44 "java/lang/StringUTF16" "$assertionsDisabled" "Z"]
def wsX8_spells_r3 : List Cond := [Cond.fieldLink RJ2 59 "java/lang/StringUTF16" "HI_BYTE_SHIFT" "I", Cond.fieldLink RJ2 63 "java/lang/StringUTF16" "LO_BYTE_SHIFT" "I"]
def wsX8_spells : List Cond := .code yX8_spells cX8_spells 5 (some .boolean) :: ((wsX8_spells_r1 ++ (wsX8_spells_r2 ++ wsX8_spells_r3)) ++ wsX60)
def wsX8_wordKind_r1 : List Cond := [Cond.methodLink RX8 64 yX8_wordOf, Cond.static yX8_wordOf, Cond.initialized RX8, Cond.code yX8_wordOf cX8_wordOf 1 (some (.object "java/lang/String")), Cond.methodLink RX8 68 yX8_spells, Cond.static yX8_spells, Cond.code yX8_spells cX8_spells 5 (some .boolean), Cond.fieldLink RX8 42 "SleepingCars$Tape" "bytes" "[I", Cond.methodLink RX8 96 yJ0_length_8abf5, Cond.instanceMethod yJ0_length_8abf5, Cond.selects RJ0 yJ0_length_8abf5 yJ0_length_8abf5, Cond.initialized RJ0, Cond.code yJ0_length_8abf5 cJ0_length_8abf5 1 (some .int), Cond.fieldLink RJ0 9 "java/lang/String" "value" "[B", Cond.methodLink RJ0 335 yJ0_coder_7d493, Cond.instanceMethod yJ0_coder_7d493, Cond.selects RJ0 yJ0_coder_7d493 yJ0_coder_7d493, Cond.code yJ0_coder_7d493 cJ0_coder_7d493 1 (some .byte), Cond.fieldLink RJ0 38 "java/lang/String" "COMPACT_STRINGS" "Z", Cond.fieldLink RJ0 15 "java/lang/String" "coder" "B", Cond.methodLink RX8 102 yJ0_charAt_5068e, Cond.instanceMethod yJ0_charAt_5068e, Cond.selects RJ0 yJ0_charAt_5068e yJ0_charAt_5068e, Cond.code yJ0_charAt_5068e cJ0_charAt_5068e 2 (some .char)]
def wsX8_wordKind_r2 : List Cond := [Cond.methodLink RJ0 492 yJ0_isLatin1_aae02, Cond.instanceMethod yJ0_isLatin1_aae02, Cond.selects RJ0 yJ0_isLatin1_aae02 yJ0_isLatin1_aae02, Cond.code yJ0_isLatin1_aae02 cJ0_isLatin1_aae02 1 (some .boolean), Cond.methodLink RJ0 495 yJ1_charAt_3b067, Cond.static yJ1_charAt_3b067, Cond.initialized RJ1, Cond.code yJ1_charAt_3b067 cJ1_charAt_3b067 2 (some .char), Cond.methodLink RJ1 9 yJ0_checkIndex_df160, Cond.static yJ0_checkIndex_df160, Cond.code yJ0_checkIndex_df160 cJ0_checkIndex_df160 2 none, Cond.fieldLink RJ0 1053 "jdk/internal/util/Preconditions" "SIOOBE_FORMATTER" "Ljava/util/function/BiFunction;", Cond.methodLink RJ0 1059 yJ3_checkIndex_8e157, Cond.static yJ3_checkIndex_8e157, Cond.initialized RJ3, Cond.code yJ3_checkIndex_8e157 cJ3_checkIndex_8e157 3 (some .int), Cond.methodLink RJ0 498 yJ2_charAt_3b067, Cond.static yJ2_charAt_3b067, Cond.initialized RJ2, Cond.code yJ2_charAt_3b067 cJ2_charAt_3b067 2 (some .char), Cond.methodLink RJ2 67 yJ2_checkIndex_2214a, Cond.static yJ2_checkIndex_2214a, Cond.code yJ2_checkIndex_2214a cJ2_checkIndex_2214a 2 none, Cond.methodLink RJ2 48 yJ2_length_9d52b]
def wsX8_wordKind_r3 : List Cond := [Cond.static yJ2_length_9d52b, Cond.code yJ2_length_9d52b cJ2_length_9d52b 1 (some .int), Cond.methodLink RJ2 414 yJ0_checkIndex_df160, Cond.methodLink RJ2 71 yJ2_getChar_3b067, Cond.static yJ2_getChar_3b067, Cond.code yJ2_getChar_3b067 cJ2_getChar_3b067 2 (some .char), Cond.fieldLink RJ2 44 "java/lang/StringUTF16" "$assertionsDisabled" "Z", Cond.fieldLink RJ2 59 "java/lang/StringUTF16" "HI_BYTE_SHIFT" "I", Cond.fieldLink RJ2 63 "java/lang/StringUTF16" "LO_BYTE_SHIFT" "I"]
def wsX8_wordKind : List Cond := .code yX8_wordKind cX8_wordKind 4 (some .int) :: ((wsX8_wordKind_r1 ++ (wsX8_wordKind_r2 ++ wsX8_wordKind_r3)) ++ wsX60)
def wsX8_add : List Cond := .code yX8_add cX8_add 4 none :: ([.fieldLink RX8 21 "SleepingCars$Tokens" "size" "I", .fieldLink RX8 9 "SleepingCars$Tokens" "kinds" "[I", .fieldLink RX8 15 "SleepingCars$Tokens" "numbers" "[I", .fieldLink RX8 18 "SleepingCars$Tokens" "places" "[I"] ++ wsX80)
def wsX8_numberOf : List Cond := .code yX8_numberOf cX8_numberOf 5 (some .int) :: ([.fieldLink RX8 42 "SleepingCars$Tape" "bytes" "[I"] ++ wsX60)
def wsX8_signKind : List Cond := .code yX8_signKind cX8_signKind 1 (some .int) :: ([])
def wsX8_takeAt_r1 : List Cond := [Cond.fieldLink RX8 42 "SleepingCars$Tape" "bytes" "[I", Cond.methodLink RX8 45 yX8_isIn, Cond.static yX8_isIn, Cond.initialized RX8, Cond.code yX8_isIn cX8_isIn 3 (some .boolean), Cond.methodLink RX8 49 yX8_rowLength, Cond.static yX8_rowLength, Cond.code yX8_rowLength cX8_rowLength 5 (some .int), Cond.fieldLink RX8 25 "SleepingCars$Tape" "size" "I", Cond.methodLink RX8 53 yX8_wordKind, Cond.static yX8_wordKind, Cond.code yX8_wordKind cX8_wordKind 4 (some .int), Cond.methodLink RX8 64 yX8_wordOf, Cond.static yX8_wordOf, Cond.code yX8_wordOf cX8_wordOf 1 (some (.object "java/lang/String")), Cond.methodLink RX8 68 yX8_spells, Cond.static yX8_spells, Cond.code yX8_spells cX8_spells 5 (some .boolean), Cond.methodLink RX8 96 yJ0_length_8abf5, Cond.instanceMethod yJ0_length_8abf5, Cond.selects RJ0 yJ0_length_8abf5 yJ0_length_8abf5, Cond.initialized RJ0, Cond.code yJ0_length_8abf5 cJ0_length_8abf5 1 (some .int), Cond.fieldLink RJ0 9 "java/lang/String" "value" "[B"]
def wsX8_takeAt_r2 : List Cond := [Cond.methodLink RJ0 335 yJ0_coder_7d493, Cond.instanceMethod yJ0_coder_7d493, Cond.selects RJ0 yJ0_coder_7d493 yJ0_coder_7d493, Cond.code yJ0_coder_7d493 cJ0_coder_7d493 1 (some .byte), Cond.fieldLink RJ0 38 "java/lang/String" "COMPACT_STRINGS" "Z", Cond.fieldLink RJ0 15 "java/lang/String" "coder" "B", Cond.methodLink RX8 102 yJ0_charAt_5068e, Cond.instanceMethod yJ0_charAt_5068e, Cond.selects RJ0 yJ0_charAt_5068e yJ0_charAt_5068e, Cond.code yJ0_charAt_5068e cJ0_charAt_5068e 2 (some .char), Cond.methodLink RJ0 492 yJ0_isLatin1_aae02, Cond.instanceMethod yJ0_isLatin1_aae02, Cond.selects RJ0 yJ0_isLatin1_aae02 yJ0_isLatin1_aae02, Cond.code yJ0_isLatin1_aae02 cJ0_isLatin1_aae02 1 (some .boolean), Cond.methodLink RJ0 495 yJ1_charAt_3b067, Cond.static yJ1_charAt_3b067, Cond.initialized RJ1, Cond.code yJ1_charAt_3b067 cJ1_charAt_3b067 2 (some .char), Cond.methodLink RJ1 9 yJ0_checkIndex_df160, Cond.static yJ0_checkIndex_df160, Cond.code yJ0_checkIndex_df160 cJ0_checkIndex_df160 2 none, Cond.fieldLink RJ0 1053 "jdk/internal/util/Preconditions" "SIOOBE_FORMATTER" "Ljava/util/function/BiFunction;", Cond.methodLink RJ0 1059 yJ3_checkIndex_8e157, Cond.static yJ3_checkIndex_8e157]
def wsX8_takeAt_r3 : List Cond := [Cond.initialized RJ3, Cond.code yJ3_checkIndex_8e157 cJ3_checkIndex_8e157 3 (some .int), Cond.methodLink RJ0 498 yJ2_charAt_3b067, Cond.static yJ2_charAt_3b067, Cond.initialized RJ2, Cond.code yJ2_charAt_3b067 cJ2_charAt_3b067 2 (some .char), Cond.methodLink RJ2 67 yJ2_checkIndex_2214a, Cond.static yJ2_checkIndex_2214a, Cond.code yJ2_checkIndex_2214a cJ2_checkIndex_2214a 2 none, Cond.methodLink RJ2 48 yJ2_length_9d52b, Cond.static yJ2_length_9d52b, Cond.code yJ2_length_9d52b cJ2_length_9d52b 1 (some .int), Cond.methodLink RJ2 414 yJ0_checkIndex_df160, Cond.methodLink RJ2 71 yJ2_getChar_3b067, Cond.static yJ2_getChar_3b067, Cond.code yJ2_getChar_3b067 cJ2_getChar_3b067 2 (some .char), Cond.fieldLink RJ2 44 "java/lang/StringUTF16" "$assertionsDisabled" "Z", Cond.fieldLink RJ2 59 "java/lang/StringUTF16" "HI_BYTE_SHIFT" "I", Cond.fieldLink RJ2 63 "java/lang/StringUTF16" "LO_BYTE_SHIFT" "I", Cond.methodLink RX8 38 yX8_add, Cond.instanceMethod yX8_add, Cond.selects RX8 yX8_add yX8_add, Cond.code yX8_add cX8_add 4 none, Cond.fieldLink RX8 21 "SleepingCars$Tokens" "size" "I"]
def wsX8_takeAt_r4 : List Cond := [Cond.fieldLink RX8 9 "SleepingCars$Tokens" "kinds" "[I", Cond.fieldLink RX8 15 "SleepingCars$Tokens" "numbers" "[I", Cond.fieldLink RX8 18 "SleepingCars$Tokens" "places" "[I", Cond.methodLink RX8 57 yX8_numberOf, Cond.static yX8_numberOf, Cond.code yX8_numberOf cX8_numberOf 5 (some .int), Cond.methodLink RX8 60 yX8_signKind, Cond.static yX8_signKind, Cond.code yX8_signKind cX8_signKind 1 (some .int)]
def wsX8_takeAt : List Cond := .code yX8_takeAt cX8_takeAt 5 (some .int) :: ((wsX8_takeAt_r1 ++ (wsX8_takeAt_r2 ++ (wsX8_takeAt_r3 ++ wsX8_takeAt_r4))) ++ wsX60 ++ wsX80)
def wsX8_split_r1 : List Cond := [Cond.fieldLink RX8 21 "SleepingCars$Tokens" "size" "I", Cond.fieldLink RX8 25 "SleepingCars$Tape" "size" "I", Cond.methodLink RX8 32 Lib.Math.max.name, Cond.static Lib.Math.max.name, Cond.initialized "java/lang/Math", Cond.code Lib.Math.max.name Lib.Math.max.code 2 (some .int), Cond.methodLink RX8 28 yX8_takeAt, Cond.instanceMethod yX8_takeAt, Cond.selects RX8 yX8_takeAt yX8_takeAt, Cond.initialized RX8, Cond.code yX8_takeAt cX8_takeAt 5 (some .int), Cond.fieldLink RX8 42 "SleepingCars$Tape" "bytes" "[I", Cond.methodLink RX8 45 yX8_isIn, Cond.static yX8_isIn, Cond.code yX8_isIn cX8_isIn 3 (some .boolean), Cond.methodLink RX8 49 yX8_rowLength, Cond.static yX8_rowLength, Cond.code yX8_rowLength cX8_rowLength 5 (some .int), Cond.methodLink RX8 53 yX8_wordKind, Cond.static yX8_wordKind, Cond.code yX8_wordKind cX8_wordKind 4 (some .int), Cond.methodLink RX8 64 yX8_wordOf, Cond.static yX8_wordOf, Cond.code yX8_wordOf cX8_wordOf 1 (some (.object "java/lang/String"))]
def wsX8_split_r2 : List Cond := [Cond.methodLink RX8 68 yX8_spells, Cond.static yX8_spells, Cond.code yX8_spells cX8_spells 5 (some .boolean), Cond.methodLink RX8 96 yJ0_length_8abf5, Cond.instanceMethod yJ0_length_8abf5, Cond.selects RJ0 yJ0_length_8abf5 yJ0_length_8abf5, Cond.initialized RJ0, Cond.code yJ0_length_8abf5 cJ0_length_8abf5 1 (some .int), Cond.fieldLink RJ0 9 "java/lang/String" "value" "[B", Cond.methodLink RJ0 335 yJ0_coder_7d493, Cond.instanceMethod yJ0_coder_7d493, Cond.selects RJ0 yJ0_coder_7d493 yJ0_coder_7d493, Cond.code yJ0_coder_7d493 cJ0_coder_7d493 1 (some .byte), Cond.fieldLink RJ0 38 "java/lang/String" "COMPACT_STRINGS" "Z", Cond.fieldLink RJ0 15 "java/lang/String" "coder" "B", Cond.methodLink RX8 102 yJ0_charAt_5068e, Cond.instanceMethod yJ0_charAt_5068e, Cond.selects RJ0 yJ0_charAt_5068e yJ0_charAt_5068e, Cond.code yJ0_charAt_5068e cJ0_charAt_5068e 2 (some .char), Cond.methodLink RJ0 492 yJ0_isLatin1_aae02, Cond.instanceMethod yJ0_isLatin1_aae02, Cond.selects RJ0 yJ0_isLatin1_aae02 yJ0_isLatin1_aae02, Cond.code yJ0_isLatin1_aae02 cJ0_isLatin1_aae02 1 (some .boolean), Cond.methodLink RJ0 495 yJ1_charAt_3b067]
def wsX8_split_r3 : List Cond := [Cond.static yJ1_charAt_3b067, Cond.initialized RJ1, Cond.code yJ1_charAt_3b067 cJ1_charAt_3b067 2 (some .char), Cond.methodLink RJ1 9 yJ0_checkIndex_df160, Cond.static yJ0_checkIndex_df160, Cond.code yJ0_checkIndex_df160 cJ0_checkIndex_df160 2 none, Cond.fieldLink RJ0 1053 "jdk/internal/util/Preconditions" "SIOOBE_FORMATTER" "Ljava/util/function/BiFunction;", Cond.methodLink RJ0 1059 yJ3_checkIndex_8e157, Cond.static yJ3_checkIndex_8e157, Cond.initialized RJ3, Cond.code yJ3_checkIndex_8e157 cJ3_checkIndex_8e157 3 (some .int), Cond.methodLink RJ0 498 yJ2_charAt_3b067, Cond.static yJ2_charAt_3b067, Cond.initialized RJ2, Cond.code yJ2_charAt_3b067 cJ2_charAt_3b067 2 (some .char), Cond.methodLink RJ2 67 yJ2_checkIndex_2214a, Cond.static yJ2_checkIndex_2214a, Cond.code yJ2_checkIndex_2214a cJ2_checkIndex_2214a 2 none, Cond.methodLink RJ2 48 yJ2_length_9d52b, Cond.static yJ2_length_9d52b, Cond.code yJ2_length_9d52b cJ2_length_9d52b 1 (some .int), Cond.methodLink RJ2 414 yJ0_checkIndex_df160, Cond.methodLink RJ2 71 yJ2_getChar_3b067, Cond.static yJ2_getChar_3b067]
def wsX8_split_r4 : List Cond := [Cond.code yJ2_getChar_3b067 cJ2_getChar_3b067 2 (some .char), Cond.fieldLink RJ2 44 "java/lang/StringUTF16" "$assertionsDisabled" "Z", Cond.fieldLink RJ2 59 "java/lang/StringUTF16" "HI_BYTE_SHIFT" "I", Cond.fieldLink RJ2 63 "java/lang/StringUTF16" "LO_BYTE_SHIFT" "I", Cond.methodLink RX8 38 yX8_add, Cond.instanceMethod yX8_add, Cond.selects RX8 yX8_add yX8_add, Cond.code yX8_add cX8_add 4 none, Cond.fieldLink RX8 9 "SleepingCars$Tokens" "kinds" "[I", Cond.fieldLink RX8 15 "SleepingCars$Tokens" "numbers" "[I", Cond.fieldLink RX8 18 "SleepingCars$Tokens" "places" "[I", Cond.methodLink RX8 57 yX8_numberOf, Cond.static yX8_numberOf, Cond.code yX8_numberOf cX8_numberOf 5 (some .int), Cond.methodLink RX8 60 yX8_signKind, Cond.static yX8_signKind, Cond.code yX8_signKind cX8_signKind 1 (some .int)]
def wsX8_split : List Cond := .code yX8_split cX8_split 3 none :: ((wsX8_split_r1 ++ (wsX8_split_r2 ++ (wsX8_split_r3 ++ wsX8_split_r4))) ++ wsX80 ++ wsX60)
def wsX3_isSound : List Cond := .code yX3_isSound cX3_isSound 1 (some .boolean) :: ([.fieldLink RX3 9 "SleepingCars$Reader" "faultKind" "I"] ++ wsX30)
def wsX8_kindAt : List Cond := .code yX8_kindAt cX8_kindAt 2 (some .int) :: ([.fieldLink RX8 21 "SleepingCars$Tokens" "size" "I", .fieldLink RX8 9 "SleepingCars$Tokens" "kinds" "[I"] ++ wsX80)
def wsX3_isNext : List Cond := .code yX3_isNext cX3_isNext 2 (some .boolean) :: ([.fieldLink RX3 28 "SleepingCars$Reader" "tokens" "LSleepingCars$Tokens;", .fieldLink RX3 35 "SleepingCars$Reader" "at" "I", .methodLink RX3 66 yX8_kindAt, .instanceMethod yX8_kindAt, .selects RX8 yX8_kindAt yX8_kindAt, .initialized RX8, .code yX8_kindAt cX8_kindAt 2 (some .int), .fieldLink RX8 21 "SleepingCars$Tokens" "size" "I", .fieldLink RX8 9 "SleepingCars$Tokens" "kinds" "[I"] ++ wsX30 ++ wsX80)
def wsX8_placeAt : List Cond := .code yX8_placeAt cX8_placeAt 2 (some .int) :: ([.fieldLink RX8 21 "SleepingCars$Tokens" "size" "I", .fieldLink RX8 18 "SleepingCars$Tokens" "places" "[I"] ++ wsX80)
def wsX3_noteSurplus : List Cond := .code yX3_noteSurplus cX3_noteSurplus 1 none :: ([.fieldLink RX3 32 "SleepingCars$Reader" "surplusPlace" "I", .fieldLink RX3 28 "SleepingCars$Reader" "tokens" "LSleepingCars$Tokens;", .fieldLink RX3 35 "SleepingCars$Reader" "at" "I", .methodLink RX3 84 yX8_placeAt, .instanceMethod yX8_placeAt, .selects RX8 yX8_placeAt yX8_placeAt, .initialized RX8, .code yX8_placeAt cX8_placeAt 2 (some .int), .fieldLink RX8 21 "SleepingCars$Tokens" "size" "I", .fieldLink RX8 18 "SleepingCars$Tokens" "places" "[I"] ++ wsX30 ++ wsX80)
def wsX3_takeIf : List Cond := .code yX3_takeIf cX3_takeIf 2 none :: ([.fieldLink RX3 35 "SleepingCars$Reader" "at" "I", .fieldLink RX3 9 "SleepingCars$Reader" "faultKind" "I", .fieldLink RX3 28 "SleepingCars$Reader" "tokens" "LSleepingCars$Tokens;", .fieldLink RX3 15 "SleepingCars$Reader" "faultPlace" "I", .methodLink RX3 45 yX3_isSound, .instanceMethod yX3_isSound, .selects RX3 yX3_isSound yX3_isSound, .initialized RX3, .code yX3_isSound cX3_isSound 1 (some .boolean), .methodLink RX3 84 yX8_placeAt, .instanceMethod yX8_placeAt, .selects RX8 yX8_placeAt yX8_placeAt, .initialized RX8, .code yX8_placeAt cX8_placeAt 2 (some .int), .fieldLink RX8 21 "SleepingCars$Tokens" "size" "I", .fieldLink RX8 18 "SleepingCars$Tokens" "places" "[I"] ++ wsX30 ++ wsX80)
def wsX8_numberAt : List Cond := .code yX8_numberAt cX8_numberAt 2 (some .int) :: ([.fieldLink RX8 21 "SleepingCars$Tokens" "size" "I", .fieldLink RX8 15 "SleepingCars$Tokens" "numbers" "[I"] ++ wsX80)
def wsX3_readTest_r1 : List Cond := [Cond.fieldLink RX3 35 "SleepingCars$Reader" "at" "I", Cond.fieldLink RX3 28 "SleepingCars$Reader" "tokens" "LSleepingCars$Tokens;", Cond.fieldLink RX3 21 "SleepingCars$Reader" "draft" "LSleepingCars$Rates;", Cond.methodLink RX3 57 yX3_noteSurplus, Cond.instanceMethod yX3_noteSurplus, Cond.selects RX3 yX3_noteSurplus yX3_noteSurplus, Cond.initialized RX3, Cond.code yX3_noteSurplus cX3_noteSurplus 1 none, Cond.fieldLink RX3 32 "SleepingCars$Reader" "surplusPlace" "I", Cond.methodLink RX3 84 yX8_placeAt, Cond.instanceMethod yX8_placeAt, Cond.selects RX8 yX8_placeAt yX8_placeAt, Cond.initialized RX8, Cond.code yX8_placeAt cX8_placeAt 2 (some .int), Cond.fieldLink RX8 21 "SleepingCars$Tokens" "size" "I", Cond.fieldLink RX8 18 "SleepingCars$Tokens" "places" "[I", Cond.methodLink RX3 49 yX3_isNext, Cond.instanceMethod yX3_isNext, Cond.selects RX3 yX3_isNext yX3_isNext, Cond.code yX3_isNext cX3_isNext 2 (some .boolean), Cond.methodLink RX3 66 yX8_kindAt, Cond.instanceMethod yX8_kindAt, Cond.selects RX8 yX8_kindAt yX8_kindAt, Cond.code yX8_kindAt cX8_kindAt 2 (some .int)]
def wsX3_readTest_r2 : List Cond := [Cond.fieldLink RX8 9 "SleepingCars$Tokens" "kinds" "[I", Cond.methodLink RX3 63 yX3_takeIf, Cond.instanceMethod yX3_takeIf, Cond.selects RX3 yX3_takeIf yX3_takeIf, Cond.code yX3_takeIf cX3_takeIf 2 none, Cond.fieldLink RX3 9 "SleepingCars$Reader" "faultKind" "I", Cond.fieldLink RX3 15 "SleepingCars$Reader" "faultPlace" "I", Cond.methodLink RX3 45 yX3_isSound, Cond.instanceMethod yX3_isSound, Cond.selects RX3 yX3_isSound yX3_isSound, Cond.code yX3_isSound cX3_isSound 1 (some .boolean), Cond.methodLink RX3 80 yX2_addTest, Cond.instanceMethod yX2_addTest, Cond.selects RX2 yX2_addTest yX2_addTest, Cond.initialized RX2, Cond.code yX2_addTest cX2_addTest 6 none, Cond.fieldLink RX2 33 "SleepingCars$Rates" "lines" "I", Cond.fieldLink RX2 18 "SleepingCars$Rates" "tests" "[I", Cond.fieldLink RX2 21 "SleepingCars$Rates" "subjects" "[I", Cond.fieldLink RX2 24 "SleepingCars$Rates" "signs" "[I", Cond.fieldLink RX2 27 "SleepingCars$Rates" "bounds" "[I", Cond.fieldLink RX2 30 "SleepingCars$Rates" "negated" "[I", Cond.methodLink RX3 70 yX8_numberAt, Cond.instanceMethod yX8_numberAt]
def wsX3_readTest_r3 : List Cond := [Cond.selects RX8 yX8_numberAt yX8_numberAt, Cond.code yX8_numberAt cX8_numberAt 2 (some .int), Cond.fieldLink RX8 15 "SleepingCars$Tokens" "numbers" "[I"]
def wsX3_readTest : List Cond := .code yX3_readTest cX3_readTest 6 none :: ((wsX3_readTest_r1 ++ (wsX3_readTest_r2 ++ wsX3_readTest_r3)) ++ wsX30 ++ wsX80 ++ wsX20)
def wsX3_readTests_r1 : List Cond := [Cond.fieldLink RX3 35 "SleepingCars$Reader" "at" "I", Cond.methodLink RX3 77 yX3_readTest, Cond.instanceMethod yX3_readTest, Cond.selects RX3 yX3_readTest yX3_readTest, Cond.initialized RX3, Cond.code yX3_readTest cX3_readTest 6 none, Cond.fieldLink RX3 28 "SleepingCars$Reader" "tokens" "LSleepingCars$Tokens;", Cond.fieldLink RX3 21 "SleepingCars$Reader" "draft" "LSleepingCars$Rates;", Cond.methodLink RX3 57 yX3_noteSurplus, Cond.instanceMethod yX3_noteSurplus, Cond.selects RX3 yX3_noteSurplus yX3_noteSurplus, Cond.code yX3_noteSurplus cX3_noteSurplus 1 none, Cond.fieldLink RX3 32 "SleepingCars$Reader" "surplusPlace" "I", Cond.methodLink RX3 84 yX8_placeAt, Cond.instanceMethod yX8_placeAt, Cond.selects RX8 yX8_placeAt yX8_placeAt, Cond.initialized RX8, Cond.code yX8_placeAt cX8_placeAt 2 (some .int), Cond.fieldLink RX8 21 "SleepingCars$Tokens" "size" "I", Cond.fieldLink RX8 18 "SleepingCars$Tokens" "places" "[I", Cond.methodLink RX3 49 yX3_isNext, Cond.instanceMethod yX3_isNext, Cond.selects RX3 yX3_isNext yX3_isNext, Cond.code yX3_isNext cX3_isNext 2 (some .boolean)]
def wsX3_readTests_r2 : List Cond := [Cond.methodLink RX3 66 yX8_kindAt, Cond.instanceMethod yX8_kindAt, Cond.selects RX8 yX8_kindAt yX8_kindAt, Cond.code yX8_kindAt cX8_kindAt 2 (some .int), Cond.fieldLink RX8 9 "SleepingCars$Tokens" "kinds" "[I", Cond.methodLink RX3 63 yX3_takeIf, Cond.instanceMethod yX3_takeIf, Cond.selects RX3 yX3_takeIf yX3_takeIf, Cond.code yX3_takeIf cX3_takeIf 2 none, Cond.fieldLink RX3 9 "SleepingCars$Reader" "faultKind" "I", Cond.fieldLink RX3 15 "SleepingCars$Reader" "faultPlace" "I", Cond.methodLink RX3 45 yX3_isSound, Cond.instanceMethod yX3_isSound, Cond.selects RX3 yX3_isSound yX3_isSound, Cond.code yX3_isSound cX3_isSound 1 (some .boolean), Cond.methodLink RX3 80 yX2_addTest, Cond.instanceMethod yX2_addTest, Cond.selects RX2 yX2_addTest yX2_addTest, Cond.initialized RX2, Cond.code yX2_addTest cX2_addTest 6 none, Cond.fieldLink RX2 33 "SleepingCars$Rates" "lines" "I", Cond.fieldLink RX2 18 "SleepingCars$Rates" "tests" "[I", Cond.fieldLink RX2 21 "SleepingCars$Rates" "subjects" "[I", Cond.fieldLink RX2 24 "SleepingCars$Rates" "signs" "[I"]
def wsX3_readTests_r3 : List Cond := [Cond.fieldLink RX2 27 "SleepingCars$Rates" "bounds" "[I", Cond.fieldLink RX2 30 "SleepingCars$Rates" "negated" "[I", Cond.methodLink RX3 70 yX8_numberAt, Cond.instanceMethod yX8_numberAt, Cond.selects RX8 yX8_numberAt yX8_numberAt, Cond.code yX8_numberAt cX8_numberAt 2 (some .int), Cond.fieldLink RX8 15 "SleepingCars$Tokens" "numbers" "[I"]
def wsX3_readTests : List Cond := .code yX3_readTests cX3_readTests 2 none :: ((wsX3_readTests_r1 ++ (wsX3_readTests_r2 ++ wsX3_readTests_r3)) ++ wsX30 ++ wsX80 ++ wsX20)
def wsX3_readLine_r1 : List Cond := [Cond.fieldLink RX3 28 "SleepingCars$Reader" "tokens" "LSleepingCars$Tokens;", Cond.fieldLink RX3 35 "SleepingCars$Reader" "at" "I", Cond.fieldLink RX3 21 "SleepingCars$Reader" "draft" "LSleepingCars$Rates;", Cond.methodLink RX3 57 yX3_noteSurplus, Cond.instanceMethod yX3_noteSurplus, Cond.selects RX3 yX3_noteSurplus yX3_noteSurplus, Cond.initialized RX3, Cond.code yX3_noteSurplus cX3_noteSurplus 1 none, Cond.fieldLink RX3 32 "SleepingCars$Reader" "surplusPlace" "I", Cond.methodLink RX3 84 yX8_placeAt, Cond.instanceMethod yX8_placeAt, Cond.selects RX8 yX8_placeAt yX8_placeAt, Cond.initialized RX8, Cond.code yX8_placeAt cX8_placeAt 2 (some .int), Cond.fieldLink RX8 21 "SleepingCars$Tokens" "size" "I", Cond.fieldLink RX8 18 "SleepingCars$Tokens" "places" "[I", Cond.methodLink RX3 49 yX3_isNext, Cond.instanceMethod yX3_isNext, Cond.selects RX3 yX3_isNext yX3_isNext, Cond.code yX3_isNext cX3_isNext 2 (some .boolean), Cond.methodLink RX3 66 yX8_kindAt, Cond.instanceMethod yX8_kindAt, Cond.selects RX8 yX8_kindAt yX8_kindAt, Cond.code yX8_kindAt cX8_kindAt 2 (some .int)]
def wsX3_readLine_r2 : List Cond := [Cond.fieldLink RX8 9 "SleepingCars$Tokens" "kinds" "[I", Cond.methodLink RX3 60 yX3_readTests, Cond.instanceMethod yX3_readTests, Cond.selects RX3 yX3_readTests yX3_readTests, Cond.code yX3_readTests cX3_readTests 2 none, Cond.methodLink RX3 77 yX3_readTest, Cond.instanceMethod yX3_readTest, Cond.selects RX3 yX3_readTest yX3_readTest, Cond.code yX3_readTest cX3_readTest 6 none, Cond.methodLink RX3 63 yX3_takeIf, Cond.instanceMethod yX3_takeIf, Cond.selects RX3 yX3_takeIf yX3_takeIf, Cond.code yX3_takeIf cX3_takeIf 2 none, Cond.fieldLink RX3 9 "SleepingCars$Reader" "faultKind" "I", Cond.fieldLink RX3 15 "SleepingCars$Reader" "faultPlace" "I", Cond.methodLink RX3 45 yX3_isSound, Cond.instanceMethod yX3_isSound, Cond.selects RX3 yX3_isSound yX3_isSound, Cond.code yX3_isSound cX3_isSound 1 (some .boolean), Cond.methodLink RX3 80 yX2_addTest, Cond.instanceMethod yX2_addTest, Cond.selects RX2 yX2_addTest yX2_addTest, Cond.initialized RX2, Cond.code yX2_addTest cX2_addTest 6 none]
def wsX3_readLine_r3 : List Cond := [Cond.fieldLink RX2 33 "SleepingCars$Rates" "lines" "I", Cond.fieldLink RX2 18 "SleepingCars$Rates" "tests" "[I", Cond.fieldLink RX2 21 "SleepingCars$Rates" "subjects" "[I", Cond.fieldLink RX2 24 "SleepingCars$Rates" "signs" "[I", Cond.fieldLink RX2 27 "SleepingCars$Rates" "bounds" "[I", Cond.fieldLink RX2 30 "SleepingCars$Rates" "negated" "[I", Cond.methodLink RX3 70 yX8_numberAt, Cond.instanceMethod yX8_numberAt, Cond.selects RX8 yX8_numberAt yX8_numberAt, Cond.code yX8_numberAt cX8_numberAt 2 (some .int), Cond.fieldLink RX8 15 "SleepingCars$Tokens" "numbers" "[I", Cond.methodLink RX3 73 yX2_addLine, Cond.instanceMethod yX2_addLine, Cond.selects RX2 yX2_addLine yX2_addLine, Cond.code yX2_addLine cX2_addLine 3 none, Cond.fieldLink RX2 9 "SleepingCars$Rates" "charges" "[I", Cond.fieldLink RX2 15 "SleepingCars$Rates" "amounts" "[I"]
def wsX3_readLine : List Cond := .code yX3_readLine cX3_readLine 4 none :: ((wsX3_readLine_r1 ++ (wsX3_readLine_r2 ++ wsX3_readLine_r3)) ++ wsX30 ++ wsX80 ++ wsX20)
def wsX3_read_r1 : List Cond := [Cond.fieldLink RX3 9 "SleepingCars$Reader" "faultKind" "I", Cond.fieldLink RX3 15 "SleepingCars$Reader" "faultPlace" "I", Cond.fieldLink RX3 32 "SleepingCars$Reader" "surplusPlace" "I", Cond.fieldLink RX3 35 "SleepingCars$Reader" "at" "I", Cond.fieldLink RX3 21 "SleepingCars$Reader" "draft" "LSleepingCars$Rates;", Cond.fieldLink RX3 28 "SleepingCars$Reader" "tokens" "LSleepingCars$Tokens;", Cond.methodLink RX3 38 yX2_clear, Cond.instanceMethod yX2_clear, Cond.selects RX2 yX2_clear yX2_clear, Cond.initialized RX2, Cond.code yX2_clear cX2_clear 1 none, Cond.fieldLink RX2 33 "SleepingCars$Rates" "lines" "I", Cond.fieldLink RX2 18 "SleepingCars$Rates" "tests" "[I", Cond.methodLink RX2 37 yJ7_fill_53178, Cond.static yJ7_fill_53178, Cond.initialized RJ7, Cond.code yJ7_fill_53178 cJ7_fill_53178 4 none, Cond.methodLink RX3 41 yX8_split, Cond.instanceMethod yX8_split, Cond.selects RX8 yX8_split yX8_split, Cond.initialized RX8, Cond.code yX8_split cX8_split 3 none, Cond.fieldLink RX8 21 "SleepingCars$Tokens" "size" "I", Cond.fieldLink RX8 25 "SleepingCars$Tape" "size" "I"]
def wsX3_read_r2 : List Cond := [Cond.methodLink RX8 32 Lib.Math.max.name, Cond.static Lib.Math.max.name, Cond.initialized "java/lang/Math", Cond.code Lib.Math.max.name Lib.Math.max.code 2 (some .int), Cond.methodLink RX8 28 yX8_takeAt, Cond.instanceMethod yX8_takeAt, Cond.selects RX8 yX8_takeAt yX8_takeAt, Cond.code yX8_takeAt cX8_takeAt 5 (some .int), Cond.fieldLink RX8 42 "SleepingCars$Tape" "bytes" "[I", Cond.methodLink RX8 45 yX8_isIn, Cond.static yX8_isIn, Cond.code yX8_isIn cX8_isIn 3 (some .boolean), Cond.methodLink RX8 49 yX8_rowLength, Cond.static yX8_rowLength, Cond.code yX8_rowLength cX8_rowLength 5 (some .int), Cond.methodLink RX8 53 yX8_wordKind, Cond.static yX8_wordKind, Cond.code yX8_wordKind cX8_wordKind 4 (some .int), Cond.methodLink RX8 64 yX8_wordOf, Cond.static yX8_wordOf, Cond.code yX8_wordOf cX8_wordOf 1 (some (.object "java/lang/String")), Cond.methodLink RX8 68 yX8_spells, Cond.static yX8_spells, Cond.code yX8_spells cX8_spells 5 (some .boolean)]
def wsX3_read_r3 : List Cond := [Cond.methodLink RX8 96 yJ0_length_8abf5, Cond.instanceMethod yJ0_length_8abf5, Cond.selects RJ0 yJ0_length_8abf5 yJ0_length_8abf5, Cond.initialized RJ0, Cond.code yJ0_length_8abf5 cJ0_length_8abf5 1 (some .int), Cond.fieldLink RJ0 9 "java/lang/String" "value" "[B", Cond.methodLink RJ0 335 yJ0_coder_7d493, Cond.instanceMethod yJ0_coder_7d493, Cond.selects RJ0 yJ0_coder_7d493 yJ0_coder_7d493, Cond.code yJ0_coder_7d493 cJ0_coder_7d493 1 (some .byte), Cond.fieldLink RJ0 38 "java/lang/String" "COMPACT_STRINGS" "Z", Cond.fieldLink RJ0 15 "java/lang/String" "coder" "B", Cond.methodLink RX8 102 yJ0_charAt_5068e, Cond.instanceMethod yJ0_charAt_5068e, Cond.selects RJ0 yJ0_charAt_5068e yJ0_charAt_5068e, Cond.code yJ0_charAt_5068e cJ0_charAt_5068e 2 (some .char), Cond.methodLink RJ0 492 yJ0_isLatin1_aae02, Cond.instanceMethod yJ0_isLatin1_aae02, Cond.selects RJ0 yJ0_isLatin1_aae02 yJ0_isLatin1_aae02, Cond.code yJ0_isLatin1_aae02 cJ0_isLatin1_aae02 1 (some .boolean), Cond.methodLink RJ0 495 yJ1_charAt_3b067, Cond.static yJ1_charAt_3b067, Cond.initialized RJ1, Cond.code yJ1_charAt_3b067 cJ1_charAt_3b067 2 (some .char)]
def wsX3_read_r4 : List Cond := [Cond.methodLink RJ1 9 yJ0_checkIndex_df160, Cond.static yJ0_checkIndex_df160, Cond.code yJ0_checkIndex_df160 cJ0_checkIndex_df160 2 none, Cond.fieldLink RJ0 1053 "jdk/internal/util/Preconditions" "SIOOBE_FORMATTER" "Ljava/util/function/BiFunction;", Cond.methodLink RJ0 1059 yJ3_checkIndex_8e157, Cond.static yJ3_checkIndex_8e157, Cond.initialized RJ3, Cond.code yJ3_checkIndex_8e157 cJ3_checkIndex_8e157 3 (some .int), Cond.methodLink RJ0 498 yJ2_charAt_3b067, Cond.static yJ2_charAt_3b067, Cond.initialized RJ2, Cond.code yJ2_charAt_3b067 cJ2_charAt_3b067 2 (some .char), Cond.methodLink RJ2 67 yJ2_checkIndex_2214a, Cond.static yJ2_checkIndex_2214a, Cond.code yJ2_checkIndex_2214a cJ2_checkIndex_2214a 2 none, Cond.methodLink RJ2 48 yJ2_length_9d52b, Cond.static yJ2_length_9d52b, Cond.code yJ2_length_9d52b cJ2_length_9d52b 1 (some .int), Cond.methodLink RJ2 414 yJ0_checkIndex_df160, Cond.methodLink RJ2 71 yJ2_getChar_3b067, Cond.static yJ2_getChar_3b067, Cond.code yJ2_getChar_3b067 cJ2_getChar_3b067 2 (some .char), Cond.fieldLink RJ2 44 "java/lang/StringUTF16" "$assertionsDisabled" "Z", Cond.fieldLink RJ2 59 "java/lang/StringUTF16" "HI_BYTE_SHIFT" "I"]
def wsX3_read_r5 : List Cond := [Cond.fieldLink RJ2 63 "java/lang/StringUTF16" "LO_BYTE_SHIFT" "I", Cond.methodLink RX8 38 yX8_add, Cond.instanceMethod yX8_add, Cond.selects RX8 yX8_add yX8_add, Cond.code yX8_add cX8_add 4 none, Cond.fieldLink RX8 9 "SleepingCars$Tokens" "kinds" "[I", Cond.fieldLink RX8 15 "SleepingCars$Tokens" "numbers" "[I", Cond.fieldLink RX8 18 "SleepingCars$Tokens" "places" "[I", Cond.methodLink RX8 57 yX8_numberOf, Cond.static yX8_numberOf, Cond.code yX8_numberOf cX8_numberOf 5 (some .int), Cond.methodLink RX8 60 yX8_signKind, Cond.static yX8_signKind, Cond.code yX8_signKind cX8_signKind 1 (some .int), Cond.methodLink RX3 45 yX3_isSound, Cond.instanceMethod yX3_isSound, Cond.selects RX3 yX3_isSound yX3_isSound, Cond.initialized RX3, Cond.code yX3_isSound cX3_isSound 1 (some .boolean), Cond.methodLink RX3 49 yX3_isNext, Cond.instanceMethod yX3_isNext, Cond.selects RX3 yX3_isNext yX3_isNext, Cond.code yX3_isNext cX3_isNext 2 (some .boolean), Cond.methodLink RX3 66 yX8_kindAt]
def wsX3_read_r6 : List Cond := [Cond.instanceMethod yX8_kindAt, Cond.selects RX8 yX8_kindAt yX8_kindAt, Cond.code yX8_kindAt cX8_kindAt 2 (some .int), Cond.methodLink RX3 53 yX3_readLine, Cond.instanceMethod yX3_readLine, Cond.selects RX3 yX3_readLine yX3_readLine, Cond.code yX3_readLine cX3_readLine 4 none, Cond.methodLink RX3 57 yX3_noteSurplus, Cond.instanceMethod yX3_noteSurplus, Cond.selects RX3 yX3_noteSurplus yX3_noteSurplus, Cond.code yX3_noteSurplus cX3_noteSurplus 1 none, Cond.methodLink RX3 84 yX8_placeAt, Cond.instanceMethod yX8_placeAt, Cond.selects RX8 yX8_placeAt yX8_placeAt, Cond.code yX8_placeAt cX8_placeAt 2 (some .int), Cond.methodLink RX3 60 yX3_readTests, Cond.instanceMethod yX3_readTests, Cond.selects RX3 yX3_readTests yX3_readTests, Cond.code yX3_readTests cX3_readTests 2 none, Cond.methodLink RX3 77 yX3_readTest, Cond.instanceMethod yX3_readTest, Cond.selects RX3 yX3_readTest yX3_readTest, Cond.code yX3_readTest cX3_readTest 6 none, Cond.methodLink RX3 63 yX3_takeIf]
def wsX3_read_r7 : List Cond := [Cond.instanceMethod yX3_takeIf, Cond.selects RX3 yX3_takeIf yX3_takeIf, Cond.code yX3_takeIf cX3_takeIf 2 none, Cond.methodLink RX3 80 yX2_addTest, Cond.instanceMethod yX2_addTest, Cond.selects RX2 yX2_addTest yX2_addTest, Cond.code yX2_addTest cX2_addTest 6 none, Cond.fieldLink RX2 21 "SleepingCars$Rates" "subjects" "[I", Cond.fieldLink RX2 24 "SleepingCars$Rates" "signs" "[I", Cond.fieldLink RX2 27 "SleepingCars$Rates" "bounds" "[I", Cond.fieldLink RX2 30 "SleepingCars$Rates" "negated" "[I", Cond.methodLink RX3 70 yX8_numberAt, Cond.instanceMethod yX8_numberAt, Cond.selects RX8 yX8_numberAt yX8_numberAt, Cond.code yX8_numberAt cX8_numberAt 2 (some .int), Cond.methodLink RX3 73 yX2_addLine, Cond.instanceMethod yX2_addLine, Cond.selects RX2 yX2_addLine yX2_addLine, Cond.code yX2_addLine cX2_addLine 3 none, Cond.fieldLink RX2 9 "SleepingCars$Rates" "charges" "[I", Cond.fieldLink RX2 15 "SleepingCars$Rates" "amounts" "[I"]
def wsX3_read : List Cond := .code yX3_read cX3_read 3 none :: ((wsX3_read_r1 ++ (wsX3_read_r2 ++ (wsX3_read_r3 ++ (wsX3_read_r4 ++ (wsX3_read_r5 ++ (wsX3_read_r6 ++ wsX3_read_r7)))))) ++ wsX30 ++ wsX20 ++ wsX80 ++ wsX60)
def wsX4_isStop : List Cond := .code yX4_isStop cX4_isStop 2 (some .boolean) :: ([.fieldLink RX4 22 "SleepingCars$Route" "stops" "I"] ++ wsX40)
def wsX4_hasLeg : List Cond := .code yX4_hasLeg cX4_hasLeg 2 (some .boolean) :: ([.fieldLink RX4 22 "SleepingCars$Route" "stops" "I"] ++ wsX40)
def wsX4_allHours : List Cond := .code yX4_allHours cX4_allHours 1 (some .int) :: ([.fieldLink RX4 22 "SleepingCars$Route" "stops" "I", .methodLink RX4 32 yX4_hoursTo, .instanceMethod yX4_hoursTo, .selects RX4 yX4_hoursTo yX4_hoursTo, .initialized RX4, .code yX4_hoursTo cX4_hoursTo 4 (some .int), .fieldLink RX4 15 "SleepingCars$Route" "legHours" "[I"] ++ wsX40)
def wsX4_allKm : List Cond := .code yX4_allKm cX4_allKm 3 (some .int) :: ([.fieldLink RX4 22 "SleepingCars$Route" "stops" "I", .fieldLink RX4 9 "SleepingCars$Route" "legKm" "[I"] ++ wsX40)
def wsX5_hasBerth : List Cond := .code yX5_hasBerth cX5_hasBerth 3 (some .boolean) :: ([.fieldLink RX5 9 "SleepingCars$Runs" "berths" "[I", .methodLink RX5 21 yX5_isTold, .instanceMethod yX5_isTold, .selects RX5 yX5_isTold yX5_isTold, .initialized RX5, .code yX5_isTold cX5_isTold 2 (some .boolean)] ++ wsX50)
def wsX5_add : List Cond := .code yX5_add cX5_add 4 none :: ([.fieldLink RX5 25 "SleepingCars$Runs" "size" "I", .fieldLink RX5 9 "SleepingCars$Runs" "berths" "[I", .fieldLink RX5 15 "SleepingCars$Runs" "owners" "[I", .methodLink RX5 29 arraycopyName, .native arraycopyName, .static arraycopyName, .initialized "java/lang/System"] ++ wsX50)
def wsX6_init : List Cond := .code yX6_init cX6_init 1 none :: ([.methodLink RX6 3 objectInit, .instanceMethod objectInit, .code objectInit ⟨#[0xb1]⟩ 1 none, .arrayClass .int, .fieldLink RX6 9 "SleepingCars$Tape" "bytes" "[I"] ++ wsX60)
def wsX6_append : List Cond := .code yX6_append cX6_append 3 none :: ([.fieldLink RX6 15 "SleepingCars$Tape" "size" "I", .fieldLink RX6 9 "SleepingCars$Tape" "bytes" "[I"] ++ wsX60)
def wsX7_has : List Cond := .code yX7_has cX7_has 2 (some .boolean) :: ([.fieldLink RX7 30 "SleepingCars$Tickets" "size" "I"] ++ wsX70)
def wsX7_liveOf : List Cond := .code yX7_liveOf cX7_liveOf 4 (some .int) :: ([.fieldLink RX7 30 "SleepingCars$Tickets" "size" "I", .methodLink RX7 42 yX7_isLive, .instanceMethod yX7_isLive, .selects RX7 yX7_isLive yX7_isLive, .initialized RX7, .code yX7_isLive cX7_isLive 3 (some .boolean), .fieldLink RX7 27 "SleepingCars$Tickets" "given" "[I", .fieldLink RX7 9 "SleepingCars$Tickets" "days" "[I"] ++ wsX70)
def wsX7_find : List Cond := .code yX7_find cX7_find 5 (some .int) :: ([.fieldLink RX7 30 "SleepingCars$Tickets" "size" "I", .fieldLink RX7 15 "SleepingCars$Tickets" "berths" "[I", .fieldLink RX7 18 "SleepingCars$Tickets" "froms" "[I", .fieldLink RX7 21 "SleepingCars$Tickets" "tos" "[I", .methodLink RX7 42 yX7_isLive, .instanceMethod yX7_isLive, .selects RX7 yX7_isLive yX7_isLive, .initialized RX7, .code yX7_isLive cX7_isLive 3 (some .boolean), .fieldLink RX7 27 "SleepingCars$Tickets" "given" "[I", .fieldLink RX7 9 "SleepingCars$Tickets" "days" "[I"] ++ wsX70)
def wsX9_init_r1 : List Cond := [Cond.methodLink RX9 1 objectInit, Cond.instanceMethod objectInit, Cond.code objectInit ⟨#[0xb1]⟩ 1 none, Cond.classLink RX9 7 RX0, Cond.instantiable RX0 10, Cond.initialized RX0, Cond.fieldLink RX9 10 "SleepingCars" "book" "LSleepingCars$Book;", Cond.fieldLink RX9 16 "SleepingCars" "images" "[LSleepingCars$Book;", Cond.classLink RX9 20 RX6, Cond.instantiable RX6 2, Cond.initialized RX6, Cond.fieldLink RX9 23 "SleepingCars" "tape" "LSleepingCars$Tape;", Cond.classLink RX9 27 RX3, Cond.instantiable RX3 6, Cond.initialized RX3, Cond.fieldLink RX9 30 "SleepingCars" "reader" "LSleepingCars$Reader;", Cond.instanceMethod yX0_init, Cond.code yX0_init cX0_init 1 none, Cond.methodLink RX0 3 objectInit, Cond.classLink RX0 9 RX4, Cond.instantiable RX4 3, Cond.initialized RX4, Cond.fieldLink RX0 12 "SleepingCars$Book" "route" "LSleepingCars$Route;", Cond.classLink RX0 18 RX5]
def wsX9_init_r2 : List Cond := [Cond.instantiable RX5 4, Cond.initialized RX5, Cond.fieldLink RX0 21 "SleepingCars$Book" "runs" "LSleepingCars$Runs;", Cond.classLink RX0 25 RX7, Cond.instantiable RX7 7, Cond.initialized RX7, Cond.fieldLink RX0 28 "SleepingCars$Book" "tickets" "LSleepingCars$Tickets;", Cond.classLink RX0 32 RX1, Cond.instantiable RX1 8, Cond.initialized RX1, Cond.fieldLink RX0 35 "SleepingCars$Book" "letters" "LSleepingCars$Letters;", Cond.classLink RX0 39 RX2, Cond.instantiable RX2 8, Cond.initialized RX2, Cond.fieldLink RX0 42 "SleepingCars$Book" "rates" "LSleepingCars$Rates;", Cond.arrayClass .int, Cond.fieldLink RX0 46 "SleepingCars$Book" "officeStops" "[I", Cond.fieldLink RX0 50 "SleepingCars$Book" "shares" "[I", Cond.fieldLink RX0 53 "SleepingCars$Book" "newLegs" "[I", Cond.fieldLink RX0 56 "SleepingCars$Book" "facts" "[I", Cond.methodLink RX0 11 yX4_init, Cond.instanceMethod yX4_init, Cond.code yX4_init cX4_init 1 none, Cond.methodLink RX4 3 objectInit]
def wsX9_init_r3 : List Cond := [Cond.fieldLink RX4 9 "SleepingCars$Route" "legKm" "[I", Cond.fieldLink RX4 15 "SleepingCars$Route" "legHours" "[I", Cond.methodLink RX4 18 yX4_lay, Cond.instanceMethod yX4_lay, Cond.selects RX4 yX4_lay yX4_lay, Cond.code yX4_lay cX4_lay 2 none, Cond.fieldLink RX4 22 "SleepingCars$Route" "stops" "I", Cond.methodLink RX4 26 yJ7_fill_53178, Cond.static yJ7_fill_53178, Cond.initialized RJ7, Cond.code yJ7_fill_53178 cJ7_fill_53178 4 none, Cond.instanceMethod yX5_init, Cond.code yX5_init cX5_init 1 none, Cond.methodLink RX5 3 objectInit, Cond.fieldLink RX5 9 "SleepingCars$Runs" "berths" "[I", Cond.fieldLink RX5 15 "SleepingCars$Runs" "owners" "[I", Cond.fieldLink RX5 18 "SleepingCars$Runs" "soldLegs" "[I", Cond.instanceMethod yX7_init, Cond.code yX7_init cX7_init 1 none, Cond.methodLink RX7 3 objectInit, Cond.fieldLink RX7 9 "SleepingCars$Tickets" "days" "[I", Cond.fieldLink RX7 15 "SleepingCars$Tickets" "berths" "[I", Cond.fieldLink RX7 18 "SleepingCars$Tickets" "froms" "[I", Cond.fieldLink RX7 21 "SleepingCars$Tickets" "tos" "[I"]
def wsX9_init_r4 : List Cond := [Cond.fieldLink RX7 24 "SleepingCars$Tickets" "offices" "[I", Cond.fieldLink RX7 27 "SleepingCars$Tickets" "given" "[I", Cond.instanceMethod yX1_init, Cond.code yX1_init cX1_init 1 none, Cond.methodLink RX1 3 objectInit, Cond.fieldLink RX1 9 "SleepingCars$Letters" "offices" "[I", Cond.fieldLink RX1 15 "SleepingCars$Letters" "days" "[I", Cond.fieldLink RX1 18 "SleepingCars$Letters" "froms" "[I", Cond.fieldLink RX1 21 "SleepingCars$Letters" "tos" "[I", Cond.fieldLink RX1 24 "SleepingCars$Letters" "comes" "[I", Cond.fieldLink RX1 27 "SleepingCars$Letters" "answered" "[I", Cond.fieldLink RX1 30 "SleepingCars$Letters" "sold" "[I", Cond.instanceMethod yX2_init, Cond.code yX2_init cX2_init 1 none, Cond.methodLink RX2 3 objectInit, Cond.fieldLink RX2 9 "SleepingCars$Rates" "charges" "[I", Cond.fieldLink RX2 15 "SleepingCars$Rates" "amounts" "[I", Cond.fieldLink RX2 18 "SleepingCars$Rates" "tests" "[I", Cond.fieldLink RX2 21 "SleepingCars$Rates" "subjects" "[I", Cond.fieldLink RX2 24 "SleepingCars$Rates" "signs" "[I", Cond.fieldLink RX2 27 "SleepingCars$Rates" "bounds" "[I", Cond.fieldLink RX2 30 "SleepingCars$Rates" "negated" "[I", Cond.instanceMethod yX6_init, Cond.code yX6_init cX6_init 1 none]
def wsX9_init_r5 : List Cond := [Cond.methodLink RX6 3 objectInit, Cond.fieldLink RX6 9 "SleepingCars$Tape" "bytes" "[I", Cond.instanceMethod yX3_init, Cond.code yX3_init cX3_init 1 none, Cond.methodLink RX3 3 objectInit, Cond.fieldLink RX3 9 "SleepingCars$Reader" "faultKind" "I", Cond.fieldLink RX3 15 "SleepingCars$Reader" "faultPlace" "I", Cond.classLink RX3 18 RX2, Cond.fieldLink RX3 21 "SleepingCars$Reader" "draft" "LSleepingCars$Rates;", Cond.classLink RX3 25 RX8, Cond.instantiable RX8 4, Cond.initialized RX8, Cond.fieldLink RX3 28 "SleepingCars$Reader" "tokens" "LSleepingCars$Tokens;", Cond.instanceMethod yX8_init, Cond.code yX8_init cX8_init 1 none, Cond.methodLink RX8 3 objectInit, Cond.fieldLink RX8 9 "SleepingCars$Tokens" "kinds" "[I", Cond.fieldLink RX8 15 "SleepingCars$Tokens" "numbers" "[I", Cond.fieldLink RX8 18 "SleepingCars$Tokens" "places" "[I"]
def wsX9_init : List Cond := .code yX9_init cX9_init 1 none :: ((wsX9_init_r1 ++ (wsX9_init_r2 ++ (wsX9_init_r3 ++ (wsX9_init_r4 ++ wsX9_init_r5)))) ++ wsX00 ++ wsX90 ++ wsX60 ++ wsX30 ++ wsX40 ++ wsX50 ++ wsX70 ++ wsX10 ++ wsX20 ++ wsX80)
def wsX9_line : List Cond := .code yX9_line cX9_line 2 (some .boolean) :: ([.fieldLink RX9 10 "SleepingCars" "book" "LSleepingCars$Book;", .fieldLink RX9 34 "SleepingCars$Book" "runs" "LSleepingCars$Runs;", .fieldLink RX9 38 "SleepingCars$Runs" "size" "I", .fieldLink RX9 44 "SleepingCars$Book" "route" "LSleepingCars$Route;", .fieldLink RX9 54 "SleepingCars$Book" "officeStops" "[I", .methodLink RX9 48 yX4_lay, .instanceMethod yX4_lay, .selects RX4 yX4_lay yX4_lay, .initialized RX4, .code yX4_lay cX4_lay 2 none, .fieldLink RX4 22 "SleepingCars$Route" "stops" "I", .fieldLink RX4 9 "SleepingCars$Route" "legKm" "[I", .fieldLink RX4 15 "SleepingCars$Route" "legHours" "[I", .methodLink RX4 26 yJ7_fill_53178, .static yJ7_fill_53178, .initialized RJ7, .code yJ7_fill_53178 cJ7_fill_53178 4 none, .methodLink RX9 58 yJ7_fill_53178] ++ wsX90 ++ wsX00 ++ wsX50 ++ wsX40)
def wsX9_stretch : List Cond := .code yX9_stretch cX9_stretch 4 (some .boolean) :: ([.fieldLink RX9 10 "SleepingCars" "book" "LSleepingCars$Book;", .fieldLink RX9 34 "SleepingCars$Book" "runs" "LSleepingCars$Runs;", .fieldLink RX9 38 "SleepingCars$Runs" "size" "I", .fieldLink RX9 44 "SleepingCars$Book" "route" "LSleepingCars$Route;", .fieldLink RX9 68 "SleepingCars$Route" "legKm" "[I", .fieldLink RX9 71 "SleepingCars$Route" "legHours" "[I", .methodLink RX9 64 yX4_hasLeg, .instanceMethod yX4_hasLeg, .selects RX4 yX4_hasLeg yX4_hasLeg, .initialized RX4, .code yX4_hasLeg cX4_hasLeg 2 (some .boolean), .fieldLink RX4 22 "SleepingCars$Route" "stops" "I"] ++ wsX90 ++ wsX00 ++ wsX50 ++ wsX40)
def wsX9_isOffice : List Cond := .code yX9_isOffice cX9_isOffice 1 (some .boolean) :: ([])
def wsX9_office : List Cond := .code yX9_office cX9_office 3 (some .boolean) :: ([.fieldLink RX9 10 "SleepingCars" "book" "LSleepingCars$Book;", .fieldLink RX9 34 "SleepingCars$Book" "runs" "LSleepingCars$Runs;", .fieldLink RX9 38 "SleepingCars$Runs" "size" "I", .fieldLink RX9 44 "SleepingCars$Book" "route" "LSleepingCars$Route;", .fieldLink RX9 54 "SleepingCars$Book" "officeStops" "[I", .methodLink RX9 74 yX9_isOffice, .static yX9_isOffice, .initialized RX9, .code yX9_isOffice cX9_isOffice 1 (some .boolean), .methodLink RX9 77 yX4_isStop, .instanceMethod yX4_isStop, .selects RX4 yX4_isStop yX4_isStop, .initialized RX4, .code yX4_isStop cX4_isStop 2 (some .boolean), .fieldLink RX4 22 "SleepingCars$Route" "stops" "I"] ++ wsX90 ++ wsX00 ++ wsX50 ++ wsX40)
def wsX9_share : List Cond := .code yX9_share cX9_share 3 (some .boolean) :: ([.fieldLink RX9 10 "SleepingCars" "book" "LSleepingCars$Book;", .fieldLink RX9 80 "SleepingCars$Book" "shares" "[I", .methodLink RX9 74 yX9_isOffice, .static yX9_isOffice, .initialized RX9, .code yX9_isOffice cX9_isOffice 1 (some .boolean)] ++ wsX90 ++ wsX00)
def wsX9_run_r1 : List Cond := [Cond.fieldLink RX9 10 "SleepingCars" "book" "LSleepingCars$Book;", Cond.fieldLink RX9 34 "SleepingCars$Book" "runs" "LSleepingCars$Runs;", Cond.fieldLink RX9 80 "SleepingCars$Book" "shares" "[I", Cond.methodLink RX9 83 yX5_isTold, Cond.instanceMethod yX5_isTold, Cond.selects RX5 yX5_isTold yX5_isTold, Cond.initialized RX5, Cond.code yX5_isTold cX5_isTold 2 (some .boolean), Cond.fieldLink RX5 9 "SleepingCars$Runs" "berths" "[I", Cond.methodLink RX9 86 yX0_hasLeft, Cond.instanceMethod yX0_hasLeft, Cond.selects RX0 yX0_hasLeft yX0_hasLeft, Cond.initialized RX0, Cond.code yX0_hasLeft cX0_hasLeft 3 (some .boolean), Cond.fieldLink RX0 67 "SleepingCars$Book" "now" "I", Cond.fieldLink RX0 12 "SleepingCars$Book" "route" "LSleepingCars$Route;", Cond.methodLink RX0 71 yX4_hoursTo, Cond.instanceMethod yX4_hoursTo, Cond.selects RX4 yX4_hoursTo yX4_hoursTo, Cond.initialized RX4, Cond.code yX4_hoursTo cX4_hoursTo 4 (some .int), Cond.fieldLink RX4 15 "SleepingCars$Route" "legHours" "[I", Cond.methodLink RX9 90 yX5_add, Cond.instanceMethod yX5_add]
def wsX9_run_r2 : List Cond := [Cond.selects RX5 yX5_add yX5_add, Cond.code yX5_add cX5_add 4 none, Cond.fieldLink RX5 25 "SleepingCars$Runs" "size" "I", Cond.fieldLink RX5 15 "SleepingCars$Runs" "owners" "[I", Cond.methodLink RX5 29 arraycopyName, Cond.native arraycopyName, Cond.static arraycopyName, Cond.initialized "java/lang/System"]
def wsX9_run : List Cond := .code yX9_run cX9_run 3 (some .boolean) :: ((wsX9_run_r1 ++ wsX9_run_r2) ++ wsX90 ++ wsX00 ++ wsX50 ++ wsX40)
def wsX9_sell_r1 : List Cond := [Cond.fieldLink RX9 10 "SleepingCars" "book" "LSleepingCars$Book;", Cond.methodLink RX9 74 yX9_isOffice, Cond.static yX9_isOffice, Cond.initialized RX9, Cond.code yX9_isOffice cX9_isOffice 1 (some .boolean), Cond.methodLink RX9 94 yX0_isRunStretch, Cond.instanceMethod yX0_isRunStretch, Cond.selects RX0 yX0_isRunStretch yX0_isRunStretch, Cond.initialized RX0, Cond.code yX0_isRunStretch cX0_isRunStretch 4 (some .boolean), Cond.fieldLink RX0 21 "SleepingCars$Book" "runs" "LSleepingCars$Runs;", Cond.fieldLink RX0 12 "SleepingCars$Book" "route" "LSleepingCars$Route;", Cond.methodLink RX0 59 yX5_isTold, Cond.instanceMethod yX5_isTold, Cond.selects RX5 yX5_isTold yX5_isTold, Cond.initialized RX5, Cond.code yX5_isTold cX5_isTold 2 (some .boolean), Cond.fieldLink RX5 9 "SleepingCars$Runs" "berths" "[I", Cond.methodLink RX0 63 yX4_isStretch, Cond.instanceMethod yX4_isStretch, Cond.selects RX4 yX4_isStretch yX4_isStretch, Cond.initialized RX4, Cond.code yX4_isStretch cX4_isStretch 3 (some .boolean), Cond.fieldLink RX4 22 "SleepingCars$Route" "stops" "I"]
def wsX9_sell_r2 : List Cond := [Cond.methodLink RX9 98 yX0_sellStretch, Cond.instanceMethod yX0_sellStretch, Cond.selects RX0 yX0_sellStretch yX0_sellStretch, Cond.code yX0_sellStretch cX0_sellStretch 6 (some .int), Cond.fieldLink RX0 28 "SleepingCars$Book" "tickets" "LSleepingCars$Tickets;", Cond.methodLink RX0 79 yX7_isFull, Cond.instanceMethod yX7_isFull, Cond.selects RX7 yX7_isFull yX7_isFull, Cond.initialized RX7, Cond.code yX7_isFull cX7_isFull 1 (some .boolean), Cond.fieldLink RX7 30 "SleepingCars$Tickets" "size" "I", Cond.methodLink RX0 83 yX0_hasLeft, Cond.instanceMethod yX0_hasLeft, Cond.selects RX0 yX0_hasLeft yX0_hasLeft, Cond.code yX0_hasLeft cX0_hasLeft 3 (some .boolean), Cond.fieldLink RX0 67 "SleepingCars$Book" "now" "I", Cond.methodLink RX0 71 yX4_hoursTo, Cond.instanceMethod yX4_hoursTo, Cond.selects RX4 yX4_hoursTo yX4_hoursTo, Cond.code yX4_hoursTo cX4_hoursTo 4 (some .int), Cond.fieldLink RX4 15 "SleepingCars$Route" "legHours" "[I", Cond.methodLink RX0 86 yX0_tightestBerth, Cond.instanceMethod yX0_tightestBerth, Cond.selects RX0 yX0_tightestBerth yX0_tightestBerth]
def wsX9_sell_r3 : List Cond := [Cond.code yX0_tightestBerth cX0_tightestBerth 10 (some .int), Cond.fieldLink RX0 104 "SleepingCars$Runs" "berths" "[I", Cond.fieldLink RX0 111 "SleepingCars$Route" "stops" "I", Cond.methodLink RX0 90 yX5_legsOf, Cond.instanceMethod yX5_legsOf, Cond.selects RX5 yX5_legsOf yX5_legsOf, Cond.code yX5_legsOf cX5_legsOf 3 (some .int), Cond.fieldLink RX5 18 "SleepingCars$Runs" "soldLegs" "[I", Cond.static yX9_legsBetween, Cond.code yX9_legsBetween cX9_legsBetween 2 (some .int), Cond.methodLink RX0 107 yX0_isOnChart, Cond.instanceMethod yX0_isOnChart, Cond.selects RX0 yX0_isOnChart yX0_isOnChart, Cond.code yX0_isOnChart cX0_isOnChart 4 (some .boolean), Cond.methodLink RX0 75 yX5_owner, Cond.instanceMethod yX5_owner, Cond.selects RX5 yX5_owner yX5_owner, Cond.code yX5_owner cX5_owner 3 (some .int), Cond.fieldLink RX5 15 "SleepingCars$Runs" "owners" "[I", Cond.methodLink RX0 114 yX5_gap, Cond.instanceMethod yX5_gap, Cond.selects RX5 yX5_gap yX5_gap, Cond.code yX5_gap cX5_gap 8 (some .int), Cond.methodLink RX5 39 yX5_isSold]
def wsX9_sell_r4 : List Cond := [Cond.instanceMethod yX5_isSold, Cond.selects RX5 yX5_isSold yX5_isSold, Cond.code yX5_isSold cX5_isSold 4 (some .boolean), Cond.methodLink RX5 35 yX5_legsOf, Cond.methodLink RX0 96 yX5_setLegs, Cond.instanceMethod yX5_setLegs, Cond.selects RX5 yX5_setLegs yX5_setLegs, Cond.code yX5_setLegs cX5_setLegs 4 none, Cond.methodLink RX0 100 yX7_add, Cond.instanceMethod yX7_add, Cond.selects RX7 yX7_add yX7_add, Cond.code yX7_add cX7_add 6 (some .int), Cond.fieldLink RX7 9 "SleepingCars$Tickets" "days" "[I", Cond.fieldLink RX7 15 "SleepingCars$Tickets" "berths" "[I", Cond.fieldLink RX7 18 "SleepingCars$Tickets" "froms" "[I", Cond.fieldLink RX7 21 "SleepingCars$Tickets" "tos" "[I", Cond.fieldLink RX7 24 "SleepingCars$Tickets" "offices" "[I", Cond.fieldLink RX7 27 "SleepingCars$Tickets" "given" "[I", Cond.methodLink RX7 34 yX7_isFull]
def wsX9_sell : List Cond := .code yX9_sell cX9_sell 5 (some .int) :: ((wsX9_sell_r1 ++ (wsX9_sell_r2 ++ (wsX9_sell_r3 ++ wsX9_sell_r4))) ++ wsX90 ++ wsX00 ++ wsX50 ++ wsX40 ++ wsX70)
def wsX9_back_r1 : List Cond := [Cond.fieldLink RX9 10 "SleepingCars" "book" "LSleepingCars$Book;", Cond.fieldLink RX9 102 "SleepingCars$Book" "tickets" "LSleepingCars$Tickets;", Cond.methodLink RX9 106 yX7_has, Cond.instanceMethod yX7_has, Cond.selects RX7 yX7_has yX7_has, Cond.initialized RX7, Cond.code yX7_has cX7_has 2 (some .boolean), Cond.fieldLink RX7 30 "SleepingCars$Tickets" "size" "I", Cond.methodLink RX9 111 yX0_takeBack, Cond.instanceMethod yX0_takeBack, Cond.selects RX0 yX0_takeBack yX0_takeBack, Cond.initialized RX0, Cond.code yX0_takeBack cX0_takeBack 4 (some .boolean), Cond.fieldLink RX0 28 "SleepingCars$Book" "tickets" "LSleepingCars$Tickets;", Cond.fieldLink RX0 117 "SleepingCars$Tickets" "days" "[I", Cond.fieldLink RX0 120 "SleepingCars$Tickets" "given" "[I", Cond.fieldLink RX0 123 "SleepingCars$Tickets" "froms" "[I", Cond.fieldLink RX0 126 "SleepingCars$Tickets" "berths" "[I", Cond.fieldLink RX0 21 "SleepingCars$Book" "runs" "LSleepingCars$Runs;", Cond.methodLink RX0 83 yX0_hasLeft, Cond.instanceMethod yX0_hasLeft, Cond.selects RX0 yX0_hasLeft yX0_hasLeft, Cond.code yX0_hasLeft cX0_hasLeft 3 (some .boolean), Cond.fieldLink RX0 67 "SleepingCars$Book" "now" "I"]
def wsX9_back_r2 : List Cond := [Cond.fieldLink RX0 12 "SleepingCars$Book" "route" "LSleepingCars$Route;", Cond.methodLink RX0 71 yX4_hoursTo, Cond.instanceMethod yX4_hoursTo, Cond.selects RX4 yX4_hoursTo yX4_hoursTo, Cond.initialized RX4, Cond.code yX4_hoursTo cX4_hoursTo 4 (some .int), Cond.fieldLink RX4 15 "SleepingCars$Route" "legHours" "[I", Cond.methodLink RX0 90 yX5_legsOf, Cond.instanceMethod yX5_legsOf, Cond.selects RX5 yX5_legsOf yX5_legsOf, Cond.initialized RX5, Cond.code yX5_legsOf cX5_legsOf 3 (some .int), Cond.fieldLink RX5 18 "SleepingCars$Runs" "soldLegs" "[I", Cond.methodLink RX0 127 yX7_legsOf, Cond.instanceMethod yX7_legsOf, Cond.selects RX7 yX7_legsOf yX7_legsOf, Cond.code yX7_legsOf cX7_legsOf 2 (some .int), Cond.fieldLink RX7 18 "SleepingCars$Tickets" "froms" "[I", Cond.fieldLink RX7 21 "SleepingCars$Tickets" "tos" "[I", Cond.static yX9_legsBetween, Cond.initialized RX9, Cond.code yX9_legsBetween cX9_legsBetween 2 (some .int), Cond.methodLink RX0 96 yX5_setLegs, Cond.instanceMethod yX5_setLegs]
def wsX9_back_r3 : List Cond := [Cond.selects RX5 yX5_setLegs yX5_setLegs, Cond.code yX5_setLegs cX5_setLegs 4 none]
def wsX9_back : List Cond := .code yX9_back cX9_back 2 (some .boolean) :: ((wsX9_back_r1 ++ (wsX9_back_r2 ++ wsX9_back_r3)) ++ wsX90 ++ wsX00 ++ wsX70 ++ wsX40 ++ wsX50)
def wsX9_letter_r1 : List Cond := [Cond.fieldLink RX9 10 "SleepingCars" "book" "LSleepingCars$Book;", Cond.fieldLink RX9 102 "SleepingCars$Book" "tickets" "LSleepingCars$Tickets;", Cond.fieldLink RX9 122 "SleepingCars$Book" "letters" "LSleepingCars$Letters;", Cond.fieldLink RX9 126 "SleepingCars$Book" "now" "I", Cond.methodLink RX9 74 yX9_isOffice, Cond.static yX9_isOffice, Cond.initialized RX9, Cond.code yX9_isOffice cX9_isOffice 1 (some .boolean), Cond.methodLink RX9 94 yX0_isRunStretch, Cond.instanceMethod yX0_isRunStretch, Cond.selects RX0 yX0_isRunStretch yX0_isRunStretch, Cond.initialized RX0, Cond.code yX0_isRunStretch cX0_isRunStretch 4 (some .boolean), Cond.fieldLink RX0 21 "SleepingCars$Book" "runs" "LSleepingCars$Runs;", Cond.fieldLink RX0 12 "SleepingCars$Book" "route" "LSleepingCars$Route;", Cond.methodLink RX0 59 yX5_isTold, Cond.instanceMethod yX5_isTold, Cond.selects RX5 yX5_isTold yX5_isTold, Cond.initialized RX5, Cond.code yX5_isTold cX5_isTold 2 (some .boolean), Cond.fieldLink RX5 9 "SleepingCars$Runs" "berths" "[I", Cond.methodLink RX0 63 yX4_isStretch, Cond.instanceMethod yX4_isStretch, Cond.selects RX4 yX4_isStretch yX4_isStretch]
def wsX9_letter_r2 : List Cond := [Cond.initialized RX4, Cond.code yX4_isStretch cX4_isStretch 3 (some .boolean), Cond.fieldLink RX4 22 "SleepingCars$Route" "stops" "I", Cond.methodLink RX9 114 yX7_isFull, Cond.instanceMethod yX7_isFull, Cond.selects RX7 yX7_isFull yX7_isFull, Cond.initialized RX7, Cond.code yX7_isFull cX7_isFull 1 (some .boolean), Cond.fieldLink RX7 30 "SleepingCars$Tickets" "size" "I", Cond.methodLink RX9 118 yX0_letterHours, Cond.instanceMethod yX0_letterHours, Cond.selects RX0 yX0_letterHours yX0_letterHours, Cond.code yX0_letterHours cX0_letterHours 4 (some .int), Cond.fieldLink RX0 46 "SleepingCars$Book" "officeStops" "[I", Cond.methodLink RX0 129 Lib.Math.abs.name, Cond.static Lib.Math.abs.name, Cond.initialized "java/lang/Math", Cond.code Lib.Math.abs.name Lib.Math.abs.code 1 (some .int), Cond.methodLink RX0 71 yX4_hoursTo, Cond.instanceMethod yX4_hoursTo, Cond.selects RX4 yX4_hoursTo yX4_hoursTo, Cond.code yX4_hoursTo cX4_hoursTo 4 (some .int), Cond.fieldLink RX4 15 "SleepingCars$Route" "legHours" "[I", Cond.methodLink RX9 129 yX1_add]
def wsX9_letter_r3 : List Cond := [Cond.instanceMethod yX1_add, Cond.selects RX1 yX1_add yX1_add, Cond.initialized RX1, Cond.code yX1_add cX1_add 7 (some .int), Cond.fieldLink RX1 33 "SleepingCars$Letters" "size" "I", Cond.fieldLink RX1 9 "SleepingCars$Letters" "offices" "[I", Cond.fieldLink RX1 15 "SleepingCars$Letters" "days" "[I", Cond.fieldLink RX1 18 "SleepingCars$Letters" "froms" "[I", Cond.fieldLink RX1 21 "SleepingCars$Letters" "tos" "[I", Cond.fieldLink RX1 24 "SleepingCars$Letters" "comes" "[I", Cond.fieldLink RX1 27 "SleepingCars$Letters" "answered" "[I", Cond.fieldLink RX1 30 "SleepingCars$Letters" "sold" "[I"]
def wsX9_letter : List Cond := .code yX9_letter cX9_letter 7 (some .int) :: ((wsX9_letter_r1 ++ (wsX9_letter_r2 ++ wsX9_letter_r3)) ++ wsX90 ++ wsX00 ++ wsX50 ++ wsX40 ++ wsX70 ++ wsX10)
def wsX9_post : List Cond := .code yX9_post cX9_post 3 (some .int) :: ([.fieldLink RX9 10 "SleepingCars" "book" "LSleepingCars$Book;", .fieldLink RX9 122 "SleepingCars$Book" "letters" "LSleepingCars$Letters;", .fieldLink RX9 135 "SleepingCars$Letters" "comes" "[I", .fieldLink RX9 138 "SleepingCars$Letters" "answered" "[I", .fieldLink RX9 126 "SleepingCars$Book" "now" "I", .fieldLink RX9 144 "SleepingCars$Letters" "sold" "[I", .methodLink RX9 134 yX1_has, .instanceMethod yX1_has, .selects RX1 yX1_has yX1_has, .initialized RX1, .code yX1_has cX1_has 2 (some .boolean), .fieldLink RX1 33 "SleepingCars$Letters" "size" "I", .methodLink RX9 141 yX1_standing, .instanceMethod yX1_standing, .selects RX1 yX1_standing yX1_standing, .code yX1_standing cX1_standing 3 (some .int), .fieldLink RX1 24 "SleepingCars$Letters" "comes" "[I", .fieldLink RX1 27 "SleepingCars$Letters" "answered" "[I"] ++ wsX90 ++ wsX00 ++ wsX10)
def wsX9_hours_r1 : List Cond := [Cond.fieldLink RX9 10 "SleepingCars" "book" "LSleepingCars$Book;", Cond.fieldLink RX9 126 "SleepingCars$Book" "now" "I", Cond.methodLink RX9 147 yX0_beginNextHour, Cond.instanceMethod yX0_beginNextHour, Cond.selects RX0 yX0_beginNextHour yX0_beginNextHour, Cond.initialized RX0, Cond.code yX0_beginNextHour cX0_beginNextHour 2 none, Cond.fieldLink RX0 67 "SleepingCars$Book" "now" "I", Cond.fieldLink RX0 35 "SleepingCars$Book" "letters" "LSleepingCars$Letters;", Cond.fieldLink RX0 134 "SleepingCars$Letters" "size" "I", Cond.fieldLink RX0 137 "SleepingCars$Letters" "comes" "[I", Cond.fieldLink RX0 140 "SleepingCars$Letters" "sold" "[I", Cond.fieldLink RX0 143 "SleepingCars$Letters" "offices" "[I", Cond.fieldLink RX0 146 "SleepingCars$Letters" "days" "[I", Cond.fieldLink RX0 147 "SleepingCars$Letters" "froms" "[I", Cond.fieldLink RX0 148 "SleepingCars$Letters" "tos" "[I", Cond.methodLink RX0 151 yX0_sellStretch, Cond.instanceMethod yX0_sellStretch, Cond.selects RX0 yX0_sellStretch yX0_sellStretch, Cond.code yX0_sellStretch cX0_sellStretch 6 (some .int), Cond.fieldLink RX0 28 "SleepingCars$Book" "tickets" "LSleepingCars$Tickets;", Cond.fieldLink RX0 21 "SleepingCars$Book" "runs" "LSleepingCars$Runs;", Cond.methodLink RX0 79 yX7_isFull, Cond.instanceMethod yX7_isFull]
def wsX9_hours_r2 : List Cond := [Cond.selects RX7 yX7_isFull yX7_isFull, Cond.initialized RX7, Cond.code yX7_isFull cX7_isFull 1 (some .boolean), Cond.fieldLink RX7 30 "SleepingCars$Tickets" "size" "I", Cond.methodLink RX0 83 yX0_hasLeft, Cond.instanceMethod yX0_hasLeft, Cond.selects RX0 yX0_hasLeft yX0_hasLeft, Cond.code yX0_hasLeft cX0_hasLeft 3 (some .boolean), Cond.fieldLink RX0 12 "SleepingCars$Book" "route" "LSleepingCars$Route;", Cond.methodLink RX0 71 yX4_hoursTo, Cond.instanceMethod yX4_hoursTo, Cond.selects RX4 yX4_hoursTo yX4_hoursTo, Cond.initialized RX4, Cond.code yX4_hoursTo cX4_hoursTo 4 (some .int), Cond.fieldLink RX4 15 "SleepingCars$Route" "legHours" "[I", Cond.methodLink RX0 86 yX0_tightestBerth, Cond.instanceMethod yX0_tightestBerth, Cond.selects RX0 yX0_tightestBerth yX0_tightestBerth, Cond.code yX0_tightestBerth cX0_tightestBerth 10 (some .int), Cond.fieldLink RX0 104 "SleepingCars$Runs" "berths" "[I", Cond.fieldLink RX0 111 "SleepingCars$Route" "stops" "I", Cond.methodLink RX0 90 yX5_legsOf, Cond.instanceMethod yX5_legsOf, Cond.selects RX5 yX5_legsOf yX5_legsOf]
def wsX9_hours_r3 : List Cond := [Cond.initialized RX5, Cond.code yX5_legsOf cX5_legsOf 3 (some .int), Cond.fieldLink RX5 18 "SleepingCars$Runs" "soldLegs" "[I", Cond.static yX9_legsBetween, Cond.initialized RX9, Cond.code yX9_legsBetween cX9_legsBetween 2 (some .int), Cond.methodLink RX0 107 yX0_isOnChart, Cond.instanceMethod yX0_isOnChart, Cond.selects RX0 yX0_isOnChart yX0_isOnChart, Cond.code yX0_isOnChart cX0_isOnChart 4 (some .boolean), Cond.methodLink RX0 75 yX5_owner, Cond.instanceMethod yX5_owner, Cond.selects RX5 yX5_owner yX5_owner, Cond.code yX5_owner cX5_owner 3 (some .int), Cond.fieldLink RX5 15 "SleepingCars$Runs" "owners" "[I", Cond.methodLink RX0 114 yX5_gap, Cond.instanceMethod yX5_gap, Cond.selects RX5 yX5_gap yX5_gap, Cond.code yX5_gap cX5_gap 8 (some .int), Cond.methodLink RX5 39 yX5_isSold, Cond.instanceMethod yX5_isSold, Cond.selects RX5 yX5_isSold yX5_isSold, Cond.code yX5_isSold cX5_isSold 4 (some .boolean), Cond.methodLink RX5 35 yX5_legsOf]
def wsX9_hours_r4 : List Cond := [Cond.methodLink RX0 96 yX5_setLegs, Cond.instanceMethod yX5_setLegs, Cond.selects RX5 yX5_setLegs yX5_setLegs, Cond.code yX5_setLegs cX5_setLegs 4 none, Cond.methodLink RX0 100 yX7_add, Cond.instanceMethod yX7_add, Cond.selects RX7 yX7_add yX7_add, Cond.code yX7_add cX7_add 6 (some .int), Cond.fieldLink RX7 9 "SleepingCars$Tickets" "days" "[I", Cond.fieldLink RX7 15 "SleepingCars$Tickets" "berths" "[I", Cond.fieldLink RX7 18 "SleepingCars$Tickets" "froms" "[I", Cond.fieldLink RX7 21 "SleepingCars$Tickets" "tos" "[I", Cond.fieldLink RX7 24 "SleepingCars$Tickets" "offices" "[I", Cond.fieldLink RX7 27 "SleepingCars$Tickets" "given" "[I", Cond.methodLink RX7 34 yX7_isFull]
def wsX9_hours : List Cond := .code yX9_hours cX9_hours 3 (some .int) :: ((wsX9_hours_r1 ++ (wsX9_hours_r2 ++ (wsX9_hours_r3 ++ wsX9_hours_r4))) ++ wsX90 ++ wsX00 ++ wsX10 ++ wsX70 ++ wsX40 ++ wsX50)
def wsX9_moved_r1 : List Cond := [Cond.fieldLink RX9 10 "SleepingCars" "book" "LSleepingCars$Book;", Cond.fieldLink RX9 34 "SleepingCars$Book" "runs" "LSleepingCars$Runs;", Cond.methodLink RX9 83 yX5_isTold, Cond.instanceMethod yX5_isTold, Cond.selects RX5 yX5_isTold yX5_isTold, Cond.initialized RX5, Cond.code yX5_isTold cX5_isTold 2 (some .boolean), Cond.fieldLink RX5 9 "SleepingCars$Runs" "berths" "[I", Cond.methodLink RX9 86 yX0_hasLeft, Cond.instanceMethod yX0_hasLeft, Cond.selects RX0 yX0_hasLeft yX0_hasLeft, Cond.initialized RX0, Cond.code yX0_hasLeft cX0_hasLeft 3 (some .boolean), Cond.fieldLink RX0 67 "SleepingCars$Book" "now" "I", Cond.fieldLink RX0 12 "SleepingCars$Book" "route" "LSleepingCars$Route;", Cond.methodLink RX0 71 yX4_hoursTo, Cond.instanceMethod yX4_hoursTo, Cond.selects RX4 yX4_hoursTo yX4_hoursTo, Cond.initialized RX4, Cond.code yX4_hoursTo cX4_hoursTo 4 (some .int), Cond.fieldLink RX4 15 "SleepingCars$Route" "legHours" "[I", Cond.methodLink RX9 150 yX0_layAnew, Cond.instanceMethod yX0_layAnew, Cond.selects RX0 yX0_layAnew yX0_layAnew]
def wsX9_moved_r2 : List Cond := [Cond.code yX0_layAnew cX0_layAnew 5 (some .int), Cond.fieldLink RX0 53 "SleepingCars$Book" "newLegs" "[I", Cond.fieldLink RX0 111 "SleepingCars$Route" "stops" "I", Cond.fieldLink RX0 28 "SleepingCars$Book" "tickets" "LSleepingCars$Tickets;", Cond.fieldLink RX0 160 "SleepingCars$Tickets" "size" "I", Cond.fieldLink RX0 123 "SleepingCars$Tickets" "froms" "[I", Cond.fieldLink RX0 21 "SleepingCars$Book" "runs" "LSleepingCars$Runs;", Cond.fieldLink RX0 104 "SleepingCars$Runs" "berths" "[I", Cond.methodLink RX0 154 yJ7_fill_53178, Cond.static yJ7_fill_53178, Cond.initialized RJ7, Cond.code yJ7_fill_53178 cJ7_fill_53178 4 none, Cond.methodLink RX0 161 yX7_isLive, Cond.instanceMethod yX7_isLive, Cond.selects RX7 yX7_isLive yX7_isLive, Cond.initialized RX7, Cond.code yX7_isLive cX7_isLive 3 (some .boolean), Cond.fieldLink RX7 27 "SleepingCars$Tickets" "given" "[I", Cond.fieldLink RX7 9 "SleepingCars$Tickets" "days" "[I", Cond.methodLink RX0 164 yX0_layTicket, Cond.instanceMethod yX0_layTicket, Cond.selects RX0 yX0_layTicket yX0_layTicket, Cond.code yX0_layTicket cX0_layTicket 7 (some .boolean), Cond.fieldLink RX0 126 "SleepingCars$Tickets" "berths" "[I"]
def wsX9_moved_r3 : List Cond := [Cond.methodLink RX0 75 yX5_owner, Cond.instanceMethod yX5_owner, Cond.selects RX5 yX5_owner yX5_owner, Cond.code yX5_owner cX5_owner 3 (some .int), Cond.fieldLink RX5 15 "SleepingCars$Runs" "owners" "[I", Cond.methodLink RX0 127 yX7_legsOf, Cond.instanceMethod yX7_legsOf, Cond.selects RX7 yX7_legsOf yX7_legsOf, Cond.code yX7_legsOf cX7_legsOf 2 (some .int), Cond.fieldLink RX7 18 "SleepingCars$Tickets" "froms" "[I", Cond.fieldLink RX7 21 "SleepingCars$Tickets" "tos" "[I", Cond.static yX9_legsBetween, Cond.initialized RX9, Cond.code yX9_legsBetween cX9_legsBetween 2 (some .int), Cond.methodLink RX0 107 yX0_isOnChart, Cond.instanceMethod yX0_isOnChart, Cond.selects RX0 yX0_isOnChart yX0_isOnChart, Cond.code yX0_isOnChart cX0_isOnChart 4 (some .boolean), Cond.methodLink RX0 96 yX5_setLegs, Cond.instanceMethod yX5_setLegs, Cond.selects RX5 yX5_setLegs yX5_setLegs, Cond.code yX5_setLegs cX5_setLegs 4 none, Cond.fieldLink RX5 18 "SleepingCars$Runs" "soldLegs" "[I"]
def wsX9_moved : List Cond := .code yX9_moved cX9_moved 2 (some .int) :: ((wsX9_moved_r1 ++ (wsX9_moved_r2 ++ wsX9_moved_r3)) ++ wsX90 ++ wsX00 ++ wsX50 ++ wsX40 ++ wsX70)
def wsX9_wouldFit_r1 : List Cond := [Cond.fieldLink RX9 10 "SleepingCars" "book" "LSleepingCars$Book;", Cond.methodLink RX9 74 yX9_isOffice, Cond.static yX9_isOffice, Cond.initialized RX9, Cond.code yX9_isOffice cX9_isOffice 1 (some .boolean), Cond.methodLink RX9 94 yX0_isRunStretch, Cond.instanceMethod yX0_isRunStretch, Cond.selects RX0 yX0_isRunStretch yX0_isRunStretch, Cond.initialized RX0, Cond.code yX0_isRunStretch cX0_isRunStretch 4 (some .boolean), Cond.fieldLink RX0 21 "SleepingCars$Book" "runs" "LSleepingCars$Runs;", Cond.fieldLink RX0 12 "SleepingCars$Book" "route" "LSleepingCars$Route;", Cond.methodLink RX0 59 yX5_isTold, Cond.instanceMethod yX5_isTold, Cond.selects RX5 yX5_isTold yX5_isTold, Cond.initialized RX5, Cond.code yX5_isTold cX5_isTold 2 (some .boolean), Cond.fieldLink RX5 9 "SleepingCars$Runs" "berths" "[I", Cond.methodLink RX0 63 yX4_isStretch, Cond.instanceMethod yX4_isStretch, Cond.selects RX4 yX4_isStretch yX4_isStretch, Cond.initialized RX4, Cond.code yX4_isStretch cX4_isStretch 3 (some .boolean), Cond.fieldLink RX4 22 "SleepingCars$Route" "stops" "I"]
def wsX9_wouldFit_r2 : List Cond := [Cond.methodLink RX9 86 yX0_hasLeft, Cond.instanceMethod yX0_hasLeft, Cond.selects RX0 yX0_hasLeft yX0_hasLeft, Cond.code yX0_hasLeft cX0_hasLeft 3 (some .boolean), Cond.fieldLink RX0 67 "SleepingCars$Book" "now" "I", Cond.methodLink RX0 71 yX4_hoursTo, Cond.instanceMethod yX4_hoursTo, Cond.selects RX4 yX4_hoursTo yX4_hoursTo, Cond.code yX4_hoursTo cX4_hoursTo 4 (some .int), Cond.fieldLink RX4 15 "SleepingCars$Route" "legHours" "[I", Cond.methodLink RX9 154 yX0_hasRoom, Cond.instanceMethod yX0_hasRoom, Cond.selects RX0 yX0_hasRoom yX0_hasRoom, Cond.code yX0_hasRoom cX0_hasRoom 6 (some .boolean), Cond.methodLink RX0 167 yX0_hasRoomOn, Cond.instanceMethod yX0_hasRoomOn, Cond.selects RX0 yX0_hasRoomOn yX0_hasRoomOn, Cond.code yX0_hasRoomOn cX0_hasRoomOn 5 (some .boolean), Cond.fieldLink RX0 104 "SleepingCars$Runs" "berths" "[I", Cond.methodLink RX0 107 yX0_isOnChart, Cond.instanceMethod yX0_isOnChart, Cond.selects RX0 yX0_isOnChart yX0_isOnChart, Cond.code yX0_isOnChart cX0_isOnChart 4 (some .boolean), Cond.methodLink RX0 75 yX5_owner]
def wsX9_wouldFit_r3 : List Cond := [Cond.instanceMethod yX5_owner, Cond.selects RX5 yX5_owner yX5_owner, Cond.code yX5_owner cX5_owner 3 (some .int), Cond.fieldLink RX5 15 "SleepingCars$Runs" "owners" "[I", Cond.methodLink RX0 170 yX5_isSold, Cond.instanceMethod yX5_isSold, Cond.selects RX5 yX5_isSold yX5_isSold, Cond.code yX5_isSold cX5_isSold 4 (some .boolean), Cond.methodLink RX5 35 yX5_legsOf, Cond.instanceMethod yX5_legsOf, Cond.selects RX5 yX5_legsOf yX5_legsOf, Cond.code yX5_legsOf cX5_legsOf 3 (some .int), Cond.fieldLink RX5 18 "SleepingCars$Runs" "soldLegs" "[I"]
def wsX9_wouldFit : List Cond := .code yX9_wouldFit cX9_wouldFit 5 (some .boolean) :: ((wsX9_wouldFit_r1 ++ (wsX9_wouldFit_r2 ++ wsX9_wouldFit_r3)) ++ wsX90 ++ wsX00 ++ wsX50 ++ wsX40)
def wsX9_ticket : List Cond := .code yX9_ticket cX9_ticket 3 (some .int) :: ([.fieldLink RX9 10 "SleepingCars" "book" "LSleepingCars$Book;", .fieldLink RX9 102 "SleepingCars$Book" "tickets" "LSleepingCars$Tickets;", .fieldLink RX9 158 "SleepingCars$Tickets" "days" "[I", .fieldLink RX9 161 "SleepingCars$Tickets" "berths" "[I", .fieldLink RX9 164 "SleepingCars$Tickets" "froms" "[I", .fieldLink RX9 167 "SleepingCars$Tickets" "tos" "[I", .fieldLink RX9 170 "SleepingCars$Tickets" "offices" "[I", .fieldLink RX9 173 "SleepingCars$Tickets" "given" "[I", .methodLink RX9 106 yX7_has, .instanceMethod yX7_has, .selects RX7 yX7_has yX7_has, .initialized RX7, .code yX7_has cX7_has 2 (some .boolean), .fieldLink RX7 30 "SleepingCars$Tickets" "size" "I"] ++ wsX90 ++ wsX00 ++ wsX70)
def wsX9_lies_r1 : List Cond := [Cond.fieldLink RX9 10 "SleepingCars" "book" "LSleepingCars$Book;", Cond.fieldLink RX9 34 "SleepingCars$Book" "runs" "LSleepingCars$Runs;", Cond.fieldLink RX9 44 "SleepingCars$Book" "route" "LSleepingCars$Route;", Cond.fieldLink RX9 102 "SleepingCars$Book" "tickets" "LSleepingCars$Tickets;", Cond.methodLink RX9 176 yX5_hasBerth, Cond.instanceMethod yX5_hasBerth, Cond.selects RX5 yX5_hasBerth yX5_hasBerth, Cond.initialized RX5, Cond.code yX5_hasBerth cX5_hasBerth 3 (some .boolean), Cond.fieldLink RX5 9 "SleepingCars$Runs" "berths" "[I", Cond.methodLink RX5 21 yX5_isTold, Cond.instanceMethod yX5_isTold, Cond.selects RX5 yX5_isTold yX5_isTold, Cond.code yX5_isTold cX5_isTold 2 (some .boolean), Cond.methodLink RX9 64 yX4_hasLeg, Cond.instanceMethod yX4_hasLeg, Cond.selects RX4 yX4_hasLeg yX4_hasLeg, Cond.initialized RX4, Cond.code yX4_hasLeg cX4_hasLeg 2 (some .boolean), Cond.fieldLink RX4 22 "SleepingCars$Route" "stops" "I", Cond.methodLink RX9 179 yX7_find, Cond.instanceMethod yX7_find, Cond.selects RX7 yX7_find yX7_find, Cond.initialized RX7]
def wsX9_lies_r2 : List Cond := [Cond.code yX7_find cX7_find 5 (some .int), Cond.fieldLink RX7 30 "SleepingCars$Tickets" "size" "I", Cond.fieldLink RX7 15 "SleepingCars$Tickets" "berths" "[I", Cond.fieldLink RX7 18 "SleepingCars$Tickets" "froms" "[I", Cond.fieldLink RX7 21 "SleepingCars$Tickets" "tos" "[I", Cond.methodLink RX7 42 yX7_isLive, Cond.instanceMethod yX7_isLive, Cond.selects RX7 yX7_isLive yX7_isLive, Cond.code yX7_isLive cX7_isLive 3 (some .boolean), Cond.fieldLink RX7 27 "SleepingCars$Tickets" "given" "[I", Cond.fieldLink RX7 9 "SleepingCars$Tickets" "days" "[I"]
def wsX9_lies : List Cond := .code yX9_lies cX9_lies 4 (some .int) :: ((wsX9_lies_r1 ++ wsX9_lies_r2) ++ wsX90 ++ wsX00 ++ wsX50 ++ wsX40 ++ wsX70)
def wsX9_ownerOrNone : List Cond := .code yX9_ownerOrNone cX9_ownerOrNone 3 (some .int) :: ([.fieldLink RX9 10 "SleepingCars" "book" "LSleepingCars$Book;", .fieldLink RX9 34 "SleepingCars$Book" "runs" "LSleepingCars$Runs;", .methodLink RX9 176 yX5_hasBerth, .instanceMethod yX5_hasBerth, .selects RX5 yX5_hasBerth yX5_hasBerth, .initialized RX5, .code yX5_hasBerth cX5_hasBerth 3 (some .boolean), .fieldLink RX5 9 "SleepingCars$Runs" "berths" "[I", .methodLink RX5 21 yX5_isTold, .instanceMethod yX5_isTold, .selects RX5 yX5_isTold yX5_isTold, .code yX5_isTold cX5_isTold 2 (some .boolean), .methodLink RX9 260 yX5_owner, .instanceMethod yX5_owner, .selects RX5 yX5_owner yX5_owner, .code yX5_owner cX5_owner 3 (some .int), .fieldLink RX5 15 "SleepingCars$Runs" "owners" "[I"] ++ wsX90 ++ wsX00 ++ wsX50)
def wsX9_told_r1 : List Cond := [Cond.fieldLink RX9 10 "SleepingCars" "book" "LSleepingCars$Book;", Cond.fieldLink RX9 34 "SleepingCars$Book" "runs" "LSleepingCars$Runs;", Cond.fieldLink RX9 183 "SleepingCars$Runs" "berths" "[I", Cond.fieldLink RX9 102 "SleepingCars$Book" "tickets" "LSleepingCars$Tickets;", Cond.methodLink RX9 83 yX5_isTold, Cond.instanceMethod yX5_isTold, Cond.selects RX5 yX5_isTold yX5_isTold, Cond.initialized RX5, Cond.code yX5_isTold cX5_isTold 2 (some .boolean), Cond.fieldLink RX5 9 "SleepingCars$Runs" "berths" "[I", Cond.methodLink RX9 184 yX7_liveOf, Cond.instanceMethod yX7_liveOf, Cond.selects RX7 yX7_liveOf yX7_liveOf, Cond.initialized RX7, Cond.code yX7_liveOf cX7_liveOf 4 (some .int), Cond.fieldLink RX7 30 "SleepingCars$Tickets" "size" "I", Cond.methodLink RX7 42 yX7_isLive, Cond.instanceMethod yX7_isLive, Cond.selects RX7 yX7_isLive yX7_isLive, Cond.code yX7_isLive cX7_isLive 3 (some .boolean), Cond.fieldLink RX7 27 "SleepingCars$Tickets" "given" "[I", Cond.fieldLink RX7 9 "SleepingCars$Tickets" "days" "[I", Cond.methodLink RX9 187 yX0_mostSold, Cond.instanceMethod yX0_mostSold]
def wsX9_told_r2 : List Cond := [Cond.selects RX0 yX0_mostSold yX0_mostSold, Cond.initialized RX0, Cond.code yX0_mostSold cX0_mostSold 4 (some .int), Cond.fieldLink RX0 12 "SleepingCars$Book" "route" "LSleepingCars$Route;", Cond.fieldLink RX0 111 "SleepingCars$Route" "stops" "I", Cond.fieldLink RX0 21 "SleepingCars$Book" "runs" "LSleepingCars$Runs;", Cond.methodLink RX0 176 Lib.Math.max.name, Cond.static Lib.Math.max.name, Cond.initialized "java/lang/Math", Cond.code Lib.Math.max.name Lib.Math.max.code 2 (some .int), Cond.methodLink RX0 173 yX5_soldOn, Cond.instanceMethod yX5_soldOn, Cond.selects RX5 yX5_soldOn yX5_soldOn, Cond.code yX5_soldOn cX5_soldOn 5 (some .int), Cond.methodLink RX5 39 yX5_isSold, Cond.instanceMethod yX5_isSold, Cond.selects RX5 yX5_isSold yX5_isSold, Cond.code yX5_isSold cX5_isSold 4 (some .boolean), Cond.methodLink RX5 35 yX5_legsOf, Cond.instanceMethod yX5_legsOf, Cond.selects RX5 yX5_legsOf yX5_legsOf, Cond.code yX5_legsOf cX5_legsOf 3 (some .int), Cond.fieldLink RX5 18 "SleepingCars$Runs" "soldLegs" "[I", Cond.methodLink RX9 190 yX0_legsSold]
def wsX9_told_r3 : List Cond := [Cond.instanceMethod yX0_legsSold, Cond.selects RX0 yX0_legsSold yX0_legsSold, Cond.code yX0_legsSold cX0_legsSold 4 (some .int), Cond.methodLink RX9 86 yX0_hasLeft, Cond.instanceMethod yX0_hasLeft, Cond.selects RX0 yX0_hasLeft yX0_hasLeft, Cond.code yX0_hasLeft cX0_hasLeft 3 (some .boolean), Cond.fieldLink RX0 67 "SleepingCars$Book" "now" "I", Cond.methodLink RX0 71 yX4_hoursTo, Cond.instanceMethod yX4_hoursTo, Cond.selects RX4 yX4_hoursTo yX4_hoursTo, Cond.initialized RX4, Cond.code yX4_hoursTo cX4_hoursTo 4 (some .int), Cond.fieldLink RX4 15 "SleepingCars$Route" "legHours" "[I", Cond.methodLink RX9 193 yX9_ownerOrNone, Cond.instanceMethod yX9_ownerOrNone, Cond.selects RX9 yX9_ownerOrNone yX9_ownerOrNone, Cond.initialized RX9, Cond.code yX9_ownerOrNone cX9_ownerOrNone 3 (some .int), Cond.methodLink RX9 176 yX5_hasBerth, Cond.instanceMethod yX5_hasBerth, Cond.selects RX5 yX5_hasBerth yX5_hasBerth, Cond.code yX5_hasBerth cX5_hasBerth 3 (some .boolean), Cond.methodLink RX5 21 yX5_isTold]
def wsX9_told_r4 : List Cond := [Cond.methodLink RX9 260 yX5_owner, Cond.instanceMethod yX5_owner, Cond.selects RX5 yX5_owner yX5_owner, Cond.code yX5_owner cX5_owner 3 (some .int), Cond.fieldLink RX5 15 "SleepingCars$Runs" "owners" "[I"]
def wsX9_told : List Cond := .code yX9_told cX9_told 3 (some .int) :: ((wsX9_told_r1 ++ (wsX9_told_r2 ++ (wsX9_told_r3 ++ wsX9_told_r4))) ++ wsX90 ++ wsX00 ++ wsX50 ++ wsX70 ++ wsX40)
def wsX9_feed : List Cond := .code yX9_feed cX9_feed 6 (some .int) :: ([.fieldLink RX9 23 "SleepingCars" "tape" "LSleepingCars$Tape;", .fieldLink RX9 196 "SleepingCars$Tape" "size" "I", .methodLink RX9 197 yX6_append, .instanceMethod yX6_append, .selects RX6 yX6_append yX6_append, .initialized RX6, .code yX6_append cX6_append 3 none, .fieldLink RX6 15 "SleepingCars$Tape" "size" "I", .fieldLink RX6 9 "SleepingCars$Tape" "bytes" "[I"] ++ wsX90 ++ wsX60)
def wsX9_end : List Cond := .code yX9_end cX9_end 2 (some .int) :: ([.fieldLink RX9 23 "SleepingCars" "tape" "LSleepingCars$Tape;", .fieldLink RX9 196 "SleepingCars$Tape" "size" "I"] ++ wsX90 ++ wsX60)
def wsX9_contract_r1 : List Cond := [Cond.fieldLink RX9 30 "SleepingCars" "reader" "LSleepingCars$Reader;", Cond.fieldLink RX9 23 "SleepingCars" "tape" "LSleepingCars$Tape;", Cond.fieldLink RX9 196 "SleepingCars$Tape" "size" "I", Cond.fieldLink RX9 204 "SleepingCars$Reader" "faultKind" "I", Cond.fieldLink RX9 10 "SleepingCars" "book" "LSleepingCars$Book;", Cond.fieldLink RX9 207 "SleepingCars$Book" "rates" "LSleepingCars$Rates;", Cond.fieldLink RX9 211 "SleepingCars$Reader" "draft" "LSleepingCars$Rates;", Cond.fieldLink RX9 220 "SleepingCars$Rates" "lines" "I", Cond.methodLink RX9 200 yX3_read, Cond.instanceMethod yX3_read, Cond.selects RX3 yX3_read yX3_read, Cond.initialized RX3, Cond.code yX3_read cX3_read 3 none, Cond.fieldLink RX3 9 "SleepingCars$Reader" "faultKind" "I", Cond.fieldLink RX3 15 "SleepingCars$Reader" "faultPlace" "I", Cond.fieldLink RX3 32 "SleepingCars$Reader" "surplusPlace" "I", Cond.fieldLink RX3 35 "SleepingCars$Reader" "at" "I", Cond.fieldLink RX3 21 "SleepingCars$Reader" "draft" "LSleepingCars$Rates;", Cond.fieldLink RX3 28 "SleepingCars$Reader" "tokens" "LSleepingCars$Tokens;", Cond.methodLink RX3 38 yX2_clear, Cond.instanceMethod yX2_clear, Cond.selects RX2 yX2_clear yX2_clear, Cond.initialized RX2, Cond.code yX2_clear cX2_clear 1 none]
def wsX9_contract_r2 : List Cond := [Cond.fieldLink RX2 33 "SleepingCars$Rates" "lines" "I", Cond.fieldLink RX2 18 "SleepingCars$Rates" "tests" "[I", Cond.methodLink RX2 37 yJ7_fill_53178, Cond.static yJ7_fill_53178, Cond.initialized RJ7, Cond.code yJ7_fill_53178 cJ7_fill_53178 4 none, Cond.methodLink RX3 41 yX8_split, Cond.instanceMethod yX8_split, Cond.selects RX8 yX8_split yX8_split, Cond.initialized RX8, Cond.code yX8_split cX8_split 3 none, Cond.fieldLink RX8 21 "SleepingCars$Tokens" "size" "I", Cond.fieldLink RX8 25 "SleepingCars$Tape" "size" "I", Cond.methodLink RX8 32 Lib.Math.max.name, Cond.static Lib.Math.max.name, Cond.initialized "java/lang/Math", Cond.code Lib.Math.max.name Lib.Math.max.code 2 (some .int), Cond.methodLink RX8 28 yX8_takeAt, Cond.instanceMethod yX8_takeAt, Cond.selects RX8 yX8_takeAt yX8_takeAt, Cond.code yX8_takeAt cX8_takeAt 5 (some .int), Cond.fieldLink RX8 42 "SleepingCars$Tape" "bytes" "[I", Cond.methodLink RX8 45 yX8_isIn, Cond.static yX8_isIn]
def wsX9_contract_r3 : List Cond := [Cond.code yX8_isIn cX8_isIn 3 (some .boolean), Cond.methodLink RX8 49 yX8_rowLength, Cond.static yX8_rowLength, Cond.code yX8_rowLength cX8_rowLength 5 (some .int), Cond.methodLink RX8 53 yX8_wordKind, Cond.static yX8_wordKind, Cond.code yX8_wordKind cX8_wordKind 4 (some .int), Cond.methodLink RX8 64 yX8_wordOf, Cond.static yX8_wordOf, Cond.code yX8_wordOf cX8_wordOf 1 (some (.object "java/lang/String")), Cond.methodLink RX8 68 yX8_spells, Cond.static yX8_spells, Cond.code yX8_spells cX8_spells 5 (some .boolean), Cond.methodLink RX8 96 yJ0_length_8abf5, Cond.instanceMethod yJ0_length_8abf5, Cond.selects RJ0 yJ0_length_8abf5 yJ0_length_8abf5, Cond.initialized RJ0, Cond.code yJ0_length_8abf5 cJ0_length_8abf5 1 (some .int), Cond.fieldLink RJ0 9 "java/lang/String" "value" "[B", Cond.methodLink RJ0 335 yJ0_coder_7d493, Cond.instanceMethod yJ0_coder_7d493, Cond.selects RJ0 yJ0_coder_7d493 yJ0_coder_7d493, Cond.code yJ0_coder_7d493 cJ0_coder_7d493 1 (some .byte), Cond.fieldLink RJ0 38 "java/lang/String" "COMPACT_STRINGS" "Z"]
def wsX9_contract_r4 : List Cond := [Cond.fieldLink RJ0 15 "java/lang/String" "coder" "B", Cond.methodLink RX8 102 yJ0_charAt_5068e, Cond.instanceMethod yJ0_charAt_5068e, Cond.selects RJ0 yJ0_charAt_5068e yJ0_charAt_5068e, Cond.code yJ0_charAt_5068e cJ0_charAt_5068e 2 (some .char), Cond.methodLink RJ0 492 yJ0_isLatin1_aae02, Cond.instanceMethod yJ0_isLatin1_aae02, Cond.selects RJ0 yJ0_isLatin1_aae02 yJ0_isLatin1_aae02, Cond.code yJ0_isLatin1_aae02 cJ0_isLatin1_aae02 1 (some .boolean), Cond.methodLink RJ0 495 yJ1_charAt_3b067, Cond.static yJ1_charAt_3b067, Cond.initialized RJ1, Cond.code yJ1_charAt_3b067 cJ1_charAt_3b067 2 (some .char), Cond.methodLink RJ1 9 yJ0_checkIndex_df160, Cond.static yJ0_checkIndex_df160, Cond.code yJ0_checkIndex_df160 cJ0_checkIndex_df160 2 none, Cond.fieldLink RJ0 1053 "jdk/internal/util/Preconditions" "SIOOBE_FORMATTER" "Ljava/util/function/BiFunction;", Cond.methodLink RJ0 1059 yJ3_checkIndex_8e157, Cond.static yJ3_checkIndex_8e157, Cond.initialized RJ3, Cond.code yJ3_checkIndex_8e157 cJ3_checkIndex_8e157 3 (some .int), Cond.methodLink RJ0 498 yJ2_charAt_3b067, Cond.static yJ2_charAt_3b067, Cond.initialized RJ2]
def wsX9_contract_r5 : List Cond := [Cond.code yJ2_charAt_3b067 cJ2_charAt_3b067 2 (some .char), Cond.methodLink RJ2 67 yJ2_checkIndex_2214a, Cond.static yJ2_checkIndex_2214a, Cond.code yJ2_checkIndex_2214a cJ2_checkIndex_2214a 2 none, Cond.methodLink RJ2 48 yJ2_length_9d52b, Cond.static yJ2_length_9d52b, Cond.code yJ2_length_9d52b cJ2_length_9d52b 1 (some .int), Cond.methodLink RJ2 414 yJ0_checkIndex_df160, Cond.methodLink RJ2 71 yJ2_getChar_3b067, Cond.static yJ2_getChar_3b067, Cond.code yJ2_getChar_3b067 cJ2_getChar_3b067 2 (some .char), Cond.fieldLink RJ2 44 "java/lang/StringUTF16" "$assertionsDisabled" "Z", Cond.fieldLink RJ2 59 "java/lang/StringUTF16" "HI_BYTE_SHIFT" "I", Cond.fieldLink RJ2 63 "java/lang/StringUTF16" "LO_BYTE_SHIFT" "I", Cond.methodLink RX8 38 yX8_add, Cond.instanceMethod yX8_add, Cond.selects RX8 yX8_add yX8_add, Cond.code yX8_add cX8_add 4 none, Cond.fieldLink RX8 9 "SleepingCars$Tokens" "kinds" "[I", Cond.fieldLink RX8 15 "SleepingCars$Tokens" "numbers" "[I", Cond.fieldLink RX8 18 "SleepingCars$Tokens" "places" "[I", Cond.methodLink RX8 57 yX8_numberOf, Cond.static yX8_numberOf, Cond.code yX8_numberOf cX8_numberOf 5 (some .int)]
def wsX9_contract_r6 : List Cond := [Cond.methodLink RX8 60 yX8_signKind, Cond.static yX8_signKind, Cond.code yX8_signKind cX8_signKind 1 (some .int), Cond.methodLink RX3 45 yX3_isSound, Cond.instanceMethod yX3_isSound, Cond.selects RX3 yX3_isSound yX3_isSound, Cond.code yX3_isSound cX3_isSound 1 (some .boolean), Cond.methodLink RX3 49 yX3_isNext, Cond.instanceMethod yX3_isNext, Cond.selects RX3 yX3_isNext yX3_isNext, Cond.code yX3_isNext cX3_isNext 2 (some .boolean), Cond.methodLink RX3 66 yX8_kindAt, Cond.instanceMethod yX8_kindAt, Cond.selects RX8 yX8_kindAt yX8_kindAt, Cond.code yX8_kindAt cX8_kindAt 2 (some .int), Cond.methodLink RX3 53 yX3_readLine, Cond.instanceMethod yX3_readLine, Cond.selects RX3 yX3_readLine yX3_readLine, Cond.code yX3_readLine cX3_readLine 4 none, Cond.methodLink RX3 57 yX3_noteSurplus, Cond.instanceMethod yX3_noteSurplus, Cond.selects RX3 yX3_noteSurplus yX3_noteSurplus, Cond.code yX3_noteSurplus cX3_noteSurplus 1 none, Cond.methodLink RX3 84 yX8_placeAt]
def wsX9_contract_r7 : List Cond := [Cond.instanceMethod yX8_placeAt, Cond.selects RX8 yX8_placeAt yX8_placeAt, Cond.code yX8_placeAt cX8_placeAt 2 (some .int), Cond.methodLink RX3 60 yX3_readTests, Cond.instanceMethod yX3_readTests, Cond.selects RX3 yX3_readTests yX3_readTests, Cond.code yX3_readTests cX3_readTests 2 none, Cond.methodLink RX3 77 yX3_readTest, Cond.instanceMethod yX3_readTest, Cond.selects RX3 yX3_readTest yX3_readTest, Cond.code yX3_readTest cX3_readTest 6 none, Cond.methodLink RX3 63 yX3_takeIf, Cond.instanceMethod yX3_takeIf, Cond.selects RX3 yX3_takeIf yX3_takeIf, Cond.code yX3_takeIf cX3_takeIf 2 none, Cond.methodLink RX3 80 yX2_addTest, Cond.instanceMethod yX2_addTest, Cond.selects RX2 yX2_addTest yX2_addTest, Cond.code yX2_addTest cX2_addTest 6 none, Cond.fieldLink RX2 21 "SleepingCars$Rates" "subjects" "[I", Cond.fieldLink RX2 24 "SleepingCars$Rates" "signs" "[I", Cond.fieldLink RX2 27 "SleepingCars$Rates" "bounds" "[I", Cond.fieldLink RX2 30 "SleepingCars$Rates" "negated" "[I", Cond.methodLink RX3 70 yX8_numberAt]
def wsX9_contract_r8 : List Cond := [Cond.instanceMethod yX8_numberAt, Cond.selects RX8 yX8_numberAt yX8_numberAt, Cond.code yX8_numberAt cX8_numberAt 2 (some .int), Cond.methodLink RX3 73 yX2_addLine, Cond.instanceMethod yX2_addLine, Cond.selects RX2 yX2_addLine yX2_addLine, Cond.code yX2_addLine cX2_addLine 3 none, Cond.fieldLink RX2 9 "SleepingCars$Rates" "charges" "[I", Cond.fieldLink RX2 15 "SleepingCars$Rates" "amounts" "[I", Cond.methodLink RX9 214 yX2_copyFrom, Cond.instanceMethod yX2_copyFrom, Cond.selects RX2 yX2_copyFrom yX2_copyFrom, Cond.code yX2_copyFrom cX2_copyFrom 2 none, Cond.methodLink RX2 62 arraycopyName, Cond.native arraycopyName, Cond.static arraycopyName, Cond.initialized "java/lang/System"]
def wsX9_contract : List Cond := .code yX9_contract cX9_contract 1 (some .int) :: ((wsX9_contract_r1 ++ (wsX9_contract_r2 ++ (wsX9_contract_r3 ++ (wsX9_contract_r4 ++ (wsX9_contract_r5 ++ (wsX9_contract_r6 ++ (wsX9_contract_r7 ++ wsX9_contract_r8))))))) ++ wsX90 ++ wsX60 ++ wsX30 ++ wsX00 ++ wsX20 ++ wsX80)
def wsX9_fault : List Cond := .code yX9_fault cX9_fault 2 (some .int) :: ([.fieldLink RX9 30 "SleepingCars" "reader" "LSleepingCars$Reader;", .fieldLink RX9 204 "SleepingCars$Reader" "faultKind" "I", .fieldLink RX9 223 "SleepingCars$Reader" "faultPlace" "I"] ++ wsX90 ++ wsX30)
def wsX9_cost_r1 : List Cond := [Cond.fieldLink RX9 10 "SleepingCars" "book" "LSleepingCars$Book;", Cond.fieldLink RX9 34 "SleepingCars$Book" "runs" "LSleepingCars$Runs;", Cond.fieldLink RX9 44 "SleepingCars$Book" "route" "LSleepingCars$Route;", Cond.methodLink RX9 83 yX5_isTold, Cond.instanceMethod yX5_isTold, Cond.selects RX5 yX5_isTold yX5_isTold, Cond.initialized RX5, Cond.code yX5_isTold cX5_isTold 2 (some .boolean), Cond.fieldLink RX5 9 "SleepingCars$Runs" "berths" "[I", Cond.methodLink RX9 226 yX0_priceOfRun, Cond.instanceMethod yX0_priceOfRun, Cond.selects RX0 yX0_priceOfRun yX0_priceOfRun, Cond.initialized RX0, Cond.code yX0_priceOfRun cX0_priceOfRun 5 (some .long), Cond.fieldLink RX0 12 "SleepingCars$Book" "route" "LSleepingCars$Route;", Cond.fieldLink RX0 111 "SleepingCars$Route" "stops" "I", Cond.methodLink RX0 179 yX0_priceOfLeg, Cond.instanceMethod yX0_priceOfLeg, Cond.selects RX0 yX0_priceOfLeg yX0_priceOfLeg, Cond.code yX0_priceOfLeg cX0_priceOfLeg 4 (some .long), Cond.fieldLink RX0 56 "SleepingCars$Book" "facts" "[I", Cond.fieldLink RX0 183 "SleepingCars$Route" "legKm" "[I", Cond.fieldLink RX0 21 "SleepingCars$Book" "runs" "LSleepingCars$Runs;", Cond.fieldLink RX0 42 "SleepingCars$Book" "rates" "LSleepingCars$Rates;"]
def wsX9_cost_r2 : List Cond := [Cond.methodLink RX0 71 yX4_hoursTo, Cond.instanceMethod yX4_hoursTo, Cond.selects RX4 yX4_hoursTo yX4_hoursTo, Cond.initialized RX4, Cond.code yX4_hoursTo cX4_hoursTo 4 (some .int), Cond.fieldLink RX4 15 "SleepingCars$Route" "legHours" "[I", Cond.methodLink RX0 173 yX5_soldOn, Cond.instanceMethod yX5_soldOn, Cond.selects RX5 yX5_soldOn yX5_soldOn, Cond.code yX5_soldOn cX5_soldOn 5 (some .int), Cond.methodLink RX5 39 yX5_isSold, Cond.instanceMethod yX5_isSold, Cond.selects RX5 yX5_isSold yX5_isSold, Cond.code yX5_isSold cX5_isSold 4 (some .boolean), Cond.methodLink RX5 35 yX5_legsOf, Cond.instanceMethod yX5_legsOf, Cond.selects RX5 yX5_legsOf yX5_legsOf, Cond.code yX5_legsOf cX5_legsOf 3 (some .int), Cond.fieldLink RX5 18 "SleepingCars$Runs" "soldLegs" "[I", Cond.methodLink RX0 186 yX2_priceOf, Cond.instanceMethod yX2_priceOf, Cond.selects RX2 yX2_priceOf yX2_priceOf, Cond.initialized RX2, Cond.code yX2_priceOf cX2_priceOf 5 (some .long)]
def wsX9_cost_r3 : List Cond := [Cond.fieldLink RX2 33 "SleepingCars$Rates" "lines" "I", Cond.fieldLink RX2 15 "SleepingCars$Rates" "amounts" "[I", Cond.fieldLink RX2 9 "SleepingCars$Rates" "charges" "[I", Cond.methodLink RX2 43 yX2_allHold, Cond.instanceMethod yX2_allHold, Cond.selects RX2 yX2_allHold yX2_allHold, Cond.code yX2_allHold cX2_allHold 4 (some .boolean), Cond.fieldLink RX2 18 "SleepingCars$Rates" "tests" "[I", Cond.methodLink RX2 51 yX2_holds, Cond.instanceMethod yX2_holds, Cond.selects RX2 yX2_holds yX2_holds, Cond.code yX2_holds cX2_holds 4 (some .boolean), Cond.fieldLink RX2 21 "SleepingCars$Rates" "subjects" "[I", Cond.fieldLink RX2 24 "SleepingCars$Rates" "signs" "[I", Cond.fieldLink RX2 27 "SleepingCars$Rates" "bounds" "[I", Cond.fieldLink RX2 30 "SleepingCars$Rates" "negated" "[I", Cond.methodLink RX2 54 yX2_compares, Cond.static yX2_compares, Cond.code yX2_compares cX2_compares 3 (some .boolean), Cond.methodLink RX2 47 yX2_timesCharged, Cond.static yX2_timesCharged, Cond.code yX2_timesCharged cX2_timesCharged 2 (some .long), Cond.constantLong RX2 58 (4), Cond.constantLong RX2 60 (-1)]
def wsX9_cost_r4 : List Cond := [Cond.methodLink RX9 64 yX4_hasLeg, Cond.instanceMethod yX4_hasLeg, Cond.selects RX4 yX4_hasLeg yX4_hasLeg, Cond.code yX4_hasLeg cX4_hasLeg 2 (some .boolean), Cond.fieldLink RX4 22 "SleepingCars$Route" "stops" "I", Cond.methodLink RX9 230 yX0_priceOfLeg]
def wsX9_cost : List Cond := .code yX9_cost cX9_cost 3 (some .long) :: ((wsX9_cost_r1 ++ (wsX9_cost_r2 ++ (wsX9_cost_r3 ++ wsX9_cost_r4))) ++ wsX90 ++ wsX00 ++ wsX50 ++ wsX40 ++ wsX20)
def wsX9_isInSet : List Cond := .code yX9_isInSet cX9_isInSet 2 (some .boolean) :: ([])
def wsX9_carsOut : List Cond := .code yX9_carsOut cX9_carsOut 5 (some .int) :: ([.methodLink RX9 238 yX9_isInSet, .static yX9_isInSet, .initialized RX9, .code yX9_isInSet cX9_isInSet 2 (some .boolean)])
def wsX9_cars : List Cond := .code yX9_cars cX9_cars 6 (some .int) :: ([.fieldLink RX9 10 "SleepingCars" "book" "LSleepingCars$Book;", .fieldLink RX9 44 "SleepingCars$Book" "route" "LSleepingCars$Route;", .methodLink RX9 244 Lib.Math.max.name, .static Lib.Math.max.name, .initialized "java/lang/Math", .code Lib.Math.max.name Lib.Math.max.code 2 (some .int), .methodLink RX9 234 yX4_allHours, .instanceMethod yX4_allHours, .selects RX4 yX4_allHours yX4_allHours, .initialized RX4, .code yX4_allHours cX4_allHours 1 (some .int), .fieldLink RX4 22 "SleepingCars$Route" "stops" "I", .methodLink RX4 32 yX4_hoursTo, .instanceMethod yX4_hoursTo, .selects RX4 yX4_hoursTo yX4_hoursTo, .code yX4_hoursTo cX4_hoursTo 4 (some .int), .fieldLink RX4 15 "SleepingCars$Route" "legHours" "[I", .methodLink RX9 238 yX9_isInSet, .static yX9_isInSet, .initialized RX9, .code yX9_isInSet cX9_isInSet 2 (some .boolean), .methodLink RX9 241 yX9_carsOut, .static yX9_carsOut, .code yX9_carsOut cX9_carsOut 5 (some .int)] ++ wsX90 ++ wsX00 ++ wsX40)
def wsX9_count_r1 : List Cond := [Cond.fieldLink RX9 10 "SleepingCars" "book" "LSleepingCars$Book;", Cond.fieldLink RX9 44 "SleepingCars$Book" "route" "LSleepingCars$Route;", Cond.fieldLink RX9 249 "SleepingCars$Route" "stops" "I", Cond.fieldLink RX9 34 "SleepingCars$Book" "runs" "LSleepingCars$Runs;", Cond.fieldLink RX9 38 "SleepingCars$Runs" "size" "I", Cond.fieldLink RX9 102 "SleepingCars$Book" "tickets" "LSleepingCars$Tickets;", Cond.fieldLink RX9 252 "SleepingCars$Tickets" "size" "I", Cond.fieldLink RX9 122 "SleepingCars$Book" "letters" "LSleepingCars$Letters;", Cond.fieldLink RX9 253 "SleepingCars$Letters" "size" "I", Cond.fieldLink RX9 126 "SleepingCars$Book" "now" "I", Cond.fieldLink RX9 207 "SleepingCars$Book" "rates" "LSleepingCars$Rates;", Cond.fieldLink RX9 220 "SleepingCars$Rates" "lines" "I", Cond.methodLink RX9 234 yX4_allHours, Cond.instanceMethod yX4_allHours, Cond.selects RX4 yX4_allHours yX4_allHours, Cond.initialized RX4, Cond.code yX4_allHours cX4_allHours 1 (some .int), Cond.fieldLink RX4 22 "SleepingCars$Route" "stops" "I", Cond.methodLink RX4 32 yX4_hoursTo, Cond.instanceMethod yX4_hoursTo, Cond.selects RX4 yX4_hoursTo yX4_hoursTo, Cond.code yX4_hoursTo cX4_hoursTo 4 (some .int), Cond.fieldLink RX4 15 "SleepingCars$Route" "legHours" "[I", Cond.methodLink RX9 254 yX4_allKm]
def wsX9_count_r2 : List Cond := [Cond.instanceMethod yX4_allKm, Cond.selects RX4 yX4_allKm yX4_allKm, Cond.code yX4_allKm cX4_allKm 3 (some .int), Cond.fieldLink RX4 9 "SleepingCars$Route" "legKm" "[I"]
def wsX9_count : List Cond := .code yX9_count cX9_count 2 (some .int) :: ((wsX9_count_r1 ++ wsX9_count_r2) ++ wsX90 ++ wsX00 ++ wsX40 ++ wsX50 ++ wsX70 ++ wsX10 ++ wsX20)
def wsX9_image_r1 : List Cond := [Cond.fieldLink RX9 16 "SleepingCars" "images" "[LSleepingCars$Book;", Cond.classLink RX9 7 RX0, Cond.instantiable RX0 10, Cond.initialized RX0, Cond.fieldLink RX9 10 "SleepingCars" "book" "LSleepingCars$Book;", Cond.instanceMethod yX0_init, Cond.code yX0_init cX0_init 1 none, Cond.methodLink RX0 3 objectInit, Cond.instanceMethod objectInit, Cond.code objectInit ⟨#[0xb1]⟩ 1 none, Cond.classLink RX0 9 RX4, Cond.instantiable RX4 3, Cond.initialized RX4, Cond.fieldLink RX0 12 "SleepingCars$Book" "route" "LSleepingCars$Route;", Cond.classLink RX0 18 RX5, Cond.instantiable RX5 4, Cond.initialized RX5, Cond.fieldLink RX0 21 "SleepingCars$Book" "runs" "LSleepingCars$Runs;", Cond.classLink RX0 25 RX7, Cond.instantiable RX7 7, Cond.initialized RX7, Cond.fieldLink RX0 28 "SleepingCars$Book" "tickets" "LSleepingCars$Tickets;", Cond.classLink RX0 32 RX1, Cond.instantiable RX1 8]
def wsX9_image_r2 : List Cond := [Cond.initialized RX1, Cond.fieldLink RX0 35 "SleepingCars$Book" "letters" "LSleepingCars$Letters;", Cond.classLink RX0 39 RX2, Cond.instantiable RX2 8, Cond.initialized RX2, Cond.fieldLink RX0 42 "SleepingCars$Book" "rates" "LSleepingCars$Rates;", Cond.arrayClass .int, Cond.fieldLink RX0 46 "SleepingCars$Book" "officeStops" "[I", Cond.fieldLink RX0 50 "SleepingCars$Book" "shares" "[I", Cond.fieldLink RX0 53 "SleepingCars$Book" "newLegs" "[I", Cond.fieldLink RX0 56 "SleepingCars$Book" "facts" "[I", Cond.methodLink RX0 11 yX4_init, Cond.instanceMethod yX4_init, Cond.code yX4_init cX4_init 1 none, Cond.methodLink RX4 3 objectInit, Cond.fieldLink RX4 9 "SleepingCars$Route" "legKm" "[I", Cond.fieldLink RX4 15 "SleepingCars$Route" "legHours" "[I", Cond.methodLink RX4 18 yX4_lay, Cond.instanceMethod yX4_lay, Cond.selects RX4 yX4_lay yX4_lay, Cond.code yX4_lay cX4_lay 2 none, Cond.fieldLink RX4 22 "SleepingCars$Route" "stops" "I", Cond.methodLink RX4 26 yJ7_fill_53178, Cond.static yJ7_fill_53178]
def wsX9_image_r3 : List Cond := [Cond.initialized RJ7, Cond.code yJ7_fill_53178 cJ7_fill_53178 4 none, Cond.instanceMethod yX5_init, Cond.code yX5_init cX5_init 1 none, Cond.methodLink RX5 3 objectInit, Cond.fieldLink RX5 9 "SleepingCars$Runs" "berths" "[I", Cond.fieldLink RX5 15 "SleepingCars$Runs" "owners" "[I", Cond.fieldLink RX5 18 "SleepingCars$Runs" "soldLegs" "[I", Cond.instanceMethod yX7_init, Cond.code yX7_init cX7_init 1 none, Cond.methodLink RX7 3 objectInit, Cond.fieldLink RX7 9 "SleepingCars$Tickets" "days" "[I", Cond.fieldLink RX7 15 "SleepingCars$Tickets" "berths" "[I", Cond.fieldLink RX7 18 "SleepingCars$Tickets" "froms" "[I", Cond.fieldLink RX7 21 "SleepingCars$Tickets" "tos" "[I", Cond.fieldLink RX7 24 "SleepingCars$Tickets" "offices" "[I", Cond.fieldLink RX7 27 "SleepingCars$Tickets" "given" "[I", Cond.instanceMethod yX1_init, Cond.code yX1_init cX1_init 1 none, Cond.methodLink RX1 3 objectInit, Cond.fieldLink RX1 9 "SleepingCars$Letters" "offices" "[I", Cond.fieldLink RX1 15 "SleepingCars$Letters" "days" "[I", Cond.fieldLink RX1 18 "SleepingCars$Letters" "froms" "[I", Cond.fieldLink RX1 21 "SleepingCars$Letters" "tos" "[I"]
def wsX9_image_r4 : List Cond := [Cond.fieldLink RX1 24 "SleepingCars$Letters" "comes" "[I", Cond.fieldLink RX1 27 "SleepingCars$Letters" "answered" "[I", Cond.fieldLink RX1 30 "SleepingCars$Letters" "sold" "[I", Cond.instanceMethod yX2_init, Cond.code yX2_init cX2_init 1 none, Cond.methodLink RX2 3 objectInit, Cond.fieldLink RX2 9 "SleepingCars$Rates" "charges" "[I", Cond.fieldLink RX2 15 "SleepingCars$Rates" "amounts" "[I", Cond.fieldLink RX2 18 "SleepingCars$Rates" "tests" "[I", Cond.fieldLink RX2 21 "SleepingCars$Rates" "subjects" "[I", Cond.fieldLink RX2 24 "SleepingCars$Rates" "signs" "[I", Cond.fieldLink RX2 27 "SleepingCars$Rates" "bounds" "[I", Cond.fieldLink RX2 30 "SleepingCars$Rates" "negated" "[I", Cond.methodLink RX9 257 yX0_copyFrom, Cond.instanceMethod yX0_copyFrom, Cond.selects RX0 yX0_copyFrom yX0_copyFrom, Cond.code yX0_copyFrom cX0_copyFrom 2 none, Cond.fieldLink RX0 67 "SleepingCars$Book" "now" "I", Cond.methodLink RX0 206 arraycopyName, Cond.native arraycopyName, Cond.static arraycopyName, Cond.initialized "java/lang/System", Cond.methodLink RX0 190 yX4_copyFrom, Cond.instanceMethod yX4_copyFrom]
def wsX9_image_r5 : List Cond := [Cond.selects RX4 yX4_copyFrom yX4_copyFrom, Cond.code yX4_copyFrom cX4_copyFrom 2 none, Cond.methodLink RX4 36 arraycopyName, Cond.methodLink RX0 194 yX5_copyFrom, Cond.instanceMethod yX5_copyFrom, Cond.selects RX5 yX5_copyFrom yX5_copyFrom, Cond.code yX5_copyFrom cX5_copyFrom 2 none, Cond.fieldLink RX5 25 "SleepingCars$Runs" "size" "I", Cond.methodLink RX5 29 arraycopyName, Cond.methodLink RX0 197 yX7_copyFrom, Cond.instanceMethod yX7_copyFrom, Cond.selects RX7 yX7_copyFrom yX7_copyFrom, Cond.code yX7_copyFrom cX7_copyFrom 2 none, Cond.fieldLink RX7 30 "SleepingCars$Tickets" "size" "I", Cond.methodLink RX7 46 arraycopyName, Cond.methodLink RX0 200 yX1_copyFrom, Cond.instanceMethod yX1_copyFrom, Cond.selects RX1 yX1_copyFrom yX1_copyFrom, Cond.code yX1_copyFrom cX1_copyFrom 2 none, Cond.fieldLink RX1 33 "SleepingCars$Letters" "size" "I", Cond.methodLink RX1 37 arraycopyName, Cond.methodLink RX0 203 yX2_copyFrom, Cond.instanceMethod yX2_copyFrom, Cond.selects RX2 yX2_copyFrom yX2_copyFrom]
def wsX9_image_r6 : List Cond := [Cond.code yX2_copyFrom cX2_copyFrom 2 none, Cond.fieldLink RX2 33 "SleepingCars$Rates" "lines" "I", Cond.methodLink RX2 62 arraycopyName]
def wsX9_image : List Cond := .code yX9_image cX9_image 2 (some .boolean) :: ((wsX9_image_r1 ++ (wsX9_image_r2 ++ (wsX9_image_r3 ++ (wsX9_image_r4 ++ (wsX9_image_r5 ++ wsX9_image_r6))))) ++ wsX90 ++ wsX00 ++ wsX40 ++ wsX50 ++ wsX70 ++ wsX10 ++ wsX20)
def wsX9_again_r1 : List Cond := [Cond.fieldLink RX9 16 "SleepingCars" "images" "[LSleepingCars$Book;", Cond.fieldLink RX9 10 "SleepingCars" "book" "LSleepingCars$Book;", Cond.methodLink RX9 257 yX0_copyFrom, Cond.instanceMethod yX0_copyFrom, Cond.selects RX0 yX0_copyFrom yX0_copyFrom, Cond.initialized RX0, Cond.code yX0_copyFrom cX0_copyFrom 2 none, Cond.fieldLink RX0 67 "SleepingCars$Book" "now" "I", Cond.fieldLink RX0 12 "SleepingCars$Book" "route" "LSleepingCars$Route;", Cond.fieldLink RX0 21 "SleepingCars$Book" "runs" "LSleepingCars$Runs;", Cond.fieldLink RX0 28 "SleepingCars$Book" "tickets" "LSleepingCars$Tickets;", Cond.fieldLink RX0 35 "SleepingCars$Book" "letters" "LSleepingCars$Letters;", Cond.fieldLink RX0 42 "SleepingCars$Book" "rates" "LSleepingCars$Rates;", Cond.fieldLink RX0 46 "SleepingCars$Book" "officeStops" "[I", Cond.methodLink RX0 206 arraycopyName, Cond.native arraycopyName, Cond.static arraycopyName, Cond.initialized "java/lang/System", Cond.fieldLink RX0 50 "SleepingCars$Book" "shares" "[I", Cond.methodLink RX0 190 yX4_copyFrom, Cond.instanceMethod yX4_copyFrom, Cond.selects RX4 yX4_copyFrom yX4_copyFrom, Cond.initialized RX4, Cond.code yX4_copyFrom cX4_copyFrom 2 none]
def wsX9_again_r2 : List Cond := [Cond.fieldLink RX4 22 "SleepingCars$Route" "stops" "I", Cond.fieldLink RX4 9 "SleepingCars$Route" "legKm" "[I", Cond.methodLink RX4 36 arraycopyName, Cond.fieldLink RX4 15 "SleepingCars$Route" "legHours" "[I", Cond.methodLink RX0 194 yX5_copyFrom, Cond.instanceMethod yX5_copyFrom, Cond.selects RX5 yX5_copyFrom yX5_copyFrom, Cond.initialized RX5, Cond.code yX5_copyFrom cX5_copyFrom 2 none, Cond.fieldLink RX5 25 "SleepingCars$Runs" "size" "I", Cond.fieldLink RX5 9 "SleepingCars$Runs" "berths" "[I", Cond.methodLink RX5 29 arraycopyName, Cond.fieldLink RX5 15 "SleepingCars$Runs" "owners" "[I", Cond.fieldLink RX5 18 "SleepingCars$Runs" "soldLegs" "[I", Cond.methodLink RX0 197 yX7_copyFrom, Cond.instanceMethod yX7_copyFrom, Cond.selects RX7 yX7_copyFrom yX7_copyFrom, Cond.initialized RX7, Cond.code yX7_copyFrom cX7_copyFrom 2 none, Cond.fieldLink RX7 30 "SleepingCars$Tickets" "size" "I", Cond.fieldLink RX7 9 "SleepingCars$Tickets" "days" "[I", Cond.methodLink RX7 46 arraycopyName, Cond.fieldLink RX7 15 "SleepingCars$Tickets" "berths" "[I", Cond.fieldLink RX7 18 "SleepingCars$Tickets" "froms" "[I"]
def wsX9_again_r3 : List Cond := [Cond.fieldLink RX7 21 "SleepingCars$Tickets" "tos" "[I", Cond.fieldLink RX7 24 "SleepingCars$Tickets" "offices" "[I", Cond.fieldLink RX7 27 "SleepingCars$Tickets" "given" "[I", Cond.methodLink RX0 200 yX1_copyFrom, Cond.instanceMethod yX1_copyFrom, Cond.selects RX1 yX1_copyFrom yX1_copyFrom, Cond.initialized RX1, Cond.code yX1_copyFrom cX1_copyFrom 2 none, Cond.fieldLink RX1 33 "SleepingCars$Letters" "size" "I", Cond.fieldLink RX1 9 "SleepingCars$Letters" "offices" "[I", Cond.methodLink RX1 37 arraycopyName, Cond.fieldLink RX1 15 "SleepingCars$Letters" "days" "[I", Cond.fieldLink RX1 18 "SleepingCars$Letters" "froms" "[I", Cond.fieldLink RX1 21 "SleepingCars$Letters" "tos" "[I", Cond.fieldLink RX1 24 "SleepingCars$Letters" "comes" "[I", Cond.fieldLink RX1 27 "SleepingCars$Letters" "answered" "[I", Cond.fieldLink RX1 30 "SleepingCars$Letters" "sold" "[I", Cond.methodLink RX0 203 yX2_copyFrom, Cond.instanceMethod yX2_copyFrom, Cond.selects RX2 yX2_copyFrom yX2_copyFrom, Cond.initialized RX2, Cond.code yX2_copyFrom cX2_copyFrom 2 none, Cond.fieldLink RX2 33 "SleepingCars$Rates" "lines" "I", Cond.fieldLink RX2 9 "SleepingCars$Rates" "charges" "[I"]
def wsX9_again_r4 : List Cond := [Cond.methodLink RX2 62 arraycopyName, Cond.fieldLink RX2 15 "SleepingCars$Rates" "amounts" "[I", Cond.fieldLink RX2 18 "SleepingCars$Rates" "tests" "[I", Cond.fieldLink RX2 21 "SleepingCars$Rates" "subjects" "[I", Cond.fieldLink RX2 24 "SleepingCars$Rates" "signs" "[I", Cond.fieldLink RX2 27 "SleepingCars$Rates" "bounds" "[I", Cond.fieldLink RX2 30 "SleepingCars$Rates" "negated" "[I"]
def wsX9_again : List Cond := .code yX9_again cX9_again 2 (some .boolean) :: ((wsX9_again_r1 ++ (wsX9_again_r2 ++ (wsX9_again_r3 ++ wsX9_again_r4))) ++ wsX90 ++ wsX00 ++ wsX40 ++ wsX50 ++ wsX70 ++ wsX10 ++ wsX20)
def wsX10_init_r1 : List Cond := [Cond.methodLink RX10 1 objectInit, Cond.instanceMethod objectInit, Cond.code objectInit ⟨#[0xb1]⟩ 1 none, Cond.arrayClass .byte, Cond.fieldLink RX10 7 "SleepingCarsModel" "tape" "[B", Cond.arrayClass .int, Cond.fieldLink RX10 13 "SleepingCarsModel" "stops" "[I", Cond.fieldLink RX10 17 "SleepingCarsModel" "km" "[I", Cond.fieldLink RX10 20 "SleepingCarsModel" "takes" "[I", Cond.fieldLink RX10 23 "SleepingCarsModel" "officeAt" "[I", Cond.fieldLink RX10 26 "SleepingCarsModel" "shares" "[I", Cond.fieldLink RX10 29 "SleepingCarsModel" "berths" "[I", Cond.fieldLink RX10 32 "SleepingCarsModel" "owner" "[I", Cond.fieldLink RX10 35 "SleepingCarsModel" "lies" "[I", Cond.fieldLink RX10 38 "SleepingCarsModel" "tickets" "[I", Cond.fieldLink RX10 41 "SleepingCarsModel" "tDay" "[I", Cond.fieldLink RX10 44 "SleepingCarsModel" "tBerth" "[I", Cond.fieldLink RX10 47 "SleepingCarsModel" "tFrom" "[I", Cond.fieldLink RX10 50 "SleepingCarsModel" "tTo" "[I", Cond.fieldLink RX10 53 "SleepingCarsModel" "tOffice" "[I", Cond.fieldLink RX10 56 "SleepingCarsModel" "tBack" "[I", Cond.fieldLink RX10 59 "SleepingCarsModel" "letters" "[I", Cond.fieldLink RX10 62 "SleepingCarsModel" "lComes" "[I", Cond.fieldLink RX10 65 "SleepingCarsModel" "lAnswer" "[I"]
def wsX10_init_r2 : List Cond := [Cond.fieldLink RX10 68 "SleepingCarsModel" "lOffice" "[I", Cond.fieldLink RX10 71 "SleepingCarsModel" "lDay" "[I", Cond.fieldLink RX10 74 "SleepingCarsModel" "lFrom" "[I", Cond.fieldLink RX10 77 "SleepingCarsModel" "lTo" "[I", Cond.fieldLink RX10 80 "SleepingCarsModel" "lTicket" "[I", Cond.fieldLink RX10 83 "SleepingCarsModel" "now" "[I", Cond.fieldLink RX10 86 "SleepingCarsModel" "lines" "[I", Cond.fieldLink RX10 89 "SleepingCarsModel" "lineTests" "[I", Cond.fieldLink RX10 92 "SleepingCarsModel" "testWhat" "[I", Cond.fieldLink RX10 95 "SleepingCarsModel" "testSign" "[I", Cond.fieldLink RX10 98 "SleepingCarsModel" "testThan" "[I", Cond.fieldLink RX10 101 "SleepingCarsModel" "lineAct" "[I", Cond.fieldLink RX10 104 "SleepingCarsModel" "lineNumber" "[I", Cond.fieldLink RX10 107 "SleepingCarsModel" "free" "[I", Cond.fieldLink RX10 110 "SleepingCarsModel" "newBerth" "[I", Cond.fieldLink RX10 113 "SleepingCarsModel" "faultPlace" "I", Cond.fieldLink RX10 117 "SleepingCarsModel" "newTests" "[I", Cond.fieldLink RX10 120 "SleepingCarsModel" "newWhat" "[I", Cond.fieldLink RX10 123 "SleepingCarsModel" "newSign" "[I", Cond.fieldLink RX10 126 "SleepingCarsModel" "newThan" "[I", Cond.fieldLink RX10 129 "SleepingCarsModel" "newAct" "[I", Cond.fieldLink RX10 132 "SleepingCarsModel" "newNumber" "[I", Cond.arrayClass .boolean, Cond.fieldLink RX10 135 "SleepingCarsModel" "has" "[Z"]
def wsX10_init : List Cond := .code yX10_init cX10_init 2 none :: ((wsX10_init_r1 ++ wsX10_init_r2) ++ wsX100)
def wsX10_in : List Cond := .code yX10_in cX10_in 3 (some .boolean) :: ([])
def wsX10_move : List Cond := .code yX10_move cX10_move 5 none :: ([])
def wsX10_copy_r1 : List Cond := [Cond.fieldLink RX10 13 "SleepingCarsModel" "stops" "[I", Cond.fieldLink RX10 17 "SleepingCarsModel" "km" "[I", Cond.fieldLink RX10 20 "SleepingCarsModel" "takes" "[I", Cond.fieldLink RX10 23 "SleepingCarsModel" "officeAt" "[I", Cond.fieldLink RX10 26 "SleepingCarsModel" "shares" "[I", Cond.fieldLink RX10 29 "SleepingCarsModel" "berths" "[I", Cond.fieldLink RX10 32 "SleepingCarsModel" "owner" "[I", Cond.fieldLink RX10 35 "SleepingCarsModel" "lies" "[I", Cond.fieldLink RX10 38 "SleepingCarsModel" "tickets" "[I", Cond.fieldLink RX10 41 "SleepingCarsModel" "tDay" "[I", Cond.fieldLink RX10 44 "SleepingCarsModel" "tBerth" "[I", Cond.fieldLink RX10 47 "SleepingCarsModel" "tFrom" "[I", Cond.fieldLink RX10 50 "SleepingCarsModel" "tTo" "[I", Cond.fieldLink RX10 53 "SleepingCarsModel" "tOffice" "[I", Cond.fieldLink RX10 56 "SleepingCarsModel" "tBack" "[I", Cond.fieldLink RX10 59 "SleepingCarsModel" "letters" "[I", Cond.fieldLink RX10 62 "SleepingCarsModel" "lComes" "[I", Cond.fieldLink RX10 65 "SleepingCarsModel" "lAnswer" "[I", Cond.fieldLink RX10 68 "SleepingCarsModel" "lOffice" "[I", Cond.fieldLink RX10 71 "SleepingCarsModel" "lDay" "[I", Cond.fieldLink RX10 74 "SleepingCarsModel" "lFrom" "[I", Cond.fieldLink RX10 77 "SleepingCarsModel" "lTo" "[I", Cond.fieldLink RX10 80 "SleepingCarsModel" "lTicket" "[I", Cond.fieldLink RX10 83 "SleepingCarsModel" "now" "[I"]
def wsX10_copy_r2 : List Cond := [Cond.fieldLink RX10 86 "SleepingCarsModel" "lines" "[I", Cond.fieldLink RX10 89 "SleepingCarsModel" "lineTests" "[I", Cond.fieldLink RX10 92 "SleepingCarsModel" "testWhat" "[I", Cond.fieldLink RX10 95 "SleepingCarsModel" "testSign" "[I", Cond.fieldLink RX10 98 "SleepingCarsModel" "testThan" "[I", Cond.fieldLink RX10 101 "SleepingCarsModel" "lineAct" "[I", Cond.fieldLink RX10 104 "SleepingCarsModel" "lineNumber" "[I", Cond.methodLink RX10 142 yX10_move, Cond.static yX10_move, Cond.initialized RX10, Cond.code yX10_move cX10_move 5 none]
def wsX10_copy : List Cond := .code yX10_copy cX10_copy 3 none :: ((wsX10_copy_r1 ++ wsX10_copy_r2) ++ wsX100)
def wsX10_runs : List Cond := .code yX10_runs cX10_runs 3 (some .int) :: ([.fieldLink RX10 29 "SleepingCarsModel" "berths" "[I"] ++ wsX100)
def wsX10_isRun : List Cond := .code yX10_isRun cX10_isRun 2 (some .boolean) :: ([.fieldLink RX10 29 "SleepingCarsModel" "berths" "[I", .methodLink RX10 146 yX10_in, .static yX10_in, .initialized RX10, .code yX10_in cX10_in 3 (some .boolean)] ++ wsX100)
def wsX10_isOffice : List Cond := .code yX10_isOffice cX10_isOffice 2 (some .boolean) :: ([.methodLink RX10 146 yX10_in, .static yX10_in, .initialized RX10, .code yX10_in cX10_in 3 (some .boolean)])
def wsX10_upTo : List Cond := .code yX10_upTo cX10_upTo 4 (some .int) :: ([.fieldLink RX10 20 "SleepingCarsModel" "takes" "[I"] ++ wsX100)
def wsX10_leaves : List Cond := .code yX10_leaves cX10_leaves 3 (some .int) :: ([.methodLink RX10 150 yX10_upTo, .instanceMethod yX10_upTo, .selects RX10 yX10_upTo yX10_upTo, .initialized RX10, .code yX10_upTo cX10_upTo 4 (some .int), .fieldLink RX10 20 "SleepingCarsModel" "takes" "[I"] ++ wsX100)
def wsX10_at : List Cond := .code yX10_at cX10_at 4 (some .int) :: ([])
def wsX10_line : List Cond := .code yX10_line cX10_line 3 (some .boolean) :: ([.fieldLink RX10 139 "SleepingCarsModel" "code" "I", .fieldLink RX10 13 "SleepingCarsModel" "stops" "[I", .fieldLink RX10 17 "SleepingCarsModel" "km" "[I", .fieldLink RX10 20 "SleepingCarsModel" "takes" "[I", .fieldLink RX10 23 "SleepingCarsModel" "officeAt" "[I", .methodLink RX10 154 yX10_runs, .instanceMethod yX10_runs, .selects RX10 yX10_runs yX10_runs, .initialized RX10, .code yX10_runs cX10_runs 3 (some .int), .fieldLink RX10 29 "SleepingCarsModel" "berths" "[I", .methodLink RX10 146 yX10_in, .static yX10_in, .code yX10_in cX10_in 3 (some .boolean)] ++ wsX100)
def wsX10_stretch : List Cond := .code yX10_stretch cX10_stretch 4 (some .boolean) :: ([.fieldLink RX10 139 "SleepingCarsModel" "code" "I", .fieldLink RX10 13 "SleepingCarsModel" "stops" "[I", .fieldLink RX10 17 "SleepingCarsModel" "km" "[I", .fieldLink RX10 20 "SleepingCarsModel" "takes" "[I", .methodLink RX10 154 yX10_runs, .instanceMethod yX10_runs, .selects RX10 yX10_runs yX10_runs, .initialized RX10, .code yX10_runs cX10_runs 3 (some .int), .fieldLink RX10 29 "SleepingCarsModel" "berths" "[I", .methodLink RX10 146 yX10_in, .static yX10_in, .code yX10_in cX10_in 3 (some .boolean)] ++ wsX100)
def wsX10_office : List Cond := .code yX10_office cX10_office 3 (some .boolean) :: ([.fieldLink RX10 139 "SleepingCarsModel" "code" "I", .fieldLink RX10 13 "SleepingCarsModel" "stops" "[I", .fieldLink RX10 23 "SleepingCarsModel" "officeAt" "[I", .methodLink RX10 154 yX10_runs, .instanceMethod yX10_runs, .selects RX10 yX10_runs yX10_runs, .initialized RX10, .code yX10_runs cX10_runs 3 (some .int), .fieldLink RX10 29 "SleepingCarsModel" "berths" "[I", .methodLink RX10 158 yX10_isOffice, .instanceMethod yX10_isOffice, .selects RX10 yX10_isOffice yX10_isOffice, .code yX10_isOffice cX10_isOffice 2 (some .boolean), .methodLink RX10 146 yX10_in, .static yX10_in, .code yX10_in cX10_in 3 (some .boolean)] ++ wsX100)
def wsX10_share : List Cond := .code yX10_share cX10_share 3 (some .boolean) :: ([.fieldLink RX10 139 "SleepingCarsModel" "code" "I", .fieldLink RX10 26 "SleepingCarsModel" "shares" "[I", .methodLink RX10 146 yX10_in, .static yX10_in, .initialized RX10, .code yX10_in cX10_in 3 (some .boolean), .methodLink RX10 158 yX10_isOffice, .instanceMethod yX10_isOffice, .selects RX10 yX10_isOffice yX10_isOffice, .code yX10_isOffice cX10_isOffice 2 (some .boolean)] ++ wsX100)
def wsX10_run : List Cond := .code yX10_run cX10_run 4 (some .boolean) :: ([.fieldLink RX10 139 "SleepingCarsModel" "code" "I", .fieldLink RX10 29 "SleepingCarsModel" "berths" "[I", .fieldLink RX10 83 "SleepingCarsModel" "now" "[I", .fieldLink RX10 32 "SleepingCarsModel" "owner" "[I", .fieldLink RX10 26 "SleepingCarsModel" "shares" "[I", .methodLink RX10 146 yX10_in, .static yX10_in, .initialized RX10, .code yX10_in cX10_in 3 (some .boolean)] ++ wsX100)
def wsX10_isStretch : List Cond := .code yX10_isStretch cX10_isStretch 3 (some .boolean) :: ([.fieldLink RX10 13 "SleepingCarsModel" "stops" "[I"] ++ wsX100)
def wsX10_isFree : List Cond := .code yX10_isFree cX10_isFree 6 (some .boolean) :: ([.fieldLink RX10 35 "SleepingCarsModel" "lies" "[I", .methodLink RX10 162 yX10_at, .instanceMethod yX10_at, .selects RX10 yX10_at yX10_at, .initialized RX10, .code yX10_at cX10_at 4 (some .int)] ++ wsX100)
def wsX10_gap : List Cond := .code yX10_gap cX10_gap 7 (some .int) :: ([.fieldLink RX10 35 "SleepingCarsModel" "lies" "[I", .fieldLink RX10 13 "SleepingCarsModel" "stops" "[I", .methodLink RX10 162 yX10_at, .instanceMethod yX10_at, .selects RX10 yX10_at yX10_at, .initialized RX10, .code yX10_at cX10_at 4 (some .int)] ++ wsX100)
def wsX10_canAsk : List Cond := .code yX10_canAsk cX10_canAsk 5 (some .boolean) :: ([.fieldLink RX10 38 "SleepingCarsModel" "tickets" "[I", .methodLink RX10 158 yX10_isOffice, .instanceMethod yX10_isOffice, .selects RX10 yX10_isOffice yX10_isOffice, .initialized RX10, .code yX10_isOffice cX10_isOffice 2 (some .boolean), .methodLink RX10 146 yX10_in, .static yX10_in, .code yX10_in cX10_in 3 (some .boolean), .methodLink RX10 166 yX10_isRun, .instanceMethod yX10_isRun, .selects RX10 yX10_isRun yX10_isRun, .code yX10_isRun cX10_isRun 2 (some .boolean), .fieldLink RX10 29 "SleepingCarsModel" "berths" "[I", .methodLink RX10 169 yX10_isStretch, .instanceMethod yX10_isStretch, .selects RX10 yX10_isStretch yX10_isStretch, .code yX10_isStretch cX10_isStretch 3 (some .boolean), .fieldLink RX10 13 "SleepingCarsModel" "stops" "[I"] ++ wsX100)
def wsX10_sells_r1 : List Cond := [Cond.fieldLink RX10 38 "SleepingCarsModel" "tickets" "[I", Cond.fieldLink RX10 83 "SleepingCarsModel" "now" "[I", Cond.fieldLink RX10 29 "SleepingCarsModel" "berths" "[I", Cond.fieldLink RX10 32 "SleepingCarsModel" "owner" "[I", Cond.fieldLink RX10 41 "SleepingCarsModel" "tDay" "[I", Cond.fieldLink RX10 44 "SleepingCarsModel" "tBerth" "[I", Cond.fieldLink RX10 47 "SleepingCarsModel" "tFrom" "[I", Cond.fieldLink RX10 50 "SleepingCarsModel" "tTo" "[I", Cond.fieldLink RX10 53 "SleepingCarsModel" "tOffice" "[I", Cond.fieldLink RX10 56 "SleepingCarsModel" "tBack" "[I", Cond.fieldLink RX10 35 "SleepingCarsModel" "lies" "[I", Cond.methodLink RX10 173 yX10_leaves, Cond.instanceMethod yX10_leaves, Cond.selects RX10 yX10_leaves yX10_leaves, Cond.initialized RX10, Cond.code yX10_leaves cX10_leaves 3 (some .int), Cond.methodLink RX10 150 yX10_upTo, Cond.instanceMethod yX10_upTo, Cond.selects RX10 yX10_upTo yX10_upTo, Cond.code yX10_upTo cX10_upTo 4 (some .int), Cond.fieldLink RX10 20 "SleepingCarsModel" "takes" "[I", Cond.methodLink RX10 177 yX10_isFree, Cond.instanceMethod yX10_isFree, Cond.selects RX10 yX10_isFree yX10_isFree]
def wsX10_sells_r2 : List Cond := [Cond.code yX10_isFree cX10_isFree 6 (some .boolean), Cond.methodLink RX10 162 yX10_at, Cond.instanceMethod yX10_at, Cond.selects RX10 yX10_at yX10_at, Cond.code yX10_at cX10_at 4 (some .int), Cond.methodLink RX10 181 yX10_gap, Cond.instanceMethod yX10_gap, Cond.selects RX10 yX10_gap yX10_gap, Cond.code yX10_gap cX10_gap 7 (some .int), Cond.fieldLink RX10 13 "SleepingCarsModel" "stops" "[I"]
def wsX10_sells : List Cond := .code yX10_sells cX10_sells 10 (some .int) :: ((wsX10_sells_r1 ++ wsX10_sells_r2) ++ wsX100)
def wsX10_sell_r1 : List Cond := [Cond.fieldLink RX10 139 "SleepingCarsModel" "code" "I", Cond.methodLink RX10 185 yX10_canAsk, Cond.instanceMethod yX10_canAsk, Cond.selects RX10 yX10_canAsk yX10_canAsk, Cond.initialized RX10, Cond.code yX10_canAsk cX10_canAsk 5 (some .boolean), Cond.fieldLink RX10 38 "SleepingCarsModel" "tickets" "[I", Cond.methodLink RX10 158 yX10_isOffice, Cond.instanceMethod yX10_isOffice, Cond.selects RX10 yX10_isOffice yX10_isOffice, Cond.code yX10_isOffice cX10_isOffice 2 (some .boolean), Cond.methodLink RX10 146 yX10_in, Cond.static yX10_in, Cond.code yX10_in cX10_in 3 (some .boolean), Cond.methodLink RX10 166 yX10_isRun, Cond.instanceMethod yX10_isRun, Cond.selects RX10 yX10_isRun yX10_isRun, Cond.code yX10_isRun cX10_isRun 2 (some .boolean), Cond.fieldLink RX10 29 "SleepingCarsModel" "berths" "[I", Cond.methodLink RX10 169 yX10_isStretch, Cond.instanceMethod yX10_isStretch, Cond.selects RX10 yX10_isStretch yX10_isStretch, Cond.code yX10_isStretch cX10_isStretch 3 (some .boolean), Cond.fieldLink RX10 13 "SleepingCarsModel" "stops" "[I"]
def wsX10_sell_r2 : List Cond := [Cond.methodLink RX10 188 yX10_sells, Cond.instanceMethod yX10_sells, Cond.selects RX10 yX10_sells yX10_sells, Cond.code yX10_sells cX10_sells 10 (some .int), Cond.fieldLink RX10 83 "SleepingCarsModel" "now" "[I", Cond.fieldLink RX10 32 "SleepingCarsModel" "owner" "[I", Cond.fieldLink RX10 41 "SleepingCarsModel" "tDay" "[I", Cond.fieldLink RX10 44 "SleepingCarsModel" "tBerth" "[I", Cond.fieldLink RX10 47 "SleepingCarsModel" "tFrom" "[I", Cond.fieldLink RX10 50 "SleepingCarsModel" "tTo" "[I", Cond.fieldLink RX10 53 "SleepingCarsModel" "tOffice" "[I", Cond.fieldLink RX10 56 "SleepingCarsModel" "tBack" "[I", Cond.fieldLink RX10 35 "SleepingCarsModel" "lies" "[I", Cond.methodLink RX10 173 yX10_leaves, Cond.instanceMethod yX10_leaves, Cond.selects RX10 yX10_leaves yX10_leaves, Cond.code yX10_leaves cX10_leaves 3 (some .int), Cond.methodLink RX10 150 yX10_upTo, Cond.instanceMethod yX10_upTo, Cond.selects RX10 yX10_upTo yX10_upTo, Cond.code yX10_upTo cX10_upTo 4 (some .int), Cond.fieldLink RX10 20 "SleepingCarsModel" "takes" "[I", Cond.methodLink RX10 177 yX10_isFree, Cond.instanceMethod yX10_isFree]
def wsX10_sell_r3 : List Cond := [Cond.selects RX10 yX10_isFree yX10_isFree, Cond.code yX10_isFree cX10_isFree 6 (some .boolean), Cond.methodLink RX10 162 yX10_at, Cond.instanceMethod yX10_at, Cond.selects RX10 yX10_at yX10_at, Cond.code yX10_at cX10_at 4 (some .int), Cond.methodLink RX10 181 yX10_gap, Cond.instanceMethod yX10_gap, Cond.selects RX10 yX10_gap yX10_gap, Cond.code yX10_gap cX10_gap 7 (some .int)]
def wsX10_sell : List Cond := .code yX10_sell cX10_sell 5 (some .int) :: ((wsX10_sell_r1 ++ (wsX10_sell_r2 ++ wsX10_sell_r3)) ++ wsX100)
def wsX10_back_r1 : List Cond := [Cond.fieldLink RX10 139 "SleepingCarsModel" "code" "I", Cond.fieldLink RX10 38 "SleepingCarsModel" "tickets" "[I", Cond.fieldLink RX10 56 "SleepingCarsModel" "tBack" "[I", Cond.fieldLink RX10 83 "SleepingCarsModel" "now" "[I", Cond.fieldLink RX10 41 "SleepingCarsModel" "tDay" "[I", Cond.fieldLink RX10 47 "SleepingCarsModel" "tFrom" "[I", Cond.fieldLink RX10 50 "SleepingCarsModel" "tTo" "[I", Cond.fieldLink RX10 35 "SleepingCarsModel" "lies" "[I", Cond.fieldLink RX10 44 "SleepingCarsModel" "tBerth" "[I", Cond.methodLink RX10 146 yX10_in, Cond.static yX10_in, Cond.initialized RX10, Cond.code yX10_in cX10_in 3 (some .boolean), Cond.methodLink RX10 173 yX10_leaves, Cond.instanceMethod yX10_leaves, Cond.selects RX10 yX10_leaves yX10_leaves, Cond.code yX10_leaves cX10_leaves 3 (some .int), Cond.methodLink RX10 150 yX10_upTo, Cond.instanceMethod yX10_upTo, Cond.selects RX10 yX10_upTo yX10_upTo, Cond.code yX10_upTo cX10_upTo 4 (some .int), Cond.fieldLink RX10 20 "SleepingCarsModel" "takes" "[I", Cond.methodLink RX10 162 yX10_at, Cond.instanceMethod yX10_at]
def wsX10_back_r2 : List Cond := [Cond.selects RX10 yX10_at yX10_at, Cond.code yX10_at cX10_at 4 (some .int)]
def wsX10_back : List Cond := .code yX10_back cX10_back 3 (some .boolean) :: ((wsX10_back_r1 ++ wsX10_back_r2) ++ wsX100)
def wsX10_between : List Cond := .code yX10_between cX10_between 4 (some .int) :: ([.fieldLink RX10 23 "SleepingCarsModel" "officeAt" "[I", .methodLink RX10 150 yX10_upTo, .instanceMethod yX10_upTo, .selects RX10 yX10_upTo yX10_upTo, .initialized RX10, .code yX10_upTo cX10_upTo 4 (some .int), .fieldLink RX10 20 "SleepingCarsModel" "takes" "[I"] ++ wsX100)
def wsX10_letter_r1 : List Cond := [Cond.fieldLink RX10 139 "SleepingCarsModel" "code" "I", Cond.fieldLink RX10 59 "SleepingCarsModel" "letters" "[I", Cond.fieldLink RX10 62 "SleepingCarsModel" "lComes" "[I", Cond.fieldLink RX10 83 "SleepingCarsModel" "now" "[I", Cond.fieldLink RX10 65 "SleepingCarsModel" "lAnswer" "[I", Cond.fieldLink RX10 68 "SleepingCarsModel" "lOffice" "[I", Cond.fieldLink RX10 71 "SleepingCarsModel" "lDay" "[I", Cond.fieldLink RX10 74 "SleepingCarsModel" "lFrom" "[I", Cond.fieldLink RX10 77 "SleepingCarsModel" "lTo" "[I", Cond.fieldLink RX10 80 "SleepingCarsModel" "lTicket" "[I", Cond.methodLink RX10 158 yX10_isOffice, Cond.instanceMethod yX10_isOffice, Cond.selects RX10 yX10_isOffice yX10_isOffice, Cond.initialized RX10, Cond.code yX10_isOffice cX10_isOffice 2 (some .boolean), Cond.methodLink RX10 146 yX10_in, Cond.static yX10_in, Cond.code yX10_in cX10_in 3 (some .boolean), Cond.methodLink RX10 185 yX10_canAsk, Cond.instanceMethod yX10_canAsk, Cond.selects RX10 yX10_canAsk yX10_canAsk, Cond.code yX10_canAsk cX10_canAsk 5 (some .boolean), Cond.fieldLink RX10 38 "SleepingCarsModel" "tickets" "[I", Cond.methodLink RX10 166 yX10_isRun]
def wsX10_letter_r2 : List Cond := [Cond.instanceMethod yX10_isRun, Cond.selects RX10 yX10_isRun yX10_isRun, Cond.code yX10_isRun cX10_isRun 2 (some .boolean), Cond.fieldLink RX10 29 "SleepingCarsModel" "berths" "[I", Cond.methodLink RX10 169 yX10_isStretch, Cond.instanceMethod yX10_isStretch, Cond.selects RX10 yX10_isStretch yX10_isStretch, Cond.code yX10_isStretch cX10_isStretch 3 (some .boolean), Cond.fieldLink RX10 13 "SleepingCarsModel" "stops" "[I", Cond.methodLink RX10 191 yX10_between, Cond.instanceMethod yX10_between, Cond.selects RX10 yX10_between yX10_between, Cond.code yX10_between cX10_between 4 (some .int), Cond.fieldLink RX10 23 "SleepingCarsModel" "officeAt" "[I", Cond.methodLink RX10 150 yX10_upTo, Cond.instanceMethod yX10_upTo, Cond.selects RX10 yX10_upTo yX10_upTo, Cond.code yX10_upTo cX10_upTo 4 (some .int), Cond.fieldLink RX10 20 "SleepingCarsModel" "takes" "[I"]
def wsX10_letter : List Cond := .code yX10_letter cX10_letter 7 (some .int) :: ((wsX10_letter_r1 ++ wsX10_letter_r2) ++ wsX100)
def wsX10_post : List Cond := .code yX10_post cX10_post 3 (some .int) :: ([.fieldLink RX10 139 "SleepingCarsModel" "code" "I", .fieldLink RX10 59 "SleepingCarsModel" "letters" "[I", .fieldLink RX10 62 "SleepingCarsModel" "lComes" "[I", .fieldLink RX10 65 "SleepingCarsModel" "lAnswer" "[I", .fieldLink RX10 83 "SleepingCarsModel" "now" "[I", .fieldLink RX10 80 "SleepingCarsModel" "lTicket" "[I", .methodLink RX10 146 yX10_in, .static yX10_in, .initialized RX10, .code yX10_in cX10_in 3 (some .boolean)] ++ wsX100)
def wsX10_hours_r1 : List Cond := [Cond.fieldLink RX10 139 "SleepingCarsModel" "code" "I", Cond.fieldLink RX10 83 "SleepingCarsModel" "now" "[I", Cond.fieldLink RX10 59 "SleepingCarsModel" "letters" "[I", Cond.fieldLink RX10 62 "SleepingCarsModel" "lComes" "[I", Cond.fieldLink RX10 80 "SleepingCarsModel" "lTicket" "[I", Cond.fieldLink RX10 68 "SleepingCarsModel" "lOffice" "[I", Cond.fieldLink RX10 71 "SleepingCarsModel" "lDay" "[I", Cond.fieldLink RX10 74 "SleepingCarsModel" "lFrom" "[I", Cond.fieldLink RX10 77 "SleepingCarsModel" "lTo" "[I", Cond.methodLink RX10 146 yX10_in, Cond.static yX10_in, Cond.initialized RX10, Cond.code yX10_in cX10_in 3 (some .boolean), Cond.methodLink RX10 188 yX10_sells, Cond.instanceMethod yX10_sells, Cond.selects RX10 yX10_sells yX10_sells, Cond.code yX10_sells cX10_sells 10 (some .int), Cond.fieldLink RX10 38 "SleepingCarsModel" "tickets" "[I", Cond.fieldLink RX10 29 "SleepingCarsModel" "berths" "[I", Cond.fieldLink RX10 32 "SleepingCarsModel" "owner" "[I", Cond.fieldLink RX10 41 "SleepingCarsModel" "tDay" "[I", Cond.fieldLink RX10 44 "SleepingCarsModel" "tBerth" "[I", Cond.fieldLink RX10 47 "SleepingCarsModel" "tFrom" "[I", Cond.fieldLink RX10 50 "SleepingCarsModel" "tTo" "[I"]
def wsX10_hours_r2 : List Cond := [Cond.fieldLink RX10 53 "SleepingCarsModel" "tOffice" "[I", Cond.fieldLink RX10 56 "SleepingCarsModel" "tBack" "[I", Cond.fieldLink RX10 35 "SleepingCarsModel" "lies" "[I", Cond.methodLink RX10 173 yX10_leaves, Cond.instanceMethod yX10_leaves, Cond.selects RX10 yX10_leaves yX10_leaves, Cond.code yX10_leaves cX10_leaves 3 (some .int), Cond.methodLink RX10 150 yX10_upTo, Cond.instanceMethod yX10_upTo, Cond.selects RX10 yX10_upTo yX10_upTo, Cond.code yX10_upTo cX10_upTo 4 (some .int), Cond.fieldLink RX10 20 "SleepingCarsModel" "takes" "[I", Cond.methodLink RX10 177 yX10_isFree, Cond.instanceMethod yX10_isFree, Cond.selects RX10 yX10_isFree yX10_isFree, Cond.code yX10_isFree cX10_isFree 6 (some .boolean), Cond.methodLink RX10 162 yX10_at, Cond.instanceMethod yX10_at, Cond.selects RX10 yX10_at yX10_at, Cond.code yX10_at cX10_at 4 (some .int), Cond.methodLink RX10 181 yX10_gap, Cond.instanceMethod yX10_gap, Cond.selects RX10 yX10_gap yX10_gap, Cond.code yX10_gap cX10_gap 7 (some .int)]
def wsX10_hours_r3 : List Cond := [Cond.fieldLink RX10 13 "SleepingCarsModel" "stops" "[I"]
def wsX10_hours : List Cond := .code yX10_hours cX10_hours 4 (some .int) :: ((wsX10_hours_r1 ++ (wsX10_hours_r2 ++ wsX10_hours_r3)) ++ wsX100)
def wsX10_following : List Cond := .code yX10_following cX10_following 7 (some .int) :: ([.fieldLink RX10 38 "SleepingCarsModel" "tickets" "[I", .fieldLink RX10 56 "SleepingCarsModel" "tBack" "[I", .fieldLink RX10 41 "SleepingCarsModel" "tDay" "[I", .fieldLink RX10 32 "SleepingCarsModel" "owner" "[I", .fieldLink RX10 44 "SleepingCarsModel" "tBerth" "[I", .fieldLink RX10 47 "SleepingCarsModel" "tFrom" "[I"] ++ wsX100)
def wsX10_firstFree : List Cond := .code yX10_firstFree cX10_firstFree 5 (some .int) :: ([.fieldLink RX10 29 "SleepingCarsModel" "berths" "[I", .fieldLink RX10 32 "SleepingCarsModel" "owner" "[I", .fieldLink RX10 107 "SleepingCarsModel" "free" "[I"] ++ wsX100)
def wsX10_places : List Cond := .code yX10_places cX10_places 9 (some .boolean) :: ([.fieldLink RX10 107 "SleepingCarsModel" "free" "[I", .fieldLink RX10 47 "SleepingCarsModel" "tFrom" "[I", .fieldLink RX10 50 "SleepingCarsModel" "tTo" "[I", .fieldLink RX10 110 "SleepingCarsModel" "newBerth" "[I", .methodLink RX10 194 yX10_following, .instanceMethod yX10_following, .selects RX10 yX10_following yX10_following, .initialized RX10, .code yX10_following cX10_following 7 (some .int), .fieldLink RX10 38 "SleepingCarsModel" "tickets" "[I", .fieldLink RX10 56 "SleepingCarsModel" "tBack" "[I", .fieldLink RX10 41 "SleepingCarsModel" "tDay" "[I", .fieldLink RX10 32 "SleepingCarsModel" "owner" "[I", .fieldLink RX10 44 "SleepingCarsModel" "tBerth" "[I", .methodLink RX10 197 yX10_firstFree, .instanceMethod yX10_firstFree, .selects RX10 yX10_firstFree yX10_firstFree, .code yX10_firstFree cX10_firstFree 5 (some .int), .fieldLink RX10 29 "SleepingCarsModel" "berths" "[I"] ++ wsX100)
def wsX10_hasLeft : List Cond := .code yX10_hasLeft cX10_hasLeft 2 (some .boolean) :: ([.fieldLink RX10 83 "SleepingCarsModel" "now" "[I"] ++ wsX100)
def wsX10_moved_r1 : List Cond := [Cond.fieldLink RX10 139 "SleepingCarsModel" "code" "I", Cond.fieldLink RX10 38 "SleepingCarsModel" "tickets" "[I", Cond.fieldLink RX10 110 "SleepingCarsModel" "newBerth" "[I", Cond.fieldLink RX10 44 "SleepingCarsModel" "tBerth" "[I", Cond.fieldLink RX10 35 "SleepingCarsModel" "lies" "[I", Cond.fieldLink RX10 41 "SleepingCarsModel" "tDay" "[I", Cond.fieldLink RX10 56 "SleepingCarsModel" "tBack" "[I", Cond.fieldLink RX10 47 "SleepingCarsModel" "tFrom" "[I", Cond.fieldLink RX10 50 "SleepingCarsModel" "tTo" "[I", Cond.methodLink RX10 166 yX10_isRun, Cond.instanceMethod yX10_isRun, Cond.selects RX10 yX10_isRun yX10_isRun, Cond.initialized RX10, Cond.code yX10_isRun cX10_isRun 2 (some .boolean), Cond.fieldLink RX10 29 "SleepingCarsModel" "berths" "[I", Cond.methodLink RX10 146 yX10_in, Cond.static yX10_in, Cond.code yX10_in cX10_in 3 (some .boolean), Cond.methodLink RX10 200 yX10_hasLeft, Cond.instanceMethod yX10_hasLeft, Cond.selects RX10 yX10_hasLeft yX10_hasLeft, Cond.code yX10_hasLeft cX10_hasLeft 2 (some .boolean), Cond.fieldLink RX10 83 "SleepingCarsModel" "now" "[I", Cond.methodLink RX10 203 yX10_places]
def wsX10_moved_r2 : List Cond := [Cond.instanceMethod yX10_places, Cond.selects RX10 yX10_places yX10_places, Cond.code yX10_places cX10_places 9 (some .boolean), Cond.fieldLink RX10 107 "SleepingCarsModel" "free" "[I", Cond.methodLink RX10 194 yX10_following, Cond.instanceMethod yX10_following, Cond.selects RX10 yX10_following yX10_following, Cond.code yX10_following cX10_following 7 (some .int), Cond.fieldLink RX10 32 "SleepingCarsModel" "owner" "[I", Cond.methodLink RX10 197 yX10_firstFree, Cond.instanceMethod yX10_firstFree, Cond.selects RX10 yX10_firstFree yX10_firstFree, Cond.code yX10_firstFree cX10_firstFree 5 (some .int), Cond.methodLink RX10 162 yX10_at, Cond.instanceMethod yX10_at, Cond.selects RX10 yX10_at yX10_at, Cond.code yX10_at cX10_at 4 (some .int)]
def wsX10_moved : List Cond := .code yX10_moved cX10_moved 5 (some .int) :: ((wsX10_moved_r1 ++ wsX10_moved_r2) ++ wsX100)
def wsX10_wouldFit_r1 : List Cond := [Cond.fieldLink RX10 139 "SleepingCarsModel" "code" "I", Cond.methodLink RX10 158 yX10_isOffice, Cond.instanceMethod yX10_isOffice, Cond.selects RX10 yX10_isOffice yX10_isOffice, Cond.initialized RX10, Cond.code yX10_isOffice cX10_isOffice 2 (some .boolean), Cond.methodLink RX10 146 yX10_in, Cond.static yX10_in, Cond.code yX10_in cX10_in 3 (some .boolean), Cond.methodLink RX10 166 yX10_isRun, Cond.instanceMethod yX10_isRun, Cond.selects RX10 yX10_isRun yX10_isRun, Cond.code yX10_isRun cX10_isRun 2 (some .boolean), Cond.fieldLink RX10 29 "SleepingCarsModel" "berths" "[I", Cond.methodLink RX10 200 yX10_hasLeft, Cond.instanceMethod yX10_hasLeft, Cond.selects RX10 yX10_hasLeft yX10_hasLeft, Cond.code yX10_hasLeft cX10_hasLeft 2 (some .boolean), Cond.fieldLink RX10 83 "SleepingCarsModel" "now" "[I", Cond.methodLink RX10 169 yX10_isStretch, Cond.instanceMethod yX10_isStretch, Cond.selects RX10 yX10_isStretch yX10_isStretch, Cond.code yX10_isStretch cX10_isStretch 3 (some .boolean), Cond.fieldLink RX10 13 "SleepingCarsModel" "stops" "[I"]
def wsX10_wouldFit_r2 : List Cond := [Cond.methodLink RX10 203 yX10_places, Cond.instanceMethod yX10_places, Cond.selects RX10 yX10_places yX10_places, Cond.code yX10_places cX10_places 9 (some .boolean), Cond.fieldLink RX10 107 "SleepingCarsModel" "free" "[I", Cond.fieldLink RX10 47 "SleepingCarsModel" "tFrom" "[I", Cond.fieldLink RX10 50 "SleepingCarsModel" "tTo" "[I", Cond.fieldLink RX10 110 "SleepingCarsModel" "newBerth" "[I", Cond.methodLink RX10 194 yX10_following, Cond.instanceMethod yX10_following, Cond.selects RX10 yX10_following yX10_following, Cond.code yX10_following cX10_following 7 (some .int), Cond.fieldLink RX10 38 "SleepingCarsModel" "tickets" "[I", Cond.fieldLink RX10 56 "SleepingCarsModel" "tBack" "[I", Cond.fieldLink RX10 41 "SleepingCarsModel" "tDay" "[I", Cond.fieldLink RX10 32 "SleepingCarsModel" "owner" "[I", Cond.fieldLink RX10 44 "SleepingCarsModel" "tBerth" "[I", Cond.methodLink RX10 197 yX10_firstFree, Cond.instanceMethod yX10_firstFree, Cond.selects RX10 yX10_firstFree yX10_firstFree, Cond.code yX10_firstFree cX10_firstFree 5 (some .int)]
def wsX10_wouldFit : List Cond := .code yX10_wouldFit cX10_wouldFit 5 (some .boolean) :: ((wsX10_wouldFit_r1 ++ wsX10_wouldFit_r2) ++ wsX100)
def wsX10_ticket : List Cond := .code yX10_ticket cX10_ticket 3 (some .int) :: ([.fieldLink RX10 139 "SleepingCarsModel" "code" "I", .fieldLink RX10 38 "SleepingCarsModel" "tickets" "[I", .fieldLink RX10 41 "SleepingCarsModel" "tDay" "[I", .fieldLink RX10 44 "SleepingCarsModel" "tBerth" "[I", .fieldLink RX10 47 "SleepingCarsModel" "tFrom" "[I", .fieldLink RX10 50 "SleepingCarsModel" "tTo" "[I", .fieldLink RX10 53 "SleepingCarsModel" "tOffice" "[I", .fieldLink RX10 56 "SleepingCarsModel" "tBack" "[I", .methodLink RX10 146 yX10_in, .static yX10_in, .initialized RX10, .code yX10_in cX10_in 3 (some .boolean)] ++ wsX100)
def wsX10_lies : List Cond := .code yX10_lies cX10_lies 4 (some .int) :: ([.fieldLink RX10 139 "SleepingCarsModel" "code" "I", .fieldLink RX10 29 "SleepingCarsModel" "berths" "[I", .fieldLink RX10 13 "SleepingCarsModel" "stops" "[I", .fieldLink RX10 35 "SleepingCarsModel" "lies" "[I", .methodLink RX10 166 yX10_isRun, .instanceMethod yX10_isRun, .selects RX10 yX10_isRun yX10_isRun, .initialized RX10, .code yX10_isRun cX10_isRun 2 (some .boolean), .methodLink RX10 146 yX10_in, .static yX10_in, .code yX10_in cX10_in 3 (some .boolean), .methodLink RX10 162 yX10_at, .instanceMethod yX10_at, .selects RX10 yX10_at yX10_at, .code yX10_at cX10_at 4 (some .int)] ++ wsX100)
def wsX10_sold : List Cond := .code yX10_sold cX10_sold 5 (some .int) :: ([.fieldLink RX10 29 "SleepingCarsModel" "berths" "[I", .fieldLink RX10 35 "SleepingCarsModel" "lies" "[I", .methodLink RX10 162 yX10_at, .instanceMethod yX10_at, .selects RX10 yX10_at yX10_at, .initialized RX10, .code yX10_at cX10_at 4 (some .int)] ++ wsX100)
def wsX10_told_r1 : List Cond := [Cond.fieldLink RX10 139 "SleepingCarsModel" "code" "I", Cond.fieldLink RX10 29 "SleepingCarsModel" "berths" "[I", Cond.fieldLink RX10 38 "SleepingCarsModel" "tickets" "[I", Cond.fieldLink RX10 41 "SleepingCarsModel" "tDay" "[I", Cond.fieldLink RX10 56 "SleepingCarsModel" "tBack" "[I", Cond.fieldLink RX10 13 "SleepingCarsModel" "stops" "[I", Cond.fieldLink RX10 32 "SleepingCarsModel" "owner" "[I", Cond.methodLink RX10 166 yX10_isRun, Cond.instanceMethod yX10_isRun, Cond.selects RX10 yX10_isRun yX10_isRun, Cond.initialized RX10, Cond.code yX10_isRun cX10_isRun 2 (some .boolean), Cond.methodLink RX10 146 yX10_in, Cond.static yX10_in, Cond.code yX10_in cX10_in 3 (some .boolean), Cond.methodLink RX10 206 yX10_sold, Cond.instanceMethod yX10_sold, Cond.selects RX10 yX10_sold yX10_sold, Cond.code yX10_sold cX10_sold 5 (some .int), Cond.fieldLink RX10 35 "SleepingCarsModel" "lies" "[I", Cond.methodLink RX10 162 yX10_at, Cond.instanceMethod yX10_at, Cond.selects RX10 yX10_at yX10_at, Cond.code yX10_at cX10_at 4 (some .int)]
def wsX10_told_r2 : List Cond := [Cond.methodLink RX10 200 yX10_hasLeft, Cond.instanceMethod yX10_hasLeft, Cond.selects RX10 yX10_hasLeft yX10_hasLeft, Cond.code yX10_hasLeft cX10_hasLeft 2 (some .boolean), Cond.fieldLink RX10 83 "SleepingCarsModel" "now" "[I"]
def wsX10_told : List Cond := .code yX10_told cX10_told 5 (some .int) :: ((wsX10_told_r1 ++ wsX10_told_r2) ++ wsX100)
def wsX10_four : List Cond := .code yX10_four cX10_four 3 none :: ([.fieldLink RX10 7 "SleepingCarsModel" "tape" "[B", .fieldLink RX10 209 "SleepingCarsModel" "size" "I"] ++ wsX100)
def wsX10_feed : List Cond := .code yX10_feed cX10_feed 6 (some .int) :: ([.fieldLink RX10 139 "SleepingCarsModel" "code" "I", .fieldLink RX10 209 "SleepingCarsModel" "size" "I", .methodLink RX10 212 yX10_four, .instanceMethod yX10_four, .selects RX10 yX10_four yX10_four, .initialized RX10, .code yX10_four cX10_four 3 none, .fieldLink RX10 7 "SleepingCarsModel" "tape" "[B"] ++ wsX100)
def wsX10_end : List Cond := .code yX10_end cX10_end 2 (some .int) :: ([.fieldLink RX10 139 "SleepingCarsModel" "code" "I", .fieldLink RX10 209 "SleepingCarsModel" "size" "I", .methodLink RX10 146 yX10_in, .static yX10_in, .initialized RX10, .code yX10_in cX10_in 3 (some .boolean)] ++ wsX100)
def wsX10_see : List Cond := .code yX10_see cX10_see 1 (some .int) :: ([.fieldLink RX10 216 "SleepingCarsModel" "ahead" "I", .fieldLink RX10 219 "SleepingCarsModel" "length" "I", .fieldLink RX10 7 "SleepingCarsModel" "tape" "[B"] ++ wsX100)
def wsX10_next : List Cond := .code yX10_next cX10_next 3 none :: ([.fieldLink RX10 216 "SleepingCarsModel" "ahead" "I", .fieldLink RX10 225 "SleepingCarsModel" "begins" "I", .fieldLink RX10 228 "SleepingCarsModel" "value" "I", .fieldLink RX10 231 "SleepingCarsModel" "word" "J", .fieldLink RX10 235 "SleepingCarsModel" "sort" "I", .methodLink RX10 222 yX10_see, .instanceMethod yX10_see, .selects RX10 yX10_see yX10_see, .initialized RX10, .code yX10_see cX10_see 1 (some .int), .fieldLink RX10 219 "SleepingCarsModel" "length" "I", .fieldLink RX10 7 "SleepingCarsModel" "tape" "[B", .methodLink RX10 146 yX10_in, .static yX10_in, .code yX10_in cX10_in 3 (some .boolean)] ++ wsX100)
def wsX10_isWord : List Cond := .code yX10_isWord cX10_isWord 3 (some .boolean) :: ([.fieldLink RX10 235 "SleepingCarsModel" "sort" "I", .fieldLink RX10 231 "SleepingCarsModel" "word" "J"] ++ wsX100)
def wsX10_isSign : List Cond := .code yX10_isSign cX10_isSign 2 (some .boolean) :: ([.fieldLink RX10 235 "SleepingCarsModel" "sort" "I", .fieldLink RX10 228 "SleepingCarsModel" "value" "I"] ++ wsX100)
def wsX10_wrong : List Cond := .code yX10_wrong cX10_wrong 1 (some .boolean) :: ([.fieldLink RX10 238 "SleepingCarsModel" "fault" "I", .fieldLink RX10 225 "SleepingCarsModel" "begins" "I", .fieldLink RX10 113 "SleepingCarsModel" "faultPlace" "I"] ++ wsX100)
def wsX10_tooMany : List Cond := .code yX10_tooMany cX10_tooMany 2 none :: ([.fieldLink RX10 241 "SleepingCarsModel" "laterPlace" "I"] ++ wsX100)
def wsX10_need_r1 : List Cond := [Cond.methodLink RX10 244 yX10_isSign, Cond.instanceMethod yX10_isSign, Cond.selects RX10 yX10_isSign yX10_isSign, Cond.initialized RX10, Cond.code yX10_isSign cX10_isSign 2 (some .boolean), Cond.fieldLink RX10 235 "SleepingCarsModel" "sort" "I", Cond.fieldLink RX10 228 "SleepingCarsModel" "value" "I", Cond.methodLink RX10 247 yX10_wrong, Cond.instanceMethod yX10_wrong, Cond.selects RX10 yX10_wrong yX10_wrong, Cond.code yX10_wrong cX10_wrong 1 (some .boolean), Cond.fieldLink RX10 238 "SleepingCarsModel" "fault" "I", Cond.fieldLink RX10 225 "SleepingCarsModel" "begins" "I", Cond.fieldLink RX10 113 "SleepingCarsModel" "faultPlace" "I", Cond.methodLink RX10 251 yX10_next, Cond.instanceMethod yX10_next, Cond.selects RX10 yX10_next yX10_next, Cond.code yX10_next cX10_next 3 none, Cond.fieldLink RX10 216 "SleepingCarsModel" "ahead" "I", Cond.fieldLink RX10 231 "SleepingCarsModel" "word" "J", Cond.methodLink RX10 222 yX10_see, Cond.instanceMethod yX10_see, Cond.selects RX10 yX10_see yX10_see, Cond.code yX10_see cX10_see 1 (some .int)]
def wsX10_need_r2 : List Cond := [Cond.fieldLink RX10 219 "SleepingCarsModel" "length" "I", Cond.fieldLink RX10 7 "SleepingCarsModel" "tape" "[B", Cond.methodLink RX10 146 yX10_in, Cond.static yX10_in, Cond.code yX10_in cX10_in 3 (some .boolean)]
def wsX10_need : List Cond := .code yX10_need cX10_need 2 (some .boolean) :: ((wsX10_need_r1 ++ wsX10_need_r2) ++ wsX100)
def wsX10_test_r1 : List Cond := [Cond.fieldLink RX10 225 "SleepingCarsModel" "begins" "I", Cond.constantLong RX10 282 (7237492), Cond.constantLong RX10 284 (1937010544), Cond.constantLong RX10 286 (27501), Cond.constantLong RX10 288 (1752135026), Cond.constantLong RX10 290 (1936682084), Cond.constantLong RX10 292 (474214787188), Cond.fieldLink RX10 228 "SleepingCarsModel" "value" "I", Cond.fieldLink RX10 235 "SleepingCarsModel" "sort" "I", Cond.fieldLink RX10 120 "SleepingCarsModel" "newWhat" "[I", Cond.fieldLink RX10 123 "SleepingCarsModel" "newSign" "[I", Cond.fieldLink RX10 126 "SleepingCarsModel" "newThan" "[I", Cond.fieldLink RX10 117 "SleepingCarsModel" "newTests" "[I", Cond.methodLink RX10 257 yX10_tooMany, Cond.instanceMethod yX10_tooMany, Cond.selects RX10 yX10_tooMany yX10_tooMany, Cond.initialized RX10, Cond.code yX10_tooMany cX10_tooMany 2 none, Cond.fieldLink RX10 241 "SleepingCarsModel" "laterPlace" "I", Cond.methodLink RX10 262 yX10_isWord, Cond.instanceMethod yX10_isWord, Cond.selects RX10 yX10_isWord yX10_isWord, Cond.code yX10_isWord cX10_isWord 3 (some .boolean), Cond.fieldLink RX10 231 "SleepingCarsModel" "word" "J"]
def wsX10_test_r2 : List Cond := [Cond.methodLink RX10 251 yX10_next, Cond.instanceMethod yX10_next, Cond.selects RX10 yX10_next yX10_next, Cond.code yX10_next cX10_next 3 none, Cond.fieldLink RX10 216 "SleepingCarsModel" "ahead" "I", Cond.methodLink RX10 222 yX10_see, Cond.instanceMethod yX10_see, Cond.selects RX10 yX10_see yX10_see, Cond.code yX10_see cX10_see 1 (some .int), Cond.fieldLink RX10 219 "SleepingCarsModel" "length" "I", Cond.fieldLink RX10 7 "SleepingCarsModel" "tape" "[B", Cond.methodLink RX10 146 yX10_in, Cond.static yX10_in, Cond.code yX10_in cX10_in 3 (some .boolean), Cond.methodLink RX10 247 yX10_wrong, Cond.instanceMethod yX10_wrong, Cond.selects RX10 yX10_wrong yX10_wrong, Cond.code yX10_wrong cX10_wrong 1 (some .boolean), Cond.fieldLink RX10 238 "SleepingCarsModel" "fault" "I", Cond.fieldLink RX10 113 "SleepingCarsModel" "faultPlace" "I"]
def wsX10_test : List Cond := .code yX10_test cX10_test 8 (some .boolean) :: ((wsX10_test_r1 ++ wsX10_test_r2) ++ wsX100)
def wsX10_oneLine_r1 : List Cond := [Cond.fieldLink RX10 254 "SleepingCarsModel" "newLines" "I", Cond.fieldLink RX10 225 "SleepingCarsModel" "begins" "I", Cond.fieldLink RX10 117 "SleepingCarsModel" "newTests" "[I", Cond.constantLong RX10 260 (2003330414), Cond.constantLong RX10 269 (6385252), Cond.fieldLink RX10 129 "SleepingCarsModel" "newAct" "[I", Cond.constantLong RX10 274 (1635282021), Cond.constantLong RX10 276 (422608794728), Cond.constantLong RX10 278 (1718378868), Cond.constantLong RX10 280 (1718773093), Cond.fieldLink RX10 235 "SleepingCarsModel" "sort" "I", Cond.fieldLink RX10 132 "SleepingCarsModel" "newNumber" "[I", Cond.fieldLink RX10 228 "SleepingCarsModel" "value" "I", Cond.methodLink RX10 257 yX10_tooMany, Cond.instanceMethod yX10_tooMany, Cond.selects RX10 yX10_tooMany yX10_tooMany, Cond.initialized RX10, Cond.code yX10_tooMany cX10_tooMany 2 none, Cond.fieldLink RX10 241 "SleepingCarsModel" "laterPlace" "I", Cond.methodLink RX10 262 yX10_isWord, Cond.instanceMethod yX10_isWord, Cond.selects RX10 yX10_isWord yX10_isWord, Cond.code yX10_isWord cX10_isWord 3 (some .boolean), Cond.fieldLink RX10 231 "SleepingCarsModel" "word" "J"]
def wsX10_oneLine_r2 : List Cond := [Cond.methodLink RX10 251 yX10_next, Cond.instanceMethod yX10_next, Cond.selects RX10 yX10_next yX10_next, Cond.code yX10_next cX10_next 3 none, Cond.fieldLink RX10 216 "SleepingCarsModel" "ahead" "I", Cond.methodLink RX10 222 yX10_see, Cond.instanceMethod yX10_see, Cond.selects RX10 yX10_see yX10_see, Cond.code yX10_see cX10_see 1 (some .int), Cond.fieldLink RX10 219 "SleepingCarsModel" "length" "I", Cond.fieldLink RX10 7 "SleepingCarsModel" "tape" "[B", Cond.methodLink RX10 146 yX10_in, Cond.static yX10_in, Cond.code yX10_in cX10_in 3 (some .boolean), Cond.methodLink RX10 266 yX10_test, Cond.instanceMethod yX10_test, Cond.selects RX10 yX10_test yX10_test, Cond.code yX10_test cX10_test 8 (some .boolean), Cond.constantLong RX10 282 (7237492), Cond.constantLong RX10 284 (1937010544), Cond.constantLong RX10 286 (27501), Cond.constantLong RX10 288 (1752135026), Cond.constantLong RX10 290 (1936682084), Cond.constantLong RX10 292 (474214787188)]
def wsX10_oneLine_r3 : List Cond := [Cond.fieldLink RX10 120 "SleepingCarsModel" "newWhat" "[I", Cond.fieldLink RX10 123 "SleepingCarsModel" "newSign" "[I", Cond.fieldLink RX10 126 "SleepingCarsModel" "newThan" "[I", Cond.methodLink RX10 247 yX10_wrong, Cond.instanceMethod yX10_wrong, Cond.selects RX10 yX10_wrong yX10_wrong, Cond.code yX10_wrong cX10_wrong 1 (some .boolean), Cond.fieldLink RX10 238 "SleepingCarsModel" "fault" "I", Cond.fieldLink RX10 113 "SleepingCarsModel" "faultPlace" "I", Cond.methodLink RX10 271 yX10_need, Cond.instanceMethod yX10_need, Cond.selects RX10 yX10_need yX10_need, Cond.code yX10_need cX10_need 2 (some .boolean), Cond.methodLink RX10 244 yX10_isSign, Cond.instanceMethod yX10_isSign, Cond.selects RX10 yX10_isSign yX10_isSign, Cond.code yX10_isSign cX10_isSign 2 (some .boolean)]
def wsX10_oneLine : List Cond := .code yX10_oneLine cX10_oneLine 4 (some .boolean) :: ((wsX10_oneLine_r1 ++ (wsX10_oneLine_r2 ++ wsX10_oneLine_r3)) ++ wsX100)
def wsX10_contract_r1 : List Cond := [Cond.fieldLink RX10 139 "SleepingCarsModel" "code" "I", Cond.fieldLink RX10 209 "SleepingCarsModel" "size" "I", Cond.fieldLink RX10 219 "SleepingCarsModel" "length" "I", Cond.fieldLink RX10 216 "SleepingCarsModel" "ahead" "I", Cond.fieldLink RX10 238 "SleepingCarsModel" "fault" "I", Cond.fieldLink RX10 113 "SleepingCarsModel" "faultPlace" "I", Cond.fieldLink RX10 241 "SleepingCarsModel" "laterPlace" "I", Cond.fieldLink RX10 254 "SleepingCarsModel" "newLines" "I", Cond.fieldLink RX10 235 "SleepingCarsModel" "sort" "I", Cond.fieldLink RX10 86 "SleepingCarsModel" "lines" "[I", Cond.fieldLink RX10 89 "SleepingCarsModel" "lineTests" "[I", Cond.fieldLink RX10 117 "SleepingCarsModel" "newTests" "[I", Cond.fieldLink RX10 101 "SleepingCarsModel" "lineAct" "[I", Cond.fieldLink RX10 129 "SleepingCarsModel" "newAct" "[I", Cond.fieldLink RX10 104 "SleepingCarsModel" "lineNumber" "[I", Cond.fieldLink RX10 132 "SleepingCarsModel" "newNumber" "[I", Cond.fieldLink RX10 92 "SleepingCarsModel" "testWhat" "[I", Cond.fieldLink RX10 120 "SleepingCarsModel" "newWhat" "[I", Cond.fieldLink RX10 95 "SleepingCarsModel" "testSign" "[I", Cond.fieldLink RX10 123 "SleepingCarsModel" "newSign" "[I", Cond.fieldLink RX10 98 "SleepingCarsModel" "testThan" "[I", Cond.fieldLink RX10 126 "SleepingCarsModel" "newThan" "[I", Cond.methodLink RX10 251 yX10_next, Cond.instanceMethod yX10_next]
def wsX10_contract_r2 : List Cond := [Cond.selects RX10 yX10_next yX10_next, Cond.initialized RX10, Cond.code yX10_next cX10_next 3 none, Cond.fieldLink RX10 225 "SleepingCarsModel" "begins" "I", Cond.fieldLink RX10 228 "SleepingCarsModel" "value" "I", Cond.fieldLink RX10 231 "SleepingCarsModel" "word" "J", Cond.methodLink RX10 222 yX10_see, Cond.instanceMethod yX10_see, Cond.selects RX10 yX10_see yX10_see, Cond.code yX10_see cX10_see 1 (some .int), Cond.fieldLink RX10 7 "SleepingCarsModel" "tape" "[B", Cond.methodLink RX10 146 yX10_in, Cond.static yX10_in, Cond.code yX10_in cX10_in 3 (some .boolean), Cond.methodLink RX10 294 yX10_oneLine, Cond.instanceMethod yX10_oneLine, Cond.selects RX10 yX10_oneLine yX10_oneLine, Cond.code yX10_oneLine cX10_oneLine 4 (some .boolean), Cond.constantLong RX10 260 (2003330414), Cond.constantLong RX10 269 (6385252), Cond.constantLong RX10 274 (1635282021), Cond.constantLong RX10 276 (422608794728), Cond.constantLong RX10 278 (1718378868), Cond.constantLong RX10 280 (1718773093)]
def wsX10_contract_r3 : List Cond := [Cond.methodLink RX10 257 yX10_tooMany, Cond.instanceMethod yX10_tooMany, Cond.selects RX10 yX10_tooMany yX10_tooMany, Cond.code yX10_tooMany cX10_tooMany 2 none, Cond.methodLink RX10 262 yX10_isWord, Cond.instanceMethod yX10_isWord, Cond.selects RX10 yX10_isWord yX10_isWord, Cond.code yX10_isWord cX10_isWord 3 (some .boolean), Cond.methodLink RX10 266 yX10_test, Cond.instanceMethod yX10_test, Cond.selects RX10 yX10_test yX10_test, Cond.code yX10_test cX10_test 8 (some .boolean), Cond.constantLong RX10 282 (7237492), Cond.constantLong RX10 284 (1937010544), Cond.constantLong RX10 286 (27501), Cond.constantLong RX10 288 (1752135026), Cond.constantLong RX10 290 (1936682084), Cond.constantLong RX10 292 (474214787188), Cond.methodLink RX10 247 yX10_wrong, Cond.instanceMethod yX10_wrong, Cond.selects RX10 yX10_wrong yX10_wrong, Cond.code yX10_wrong cX10_wrong 1 (some .boolean), Cond.methodLink RX10 271 yX10_need, Cond.instanceMethod yX10_need]
def wsX10_contract_r4 : List Cond := [Cond.selects RX10 yX10_need yX10_need, Cond.code yX10_need cX10_need 2 (some .boolean), Cond.methodLink RX10 244 yX10_isSign, Cond.instanceMethod yX10_isSign, Cond.selects RX10 yX10_isSign yX10_isSign, Cond.code yX10_isSign cX10_isSign 2 (some .boolean)]
def wsX10_contract : List Cond := .code yX10_contract cX10_contract 4 (some .int) :: ((wsX10_contract_r1 ++ (wsX10_contract_r2 ++ (wsX10_contract_r3 ++ wsX10_contract_r4))) ++ wsX100)
def wsX10_fault : List Cond := .code yX10_fault cX10_fault 2 (some .int) :: ([.fieldLink RX10 139 "SleepingCarsModel" "code" "I", .fieldLink RX10 238 "SleepingCarsModel" "fault" "I", .fieldLink RX10 113 "SleepingCarsModel" "faultPlace" "I"] ++ wsX100)
def wsX10_asked : List Cond := .code yX10_asked cX10_asked 5 (some .int) :: ([.fieldLink RX10 17 "SleepingCarsModel" "km" "[I", .methodLink RX10 173 yX10_leaves, .instanceMethod yX10_leaves, .selects RX10 yX10_leaves yX10_leaves, .initialized RX10, .code yX10_leaves cX10_leaves 3 (some .int), .methodLink RX10 150 yX10_upTo, .instanceMethod yX10_upTo, .selects RX10 yX10_upTo yX10_upTo, .code yX10_upTo cX10_upTo 4 (some .int), .fieldLink RX10 20 "SleepingCarsModel" "takes" "[I", .methodLink RX10 206 yX10_sold, .instanceMethod yX10_sold, .selects RX10 yX10_sold yX10_sold, .code yX10_sold cX10_sold 5 (some .int), .fieldLink RX10 29 "SleepingCarsModel" "berths" "[I", .fieldLink RX10 35 "SleepingCarsModel" "lies" "[I", .methodLink RX10 162 yX10_at, .instanceMethod yX10_at, .selects RX10 yX10_at yX10_at, .code yX10_at cX10_at 4 (some .int)] ++ wsX100)
def wsX10_holds_r1 : List Cond := [Cond.fieldLink RX10 89 "SleepingCarsModel" "lineTests" "[I", Cond.fieldLink RX10 92 "SleepingCarsModel" "testWhat" "[I", Cond.fieldLink RX10 95 "SleepingCarsModel" "testSign" "[I", Cond.fieldLink RX10 98 "SleepingCarsModel" "testThan" "[I", Cond.methodLink RX10 297 yX10_asked, Cond.instanceMethod yX10_asked, Cond.selects RX10 yX10_asked yX10_asked, Cond.initialized RX10, Cond.code yX10_asked cX10_asked 5 (some .int), Cond.fieldLink RX10 17 "SleepingCarsModel" "km" "[I", Cond.methodLink RX10 173 yX10_leaves, Cond.instanceMethod yX10_leaves, Cond.selects RX10 yX10_leaves yX10_leaves, Cond.code yX10_leaves cX10_leaves 3 (some .int), Cond.methodLink RX10 150 yX10_upTo, Cond.instanceMethod yX10_upTo, Cond.selects RX10 yX10_upTo yX10_upTo, Cond.code yX10_upTo cX10_upTo 4 (some .int), Cond.fieldLink RX10 20 "SleepingCarsModel" "takes" "[I", Cond.methodLink RX10 206 yX10_sold, Cond.instanceMethod yX10_sold, Cond.selects RX10 yX10_sold yX10_sold, Cond.code yX10_sold cX10_sold 5 (some .int), Cond.fieldLink RX10 29 "SleepingCarsModel" "berths" "[I"]
def wsX10_holds_r2 : List Cond := [Cond.fieldLink RX10 35 "SleepingCarsModel" "lies" "[I", Cond.methodLink RX10 162 yX10_at, Cond.instanceMethod yX10_at, Cond.selects RX10 yX10_at yX10_at, Cond.code yX10_at cX10_at 4 (some .int)]
def wsX10_holds : List Cond := .code yX10_holds cX10_holds 7 (some .boolean) :: ((wsX10_holds_r1 ++ wsX10_holds_r2) ++ wsX100)
def wsX10_costOf_r1 : List Cond := [Cond.fieldLink RX10 86 "SleepingCarsModel" "lines" "[I", Cond.fieldLink RX10 104 "SleepingCarsModel" "lineNumber" "[I", Cond.fieldLink RX10 101 "SleepingCarsModel" "lineAct" "[I", Cond.constantLong RX10 303 (4), Cond.fieldLink RX10 17 "SleepingCarsModel" "km" "[I", Cond.methodLink RX10 300 yX10_holds, Cond.instanceMethod yX10_holds, Cond.selects RX10 yX10_holds yX10_holds, Cond.initialized RX10, Cond.code yX10_holds cX10_holds 7 (some .boolean), Cond.fieldLink RX10 89 "SleepingCarsModel" "lineTests" "[I", Cond.fieldLink RX10 92 "SleepingCarsModel" "testWhat" "[I", Cond.fieldLink RX10 95 "SleepingCarsModel" "testSign" "[I", Cond.fieldLink RX10 98 "SleepingCarsModel" "testThan" "[I", Cond.methodLink RX10 297 yX10_asked, Cond.instanceMethod yX10_asked, Cond.selects RX10 yX10_asked yX10_asked, Cond.code yX10_asked cX10_asked 5 (some .int), Cond.methodLink RX10 173 yX10_leaves, Cond.instanceMethod yX10_leaves, Cond.selects RX10 yX10_leaves yX10_leaves, Cond.code yX10_leaves cX10_leaves 3 (some .int), Cond.methodLink RX10 150 yX10_upTo, Cond.instanceMethod yX10_upTo]
def wsX10_costOf_r2 : List Cond := [Cond.selects RX10 yX10_upTo yX10_upTo, Cond.code yX10_upTo cX10_upTo 4 (some .int), Cond.fieldLink RX10 20 "SleepingCarsModel" "takes" "[I", Cond.methodLink RX10 206 yX10_sold, Cond.instanceMethod yX10_sold, Cond.selects RX10 yX10_sold yX10_sold, Cond.code yX10_sold cX10_sold 5 (some .int), Cond.fieldLink RX10 29 "SleepingCarsModel" "berths" "[I", Cond.fieldLink RX10 35 "SleepingCarsModel" "lies" "[I", Cond.methodLink RX10 162 yX10_at, Cond.instanceMethod yX10_at, Cond.selects RX10 yX10_at yX10_at, Cond.code yX10_at cX10_at 4 (some .int)]
def wsX10_costOf : List Cond := .code yX10_costOf cX10_costOf 7 (some .long) :: ((wsX10_costOf_r1 ++ wsX10_costOf_r2) ++ wsX100)
def wsX10_cost_r1 : List Cond := [Cond.fieldLink RX10 139 "SleepingCarsModel" "code" "I", Cond.fieldLink RX10 13 "SleepingCarsModel" "stops" "[I", Cond.methodLink RX10 166 yX10_isRun, Cond.instanceMethod yX10_isRun, Cond.selects RX10 yX10_isRun yX10_isRun, Cond.initialized RX10, Cond.code yX10_isRun cX10_isRun 2 (some .boolean), Cond.fieldLink RX10 29 "SleepingCarsModel" "berths" "[I", Cond.methodLink RX10 146 yX10_in, Cond.static yX10_in, Cond.code yX10_in cX10_in 3 (some .boolean), Cond.methodLink RX10 305 yX10_costOf, Cond.instanceMethod yX10_costOf, Cond.selects RX10 yX10_costOf yX10_costOf, Cond.code yX10_costOf cX10_costOf 7 (some .long), Cond.fieldLink RX10 86 "SleepingCarsModel" "lines" "[I", Cond.fieldLink RX10 104 "SleepingCarsModel" "lineNumber" "[I", Cond.fieldLink RX10 101 "SleepingCarsModel" "lineAct" "[I", Cond.constantLong RX10 303 (4), Cond.fieldLink RX10 17 "SleepingCarsModel" "km" "[I", Cond.methodLink RX10 300 yX10_holds, Cond.instanceMethod yX10_holds, Cond.selects RX10 yX10_holds yX10_holds, Cond.code yX10_holds cX10_holds 7 (some .boolean)]
def wsX10_cost_r2 : List Cond := [Cond.fieldLink RX10 89 "SleepingCarsModel" "lineTests" "[I", Cond.fieldLink RX10 92 "SleepingCarsModel" "testWhat" "[I", Cond.fieldLink RX10 95 "SleepingCarsModel" "testSign" "[I", Cond.fieldLink RX10 98 "SleepingCarsModel" "testThan" "[I", Cond.methodLink RX10 297 yX10_asked, Cond.instanceMethod yX10_asked, Cond.selects RX10 yX10_asked yX10_asked, Cond.code yX10_asked cX10_asked 5 (some .int), Cond.methodLink RX10 173 yX10_leaves, Cond.instanceMethod yX10_leaves, Cond.selects RX10 yX10_leaves yX10_leaves, Cond.code yX10_leaves cX10_leaves 3 (some .int), Cond.methodLink RX10 150 yX10_upTo, Cond.instanceMethod yX10_upTo, Cond.selects RX10 yX10_upTo yX10_upTo, Cond.code yX10_upTo cX10_upTo 4 (some .int), Cond.fieldLink RX10 20 "SleepingCarsModel" "takes" "[I", Cond.methodLink RX10 206 yX10_sold, Cond.instanceMethod yX10_sold, Cond.selects RX10 yX10_sold yX10_sold, Cond.code yX10_sold cX10_sold 5 (some .int), Cond.fieldLink RX10 35 "SleepingCarsModel" "lies" "[I", Cond.methodLink RX10 162 yX10_at, Cond.instanceMethod yX10_at]
def wsX10_cost_r3 : List Cond := [Cond.selects RX10 yX10_at yX10_at, Cond.code yX10_at cX10_at 4 (some .int)]
def wsX10_cost : List Cond := .code yX10_cost cX10_cost 6 (some .long) :: ((wsX10_cost_r1 ++ (wsX10_cost_r2 ++ wsX10_cost_r3)) ++ wsX100)
def wsX10_cars : List Cond := .code yX10_cars cX10_cars 8 (some .int) :: ([.fieldLink RX10 139 "SleepingCarsModel" "code" "I", .fieldLink RX10 13 "SleepingCarsModel" "stops" "[I", .methodLink RX10 146 yX10_in, .static yX10_in, .initialized RX10, .code yX10_in cX10_in 3 (some .boolean), .methodLink RX10 150 yX10_upTo, .instanceMethod yX10_upTo, .selects RX10 yX10_upTo yX10_upTo, .code yX10_upTo cX10_upTo 4 (some .int), .fieldLink RX10 20 "SleepingCarsModel" "takes" "[I"] ++ wsX100)
def wsX10_count : List Cond := .code yX10_count cX10_count 4 (some .int) :: ([.fieldLink RX10 139 "SleepingCarsModel" "code" "I", .fieldLink RX10 13 "SleepingCarsModel" "stops" "[I", .fieldLink RX10 38 "SleepingCarsModel" "tickets" "[I", .fieldLink RX10 59 "SleepingCarsModel" "letters" "[I", .fieldLink RX10 83 "SleepingCarsModel" "now" "[I", .fieldLink RX10 86 "SleepingCarsModel" "lines" "[I", .fieldLink RX10 17 "SleepingCarsModel" "km" "[I", .methodLink RX10 154 yX10_runs, .instanceMethod yX10_runs, .selects RX10 yX10_runs yX10_runs, .initialized RX10, .code yX10_runs cX10_runs 3 (some .int), .fieldLink RX10 29 "SleepingCarsModel" "berths" "[I", .methodLink RX10 150 yX10_upTo, .instanceMethod yX10_upTo, .selects RX10 yX10_upTo yX10_upTo, .code yX10_upTo cX10_upTo 4 (some .int), .fieldLink RX10 20 "SleepingCarsModel" "takes" "[I"] ++ wsX100)
def wsX10_image_r1 : List Cond := [Cond.fieldLink RX10 139 "SleepingCarsModel" "code" "I", Cond.fieldLink RX10 135 "SleepingCarsModel" "has" "[Z", Cond.methodLink RX10 146 yX10_in, Cond.static yX10_in, Cond.initialized RX10, Cond.code yX10_in cX10_in 3 (some .boolean), Cond.methodLink RX10 309 yX10_copy, Cond.instanceMethod yX10_copy, Cond.selects RX10 yX10_copy yX10_copy, Cond.code yX10_copy cX10_copy 3 none, Cond.fieldLink RX10 13 "SleepingCarsModel" "stops" "[I", Cond.fieldLink RX10 17 "SleepingCarsModel" "km" "[I", Cond.fieldLink RX10 20 "SleepingCarsModel" "takes" "[I", Cond.fieldLink RX10 23 "SleepingCarsModel" "officeAt" "[I", Cond.fieldLink RX10 26 "SleepingCarsModel" "shares" "[I", Cond.fieldLink RX10 29 "SleepingCarsModel" "berths" "[I", Cond.fieldLink RX10 32 "SleepingCarsModel" "owner" "[I", Cond.fieldLink RX10 35 "SleepingCarsModel" "lies" "[I", Cond.fieldLink RX10 38 "SleepingCarsModel" "tickets" "[I", Cond.fieldLink RX10 41 "SleepingCarsModel" "tDay" "[I", Cond.fieldLink RX10 44 "SleepingCarsModel" "tBerth" "[I", Cond.fieldLink RX10 47 "SleepingCarsModel" "tFrom" "[I", Cond.fieldLink RX10 50 "SleepingCarsModel" "tTo" "[I", Cond.fieldLink RX10 53 "SleepingCarsModel" "tOffice" "[I"]
def wsX10_image_r2 : List Cond := [Cond.fieldLink RX10 56 "SleepingCarsModel" "tBack" "[I", Cond.fieldLink RX10 59 "SleepingCarsModel" "letters" "[I", Cond.fieldLink RX10 62 "SleepingCarsModel" "lComes" "[I", Cond.fieldLink RX10 65 "SleepingCarsModel" "lAnswer" "[I", Cond.fieldLink RX10 68 "SleepingCarsModel" "lOffice" "[I", Cond.fieldLink RX10 71 "SleepingCarsModel" "lDay" "[I", Cond.fieldLink RX10 74 "SleepingCarsModel" "lFrom" "[I", Cond.fieldLink RX10 77 "SleepingCarsModel" "lTo" "[I", Cond.fieldLink RX10 80 "SleepingCarsModel" "lTicket" "[I", Cond.fieldLink RX10 83 "SleepingCarsModel" "now" "[I", Cond.fieldLink RX10 86 "SleepingCarsModel" "lines" "[I", Cond.fieldLink RX10 89 "SleepingCarsModel" "lineTests" "[I", Cond.fieldLink RX10 92 "SleepingCarsModel" "testWhat" "[I", Cond.fieldLink RX10 95 "SleepingCarsModel" "testSign" "[I", Cond.fieldLink RX10 98 "SleepingCarsModel" "testThan" "[I", Cond.fieldLink RX10 101 "SleepingCarsModel" "lineAct" "[I", Cond.fieldLink RX10 104 "SleepingCarsModel" "lineNumber" "[I", Cond.methodLink RX10 142 yX10_move, Cond.static yX10_move, Cond.code yX10_move cX10_move 5 none]
def wsX10_image : List Cond := .code yX10_image cX10_image 2 (some .boolean) :: ((wsX10_image_r1 ++ wsX10_image_r2) ++ wsX100)
def wsX10_again_r1 : List Cond := [Cond.fieldLink RX10 139 "SleepingCarsModel" "code" "I", Cond.fieldLink RX10 135 "SleepingCarsModel" "has" "[Z", Cond.methodLink RX10 146 yX10_in, Cond.static yX10_in, Cond.initialized RX10, Cond.code yX10_in cX10_in 3 (some .boolean), Cond.methodLink RX10 309 yX10_copy, Cond.instanceMethod yX10_copy, Cond.selects RX10 yX10_copy yX10_copy, Cond.code yX10_copy cX10_copy 3 none, Cond.fieldLink RX10 13 "SleepingCarsModel" "stops" "[I", Cond.fieldLink RX10 17 "SleepingCarsModel" "km" "[I", Cond.fieldLink RX10 20 "SleepingCarsModel" "takes" "[I", Cond.fieldLink RX10 23 "SleepingCarsModel" "officeAt" "[I", Cond.fieldLink RX10 26 "SleepingCarsModel" "shares" "[I", Cond.fieldLink RX10 29 "SleepingCarsModel" "berths" "[I", Cond.fieldLink RX10 32 "SleepingCarsModel" "owner" "[I", Cond.fieldLink RX10 35 "SleepingCarsModel" "lies" "[I", Cond.fieldLink RX10 38 "SleepingCarsModel" "tickets" "[I", Cond.fieldLink RX10 41 "SleepingCarsModel" "tDay" "[I", Cond.fieldLink RX10 44 "SleepingCarsModel" "tBerth" "[I", Cond.fieldLink RX10 47 "SleepingCarsModel" "tFrom" "[I", Cond.fieldLink RX10 50 "SleepingCarsModel" "tTo" "[I", Cond.fieldLink RX10 53 "SleepingCarsModel" "tOffice" "[I"]
def wsX10_again_r2 : List Cond := [Cond.fieldLink RX10 56 "SleepingCarsModel" "tBack" "[I", Cond.fieldLink RX10 59 "SleepingCarsModel" "letters" "[I", Cond.fieldLink RX10 62 "SleepingCarsModel" "lComes" "[I", Cond.fieldLink RX10 65 "SleepingCarsModel" "lAnswer" "[I", Cond.fieldLink RX10 68 "SleepingCarsModel" "lOffice" "[I", Cond.fieldLink RX10 71 "SleepingCarsModel" "lDay" "[I", Cond.fieldLink RX10 74 "SleepingCarsModel" "lFrom" "[I", Cond.fieldLink RX10 77 "SleepingCarsModel" "lTo" "[I", Cond.fieldLink RX10 80 "SleepingCarsModel" "lTicket" "[I", Cond.fieldLink RX10 83 "SleepingCarsModel" "now" "[I", Cond.fieldLink RX10 86 "SleepingCarsModel" "lines" "[I", Cond.fieldLink RX10 89 "SleepingCarsModel" "lineTests" "[I", Cond.fieldLink RX10 92 "SleepingCarsModel" "testWhat" "[I", Cond.fieldLink RX10 95 "SleepingCarsModel" "testSign" "[I", Cond.fieldLink RX10 98 "SleepingCarsModel" "testThan" "[I", Cond.fieldLink RX10 101 "SleepingCarsModel" "lineAct" "[I", Cond.fieldLink RX10 104 "SleepingCarsModel" "lineNumber" "[I", Cond.methodLink RX10 142 yX10_move, Cond.static yX10_move, Cond.code yX10_move cX10_move 5 none]
def wsX10_again : List Cond := .code yX10_again cX10_again 2 (some .boolean) :: ((wsX10_again_r1 ++ wsX10_again_r2) ++ wsX100)
def wsJ9_abs_0f7a4 : List Cond := .code yJ9_abs_0f7a4 cJ9_abs_0f7a4 1 (some .int) :: ([])
def wsJ9_max_7cf53 : List Cond := .code yJ9_max_7cf53 cJ9_max_7cf53 2 (some .int) :: ([])
def wsL_law_r1 : List Cond := [Cond.classLink RL 7 RX9, Cond.instantiable RX9 4, Cond.initialized RX9, Cond.classLink RL 10 RX10, Cond.instantiable RX10 53, Cond.initialized RX10, Cond.methodLink RL 9 yX9_init, Cond.instanceMethod yX9_init, Cond.code yX9_init cX9_init 1 none, Cond.methodLink RX9 1 objectInit, Cond.instanceMethod objectInit, Cond.code objectInit ⟨#[0xb1]⟩ 1 none, Cond.classLink RX9 7 RX0, Cond.instantiable RX0 10, Cond.initialized RX0, Cond.fieldLink RX9 10 "SleepingCars" "book" "LSleepingCars$Book;", Cond.fieldLink RX9 16 "SleepingCars" "images" "[LSleepingCars$Book;", Cond.classLink RX9 20 RX6, Cond.instantiable RX6 2, Cond.initialized RX6, Cond.fieldLink RX9 23 "SleepingCars" "tape" "LSleepingCars$Tape;", Cond.classLink RX9 27 RX3, Cond.instantiable RX3 6, Cond.initialized RX3]
def wsL_law_r2 : List Cond := [Cond.fieldLink RX9 30 "SleepingCars" "reader" "LSleepingCars$Reader;", Cond.instanceMethod yX0_init, Cond.code yX0_init cX0_init 1 none, Cond.methodLink RX0 3 objectInit, Cond.classLink RX0 9 RX4, Cond.instantiable RX4 3, Cond.initialized RX4, Cond.fieldLink RX0 12 "SleepingCars$Book" "route" "LSleepingCars$Route;", Cond.classLink RX0 18 RX5, Cond.instantiable RX5 4, Cond.initialized RX5, Cond.fieldLink RX0 21 "SleepingCars$Book" "runs" "LSleepingCars$Runs;", Cond.classLink RX0 25 RX7, Cond.instantiable RX7 7, Cond.initialized RX7, Cond.fieldLink RX0 28 "SleepingCars$Book" "tickets" "LSleepingCars$Tickets;", Cond.classLink RX0 32 RX1, Cond.instantiable RX1 8, Cond.initialized RX1, Cond.fieldLink RX0 35 "SleepingCars$Book" "letters" "LSleepingCars$Letters;", Cond.classLink RX0 39 RX2, Cond.instantiable RX2 8, Cond.initialized RX2, Cond.fieldLink RX0 42 "SleepingCars$Book" "rates" "LSleepingCars$Rates;"]
def wsL_law_r3 : List Cond := [Cond.arrayClass .int, Cond.fieldLink RX0 46 "SleepingCars$Book" "officeStops" "[I", Cond.fieldLink RX0 50 "SleepingCars$Book" "shares" "[I", Cond.fieldLink RX0 53 "SleepingCars$Book" "newLegs" "[I", Cond.fieldLink RX0 56 "SleepingCars$Book" "facts" "[I", Cond.methodLink RX0 11 yX4_init, Cond.instanceMethod yX4_init, Cond.code yX4_init cX4_init 1 none, Cond.methodLink RX4 3 objectInit, Cond.fieldLink RX4 9 "SleepingCars$Route" "legKm" "[I", Cond.fieldLink RX4 15 "SleepingCars$Route" "legHours" "[I", Cond.methodLink RX4 18 yX4_lay, Cond.instanceMethod yX4_lay, Cond.selects RX4 yX4_lay yX4_lay, Cond.code yX4_lay cX4_lay 2 none, Cond.fieldLink RX4 22 "SleepingCars$Route" "stops" "I", Cond.methodLink RX4 26 yJ7_fill_53178, Cond.static yJ7_fill_53178, Cond.initialized RJ7, Cond.code yJ7_fill_53178 cJ7_fill_53178 4 none, Cond.instanceMethod yX5_init, Cond.code yX5_init cX5_init 1 none, Cond.methodLink RX5 3 objectInit, Cond.fieldLink RX5 9 "SleepingCars$Runs" "berths" "[I"]
def wsL_law_r4 : List Cond := [Cond.fieldLink RX5 15 "SleepingCars$Runs" "owners" "[I", Cond.fieldLink RX5 18 "SleepingCars$Runs" "soldLegs" "[I", Cond.instanceMethod yX7_init, Cond.code yX7_init cX7_init 1 none, Cond.methodLink RX7 3 objectInit, Cond.fieldLink RX7 9 "SleepingCars$Tickets" "days" "[I", Cond.fieldLink RX7 15 "SleepingCars$Tickets" "berths" "[I", Cond.fieldLink RX7 18 "SleepingCars$Tickets" "froms" "[I", Cond.fieldLink RX7 21 "SleepingCars$Tickets" "tos" "[I", Cond.fieldLink RX7 24 "SleepingCars$Tickets" "offices" "[I", Cond.fieldLink RX7 27 "SleepingCars$Tickets" "given" "[I", Cond.instanceMethod yX1_init, Cond.code yX1_init cX1_init 1 none, Cond.methodLink RX1 3 objectInit, Cond.fieldLink RX1 9 "SleepingCars$Letters" "offices" "[I", Cond.fieldLink RX1 15 "SleepingCars$Letters" "days" "[I", Cond.fieldLink RX1 18 "SleepingCars$Letters" "froms" "[I", Cond.fieldLink RX1 21 "SleepingCars$Letters" "tos" "[I", Cond.fieldLink RX1 24 "SleepingCars$Letters" "comes" "[I", Cond.fieldLink RX1 27 "SleepingCars$Letters" "answered" "[I", Cond.fieldLink RX1 30 "SleepingCars$Letters" "sold" "[I", Cond.instanceMethod yX2_init, Cond.code yX2_init cX2_init 1 none, Cond.methodLink RX2 3 objectInit]
def wsL_law_r5 : List Cond := [Cond.fieldLink RX2 9 "SleepingCars$Rates" "charges" "[I", Cond.fieldLink RX2 15 "SleepingCars$Rates" "amounts" "[I", Cond.fieldLink RX2 18 "SleepingCars$Rates" "tests" "[I", Cond.fieldLink RX2 21 "SleepingCars$Rates" "subjects" "[I", Cond.fieldLink RX2 24 "SleepingCars$Rates" "signs" "[I", Cond.fieldLink RX2 27 "SleepingCars$Rates" "bounds" "[I", Cond.fieldLink RX2 30 "SleepingCars$Rates" "negated" "[I", Cond.instanceMethod yX6_init, Cond.code yX6_init cX6_init 1 none, Cond.methodLink RX6 3 objectInit, Cond.fieldLink RX6 9 "SleepingCars$Tape" "bytes" "[I", Cond.instanceMethod yX3_init, Cond.code yX3_init cX3_init 1 none, Cond.methodLink RX3 3 objectInit, Cond.fieldLink RX3 9 "SleepingCars$Reader" "faultKind" "I", Cond.fieldLink RX3 15 "SleepingCars$Reader" "faultPlace" "I", Cond.classLink RX3 18 RX2, Cond.fieldLink RX3 21 "SleepingCars$Reader" "draft" "LSleepingCars$Rates;", Cond.classLink RX3 25 RX8, Cond.instantiable RX8 4, Cond.initialized RX8, Cond.fieldLink RX3 28 "SleepingCars$Reader" "tokens" "LSleepingCars$Tokens;", Cond.instanceMethod yX8_init, Cond.code yX8_init cX8_init 1 none]
def wsL_law_r6 : List Cond := [Cond.methodLink RX8 3 objectInit, Cond.fieldLink RX8 9 "SleepingCars$Tokens" "kinds" "[I", Cond.fieldLink RX8 15 "SleepingCars$Tokens" "numbers" "[I", Cond.fieldLink RX8 18 "SleepingCars$Tokens" "places" "[I", Cond.methodLink RL 12 yX10_init, Cond.instanceMethod yX10_init, Cond.code yX10_init cX10_init 2 none, Cond.methodLink RX10 1 objectInit, Cond.arrayClass .byte, Cond.fieldLink RX10 7 "SleepingCarsModel" "tape" "[B", Cond.fieldLink RX10 13 "SleepingCarsModel" "stops" "[I", Cond.fieldLink RX10 17 "SleepingCarsModel" "km" "[I", Cond.fieldLink RX10 20 "SleepingCarsModel" "takes" "[I", Cond.fieldLink RX10 23 "SleepingCarsModel" "officeAt" "[I", Cond.fieldLink RX10 26 "SleepingCarsModel" "shares" "[I", Cond.fieldLink RX10 29 "SleepingCarsModel" "berths" "[I", Cond.fieldLink RX10 32 "SleepingCarsModel" "owner" "[I", Cond.fieldLink RX10 35 "SleepingCarsModel" "lies" "[I", Cond.fieldLink RX10 38 "SleepingCarsModel" "tickets" "[I", Cond.fieldLink RX10 41 "SleepingCarsModel" "tDay" "[I", Cond.fieldLink RX10 44 "SleepingCarsModel" "tBerth" "[I", Cond.fieldLink RX10 47 "SleepingCarsModel" "tFrom" "[I", Cond.fieldLink RX10 50 "SleepingCarsModel" "tTo" "[I", Cond.fieldLink RX10 53 "SleepingCarsModel" "tOffice" "[I"]
def wsL_law_r7 : List Cond := [Cond.fieldLink RX10 56 "SleepingCarsModel" "tBack" "[I", Cond.fieldLink RX10 59 "SleepingCarsModel" "letters" "[I", Cond.fieldLink RX10 62 "SleepingCarsModel" "lComes" "[I", Cond.fieldLink RX10 65 "SleepingCarsModel" "lAnswer" "[I", Cond.fieldLink RX10 68 "SleepingCarsModel" "lOffice" "[I", Cond.fieldLink RX10 71 "SleepingCarsModel" "lDay" "[I", Cond.fieldLink RX10 74 "SleepingCarsModel" "lFrom" "[I", Cond.fieldLink RX10 77 "SleepingCarsModel" "lTo" "[I", Cond.fieldLink RX10 80 "SleepingCarsModel" "lTicket" "[I", Cond.fieldLink RX10 83 "SleepingCarsModel" "now" "[I", Cond.fieldLink RX10 86 "SleepingCarsModel" "lines" "[I", Cond.fieldLink RX10 89 "SleepingCarsModel" "lineTests" "[I", Cond.fieldLink RX10 92 "SleepingCarsModel" "testWhat" "[I", Cond.fieldLink RX10 95 "SleepingCarsModel" "testSign" "[I", Cond.fieldLink RX10 98 "SleepingCarsModel" "testThan" "[I", Cond.fieldLink RX10 101 "SleepingCarsModel" "lineAct" "[I", Cond.fieldLink RX10 104 "SleepingCarsModel" "lineNumber" "[I", Cond.fieldLink RX10 107 "SleepingCarsModel" "free" "[I", Cond.fieldLink RX10 110 "SleepingCarsModel" "newBerth" "[I", Cond.fieldLink RX10 113 "SleepingCarsModel" "faultPlace" "I", Cond.fieldLink RX10 117 "SleepingCarsModel" "newTests" "[I", Cond.fieldLink RX10 120 "SleepingCarsModel" "newWhat" "[I", Cond.fieldLink RX10 123 "SleepingCarsModel" "newSign" "[I", Cond.fieldLink RX10 126 "SleepingCarsModel" "newThan" "[I"]
def wsL_law_r8 : List Cond := [Cond.fieldLink RX10 129 "SleepingCarsModel" "newAct" "[I", Cond.fieldLink RX10 132 "SleepingCarsModel" "newNumber" "[I", Cond.arrayClass .boolean, Cond.fieldLink RX10 135 "SleepingCarsModel" "has" "[Z", Cond.methodLink RL 13 yX9_line, Cond.instanceMethod yX9_line, Cond.selects RX9 yX9_line yX9_line, Cond.code yX9_line cX9_line 2 (some .boolean), Cond.fieldLink RX9 34 "SleepingCars$Book" "runs" "LSleepingCars$Runs;", Cond.fieldLink RX9 38 "SleepingCars$Runs" "size" "I", Cond.fieldLink RX9 44 "SleepingCars$Book" "route" "LSleepingCars$Route;", Cond.fieldLink RX9 54 "SleepingCars$Book" "officeStops" "[I", Cond.methodLink RX9 48 yX4_lay, Cond.methodLink RX9 58 yJ7_fill_53178, Cond.methodLink RL 17 yX10_line, Cond.instanceMethod yX10_line, Cond.selects RX10 yX10_line yX10_line, Cond.code yX10_line cX10_line 3 (some .boolean), Cond.fieldLink RX10 139 "SleepingCarsModel" "code" "I", Cond.methodLink RX10 154 yX10_runs, Cond.instanceMethod yX10_runs, Cond.selects RX10 yX10_runs yX10_runs, Cond.code yX10_runs cX10_runs 3 (some .int), Cond.methodLink RX10 146 yX10_in]
def wsL_law_r9 : List Cond := [Cond.static yX10_in, Cond.code yX10_in cX10_in 3 (some .boolean), Cond.methodLink RL 18 yX9_stretch, Cond.instanceMethod yX9_stretch, Cond.selects RX9 yX9_stretch yX9_stretch, Cond.code yX9_stretch cX9_stretch 4 (some .boolean), Cond.fieldLink RX9 68 "SleepingCars$Route" "legKm" "[I", Cond.fieldLink RX9 71 "SleepingCars$Route" "legHours" "[I", Cond.methodLink RX9 64 yX4_hasLeg, Cond.instanceMethod yX4_hasLeg, Cond.selects RX4 yX4_hasLeg yX4_hasLeg, Cond.code yX4_hasLeg cX4_hasLeg 2 (some .boolean), Cond.methodLink RL 22 yX10_stretch, Cond.instanceMethod yX10_stretch, Cond.selects RX10 yX10_stretch yX10_stretch, Cond.code yX10_stretch cX10_stretch 4 (some .boolean), Cond.methodLink RL 23 yX9_office, Cond.instanceMethod yX9_office, Cond.selects RX9 yX9_office yX9_office, Cond.code yX9_office cX9_office 3 (some .boolean), Cond.methodLink RX9 74 yX9_isOffice, Cond.static yX9_isOffice, Cond.code yX9_isOffice cX9_isOffice 1 (some .boolean), Cond.methodLink RX9 77 yX4_isStop]
def wsL_law_r10 : List Cond := [Cond.instanceMethod yX4_isStop, Cond.selects RX4 yX4_isStop yX4_isStop, Cond.code yX4_isStop cX4_isStop 2 (some .boolean), Cond.methodLink RL 27 yX10_office, Cond.instanceMethod yX10_office, Cond.selects RX10 yX10_office yX10_office, Cond.code yX10_office cX10_office 3 (some .boolean), Cond.methodLink RX10 158 yX10_isOffice, Cond.instanceMethod yX10_isOffice, Cond.selects RX10 yX10_isOffice yX10_isOffice, Cond.code yX10_isOffice cX10_isOffice 2 (some .boolean), Cond.methodLink RL 28 yX9_share, Cond.instanceMethod yX9_share, Cond.selects RX9 yX9_share yX9_share, Cond.code yX9_share cX9_share 3 (some .boolean), Cond.fieldLink RX9 80 "SleepingCars$Book" "shares" "[I", Cond.methodLink RL 31 yX10_share, Cond.instanceMethod yX10_share, Cond.selects RX10 yX10_share yX10_share, Cond.code yX10_share cX10_share 3 (some .boolean), Cond.methodLink RL 32 yX9_run, Cond.instanceMethod yX9_run, Cond.selects RX9 yX9_run yX9_run, Cond.code yX9_run cX9_run 3 (some .boolean)]
def wsL_law_r11 : List Cond := [Cond.methodLink RX9 83 yX5_isTold, Cond.instanceMethod yX5_isTold, Cond.selects RX5 yX5_isTold yX5_isTold, Cond.code yX5_isTold cX5_isTold 2 (some .boolean), Cond.methodLink RX9 86 yX0_hasLeft, Cond.instanceMethod yX0_hasLeft, Cond.selects RX0 yX0_hasLeft yX0_hasLeft, Cond.code yX0_hasLeft cX0_hasLeft 3 (some .boolean), Cond.fieldLink RX0 67 "SleepingCars$Book" "now" "I", Cond.methodLink RX0 71 yX4_hoursTo, Cond.instanceMethod yX4_hoursTo, Cond.selects RX4 yX4_hoursTo yX4_hoursTo, Cond.code yX4_hoursTo cX4_hoursTo 4 (some .int), Cond.methodLink RX9 90 yX5_add, Cond.instanceMethod yX5_add, Cond.selects RX5 yX5_add yX5_add, Cond.code yX5_add cX5_add 4 none, Cond.fieldLink RX5 25 "SleepingCars$Runs" "size" "I", Cond.methodLink RX5 29 arraycopyName, Cond.native arraycopyName, Cond.static arraycopyName, Cond.initialized "java/lang/System", Cond.methodLink RL 35 yX10_run, Cond.instanceMethod yX10_run]
def wsL_law_r12 : List Cond := [Cond.selects RX10 yX10_run yX10_run, Cond.code yX10_run cX10_run 4 (some .boolean), Cond.methodLink RL 36 yX9_sell, Cond.instanceMethod yX9_sell, Cond.selects RX9 yX9_sell yX9_sell, Cond.code yX9_sell cX9_sell 5 (some .int), Cond.methodLink RX9 94 yX0_isRunStretch, Cond.instanceMethod yX0_isRunStretch, Cond.selects RX0 yX0_isRunStretch yX0_isRunStretch, Cond.code yX0_isRunStretch cX0_isRunStretch 4 (some .boolean), Cond.methodLink RX0 59 yX5_isTold, Cond.methodLink RX0 63 yX4_isStretch, Cond.instanceMethod yX4_isStretch, Cond.selects RX4 yX4_isStretch yX4_isStretch, Cond.code yX4_isStretch cX4_isStretch 3 (some .boolean), Cond.methodLink RX9 98 yX0_sellStretch, Cond.instanceMethod yX0_sellStretch, Cond.selects RX0 yX0_sellStretch yX0_sellStretch, Cond.code yX0_sellStretch cX0_sellStretch 6 (some .int), Cond.methodLink RX0 79 yX7_isFull, Cond.instanceMethod yX7_isFull, Cond.selects RX7 yX7_isFull yX7_isFull, Cond.code yX7_isFull cX7_isFull 1 (some .boolean), Cond.fieldLink RX7 30 "SleepingCars$Tickets" "size" "I"]
def wsL_law_r13 : List Cond := [Cond.methodLink RX0 83 yX0_hasLeft, Cond.methodLink RX0 86 yX0_tightestBerth, Cond.instanceMethod yX0_tightestBerth, Cond.selects RX0 yX0_tightestBerth yX0_tightestBerth, Cond.code yX0_tightestBerth cX0_tightestBerth 10 (some .int), Cond.fieldLink RX0 104 "SleepingCars$Runs" "berths" "[I", Cond.fieldLink RX0 111 "SleepingCars$Route" "stops" "I", Cond.methodLink RX0 90 yX5_legsOf, Cond.instanceMethod yX5_legsOf, Cond.selects RX5 yX5_legsOf yX5_legsOf, Cond.code yX5_legsOf cX5_legsOf 3 (some .int), Cond.static yX9_legsBetween, Cond.code yX9_legsBetween cX9_legsBetween 2 (some .int), Cond.methodLink RX0 107 yX0_isOnChart, Cond.instanceMethod yX0_isOnChart, Cond.selects RX0 yX0_isOnChart yX0_isOnChart, Cond.code yX0_isOnChart cX0_isOnChart 4 (some .boolean), Cond.methodLink RX0 75 yX5_owner, Cond.instanceMethod yX5_owner, Cond.selects RX5 yX5_owner yX5_owner, Cond.code yX5_owner cX5_owner 3 (some .int), Cond.methodLink RX0 114 yX5_gap, Cond.instanceMethod yX5_gap, Cond.selects RX5 yX5_gap yX5_gap]
def wsL_law_r14 : List Cond := [Cond.code yX5_gap cX5_gap 8 (some .int), Cond.methodLink RX5 39 yX5_isSold, Cond.instanceMethod yX5_isSold, Cond.selects RX5 yX5_isSold yX5_isSold, Cond.code yX5_isSold cX5_isSold 4 (some .boolean), Cond.methodLink RX5 35 yX5_legsOf, Cond.methodLink RX0 96 yX5_setLegs, Cond.instanceMethod yX5_setLegs, Cond.selects RX5 yX5_setLegs yX5_setLegs, Cond.code yX5_setLegs cX5_setLegs 4 none, Cond.methodLink RX0 100 yX7_add, Cond.instanceMethod yX7_add, Cond.selects RX7 yX7_add yX7_add, Cond.code yX7_add cX7_add 6 (some .int), Cond.methodLink RX7 34 yX7_isFull, Cond.methodLink RL 40 yX10_sell, Cond.instanceMethod yX10_sell, Cond.selects RX10 yX10_sell yX10_sell, Cond.code yX10_sell cX10_sell 5 (some .int), Cond.methodLink RX10 185 yX10_canAsk, Cond.instanceMethod yX10_canAsk, Cond.selects RX10 yX10_canAsk yX10_canAsk, Cond.code yX10_canAsk cX10_canAsk 5 (some .boolean), Cond.methodLink RX10 166 yX10_isRun]
def wsL_law_r15 : List Cond := [Cond.instanceMethod yX10_isRun, Cond.selects RX10 yX10_isRun yX10_isRun, Cond.code yX10_isRun cX10_isRun 2 (some .boolean), Cond.methodLink RX10 169 yX10_isStretch, Cond.instanceMethod yX10_isStretch, Cond.selects RX10 yX10_isStretch yX10_isStretch, Cond.code yX10_isStretch cX10_isStretch 3 (some .boolean), Cond.methodLink RX10 188 yX10_sells, Cond.instanceMethod yX10_sells, Cond.selects RX10 yX10_sells yX10_sells, Cond.code yX10_sells cX10_sells 10 (some .int), Cond.methodLink RX10 173 yX10_leaves, Cond.instanceMethod yX10_leaves, Cond.selects RX10 yX10_leaves yX10_leaves, Cond.code yX10_leaves cX10_leaves 3 (some .int), Cond.methodLink RX10 150 yX10_upTo, Cond.instanceMethod yX10_upTo, Cond.selects RX10 yX10_upTo yX10_upTo, Cond.code yX10_upTo cX10_upTo 4 (some .int), Cond.methodLink RX10 177 yX10_isFree, Cond.instanceMethod yX10_isFree, Cond.selects RX10 yX10_isFree yX10_isFree, Cond.code yX10_isFree cX10_isFree 6 (some .boolean), Cond.methodLink RX10 162 yX10_at]
def wsL_law_r16 : List Cond := [Cond.instanceMethod yX10_at, Cond.selects RX10 yX10_at yX10_at, Cond.code yX10_at cX10_at 4 (some .int), Cond.methodLink RX10 181 yX10_gap, Cond.instanceMethod yX10_gap, Cond.selects RX10 yX10_gap yX10_gap, Cond.code yX10_gap cX10_gap 7 (some .int), Cond.methodLink RL 41 yX9_back, Cond.instanceMethod yX9_back, Cond.selects RX9 yX9_back yX9_back, Cond.code yX9_back cX9_back 2 (some .boolean), Cond.fieldLink RX9 102 "SleepingCars$Book" "tickets" "LSleepingCars$Tickets;", Cond.methodLink RX9 106 yX7_has, Cond.instanceMethod yX7_has, Cond.selects RX7 yX7_has yX7_has, Cond.code yX7_has cX7_has 2 (some .boolean), Cond.methodLink RX9 111 yX0_takeBack, Cond.instanceMethod yX0_takeBack, Cond.selects RX0 yX0_takeBack yX0_takeBack, Cond.code yX0_takeBack cX0_takeBack 4 (some .boolean), Cond.fieldLink RX0 117 "SleepingCars$Tickets" "days" "[I", Cond.fieldLink RX0 120 "SleepingCars$Tickets" "given" "[I", Cond.fieldLink RX0 123 "SleepingCars$Tickets" "froms" "[I", Cond.fieldLink RX0 126 "SleepingCars$Tickets" "berths" "[I"]
def wsL_law_r17 : List Cond := [Cond.methodLink RX0 127 yX7_legsOf, Cond.instanceMethod yX7_legsOf, Cond.selects RX7 yX7_legsOf yX7_legsOf, Cond.code yX7_legsOf cX7_legsOf 2 (some .int), Cond.methodLink RL 44 yX10_back, Cond.instanceMethod yX10_back, Cond.selects RX10 yX10_back yX10_back, Cond.code yX10_back cX10_back 3 (some .boolean), Cond.methodLink RL 45 yX9_letter, Cond.instanceMethod yX9_letter, Cond.selects RX9 yX9_letter yX9_letter, Cond.code yX9_letter cX9_letter 7 (some .int), Cond.fieldLink RX9 122 "SleepingCars$Book" "letters" "LSleepingCars$Letters;", Cond.fieldLink RX9 126 "SleepingCars$Book" "now" "I", Cond.methodLink RX9 114 yX7_isFull, Cond.methodLink RX9 118 yX0_letterHours, Cond.instanceMethod yX0_letterHours, Cond.selects RX0 yX0_letterHours yX0_letterHours, Cond.code yX0_letterHours cX0_letterHours 4 (some .int), Cond.methodLink RX0 129 Lib.Math.abs.name, Cond.static Lib.Math.abs.name, Cond.initialized "java/lang/Math", Cond.code Lib.Math.abs.name Lib.Math.abs.code 1 (some .int), Cond.methodLink RX9 129 yX1_add]
def wsL_law_r18 : List Cond := [Cond.instanceMethod yX1_add, Cond.selects RX1 yX1_add yX1_add, Cond.code yX1_add cX1_add 7 (some .int), Cond.fieldLink RX1 33 "SleepingCars$Letters" "size" "I", Cond.methodLink RL 49 yX10_letter, Cond.instanceMethod yX10_letter, Cond.selects RX10 yX10_letter yX10_letter, Cond.code yX10_letter cX10_letter 7 (some .int), Cond.methodLink RX10 191 yX10_between, Cond.instanceMethod yX10_between, Cond.selects RX10 yX10_between yX10_between, Cond.code yX10_between cX10_between 4 (some .int), Cond.methodLink RL 50 yX9_post, Cond.instanceMethod yX9_post, Cond.selects RX9 yX9_post yX9_post, Cond.code yX9_post cX9_post 3 (some .int), Cond.fieldLink RX9 135 "SleepingCars$Letters" "comes" "[I", Cond.fieldLink RX9 138 "SleepingCars$Letters" "answered" "[I", Cond.fieldLink RX9 144 "SleepingCars$Letters" "sold" "[I", Cond.methodLink RX9 134 yX1_has, Cond.instanceMethod yX1_has, Cond.selects RX1 yX1_has yX1_has, Cond.code yX1_has cX1_has 2 (some .boolean), Cond.methodLink RX9 141 yX1_standing]
def wsL_law_r19 : List Cond := [Cond.instanceMethod yX1_standing, Cond.selects RX1 yX1_standing yX1_standing, Cond.code yX1_standing cX1_standing 3 (some .int), Cond.methodLink RL 54 yX10_post, Cond.instanceMethod yX10_post, Cond.selects RX10 yX10_post yX10_post, Cond.code yX10_post cX10_post 3 (some .int), Cond.methodLink RL 55 yX9_hours, Cond.instanceMethod yX9_hours, Cond.selects RX9 yX9_hours yX9_hours, Cond.code yX9_hours cX9_hours 3 (some .int), Cond.methodLink RX9 147 yX0_beginNextHour, Cond.instanceMethod yX0_beginNextHour, Cond.selects RX0 yX0_beginNextHour yX0_beginNextHour, Cond.code yX0_beginNextHour cX0_beginNextHour 2 none, Cond.fieldLink RX0 134 "SleepingCars$Letters" "size" "I", Cond.fieldLink RX0 137 "SleepingCars$Letters" "comes" "[I", Cond.fieldLink RX0 140 "SleepingCars$Letters" "sold" "[I", Cond.fieldLink RX0 143 "SleepingCars$Letters" "offices" "[I", Cond.fieldLink RX0 146 "SleepingCars$Letters" "days" "[I", Cond.fieldLink RX0 147 "SleepingCars$Letters" "froms" "[I", Cond.fieldLink RX0 148 "SleepingCars$Letters" "tos" "[I", Cond.methodLink RX0 151 yX0_sellStretch, Cond.methodLink RL 59 yX10_hours]
def wsL_law_r20 : List Cond := [Cond.instanceMethod yX10_hours, Cond.selects RX10 yX10_hours yX10_hours, Cond.code yX10_hours cX10_hours 4 (some .int), Cond.methodLink RL 60 yX9_moved, Cond.instanceMethod yX9_moved, Cond.selects RX9 yX9_moved yX9_moved, Cond.code yX9_moved cX9_moved 2 (some .int), Cond.methodLink RX9 150 yX0_layAnew, Cond.instanceMethod yX0_layAnew, Cond.selects RX0 yX0_layAnew yX0_layAnew, Cond.code yX0_layAnew cX0_layAnew 5 (some .int), Cond.fieldLink RX0 160 "SleepingCars$Tickets" "size" "I", Cond.methodLink RX0 154 yJ7_fill_53178, Cond.methodLink RX0 161 yX7_isLive, Cond.instanceMethod yX7_isLive, Cond.selects RX7 yX7_isLive yX7_isLive, Cond.code yX7_isLive cX7_isLive 3 (some .boolean), Cond.methodLink RX0 164 yX0_layTicket, Cond.instanceMethod yX0_layTicket, Cond.selects RX0 yX0_layTicket yX0_layTicket, Cond.code yX0_layTicket cX0_layTicket 7 (some .boolean), Cond.methodLink RL 63 yX10_moved, Cond.instanceMethod yX10_moved, Cond.selects RX10 yX10_moved yX10_moved]
def wsL_law_r21 : List Cond := [Cond.code yX10_moved cX10_moved 5 (some .int), Cond.methodLink RX10 200 yX10_hasLeft, Cond.instanceMethod yX10_hasLeft, Cond.selects RX10 yX10_hasLeft yX10_hasLeft, Cond.code yX10_hasLeft cX10_hasLeft 2 (some .boolean), Cond.methodLink RX10 203 yX10_places, Cond.instanceMethod yX10_places, Cond.selects RX10 yX10_places yX10_places, Cond.code yX10_places cX10_places 9 (some .boolean), Cond.methodLink RX10 194 yX10_following, Cond.instanceMethod yX10_following, Cond.selects RX10 yX10_following yX10_following, Cond.code yX10_following cX10_following 7 (some .int), Cond.methodLink RX10 197 yX10_firstFree, Cond.instanceMethod yX10_firstFree, Cond.selects RX10 yX10_firstFree yX10_firstFree, Cond.code yX10_firstFree cX10_firstFree 5 (some .int), Cond.methodLink RL 64 yX9_wouldFit, Cond.instanceMethod yX9_wouldFit, Cond.selects RX9 yX9_wouldFit yX9_wouldFit, Cond.code yX9_wouldFit cX9_wouldFit 5 (some .boolean), Cond.methodLink RX9 154 yX0_hasRoom, Cond.instanceMethod yX0_hasRoom, Cond.selects RX0 yX0_hasRoom yX0_hasRoom]
def wsL_law_r22 : List Cond := [Cond.code yX0_hasRoom cX0_hasRoom 6 (some .boolean), Cond.methodLink RX0 167 yX0_hasRoomOn, Cond.instanceMethod yX0_hasRoomOn, Cond.selects RX0 yX0_hasRoomOn yX0_hasRoomOn, Cond.code yX0_hasRoomOn cX0_hasRoomOn 5 (some .boolean), Cond.methodLink RX0 170 yX5_isSold, Cond.methodLink RL 68 yX10_wouldFit, Cond.instanceMethod yX10_wouldFit, Cond.selects RX10 yX10_wouldFit yX10_wouldFit, Cond.code yX10_wouldFit cX10_wouldFit 5 (some .boolean), Cond.methodLink RL 69 yX9_ticket, Cond.instanceMethod yX9_ticket, Cond.selects RX9 yX9_ticket yX9_ticket, Cond.code yX9_ticket cX9_ticket 3 (some .int), Cond.fieldLink RX9 158 "SleepingCars$Tickets" "days" "[I", Cond.fieldLink RX9 161 "SleepingCars$Tickets" "berths" "[I", Cond.fieldLink RX9 164 "SleepingCars$Tickets" "froms" "[I", Cond.fieldLink RX9 167 "SleepingCars$Tickets" "tos" "[I", Cond.fieldLink RX9 170 "SleepingCars$Tickets" "offices" "[I", Cond.fieldLink RX9 173 "SleepingCars$Tickets" "given" "[I", Cond.methodLink RL 72 yX10_ticket, Cond.instanceMethod yX10_ticket, Cond.selects RX10 yX10_ticket yX10_ticket, Cond.code yX10_ticket cX10_ticket 3 (some .int)]
def wsL_law_r23 : List Cond := [Cond.methodLink RL 73 yX9_lies, Cond.instanceMethod yX9_lies, Cond.selects RX9 yX9_lies yX9_lies, Cond.code yX9_lies cX9_lies 4 (some .int), Cond.methodLink RX9 176 yX5_hasBerth, Cond.instanceMethod yX5_hasBerth, Cond.selects RX5 yX5_hasBerth yX5_hasBerth, Cond.code yX5_hasBerth cX5_hasBerth 3 (some .boolean), Cond.methodLink RX5 21 yX5_isTold, Cond.methodLink RX9 179 yX7_find, Cond.instanceMethod yX7_find, Cond.selects RX7 yX7_find yX7_find, Cond.code yX7_find cX7_find 5 (some .int), Cond.methodLink RX7 42 yX7_isLive, Cond.methodLink RL 77 yX10_lies, Cond.instanceMethod yX10_lies, Cond.selects RX10 yX10_lies yX10_lies, Cond.code yX10_lies cX10_lies 4 (some .int), Cond.methodLink RL 78 yX9_told, Cond.instanceMethod yX9_told, Cond.selects RX9 yX9_told yX9_told, Cond.code yX9_told cX9_told 3 (some .int), Cond.fieldLink RX9 183 "SleepingCars$Runs" "berths" "[I", Cond.methodLink RX9 184 yX7_liveOf]
def wsL_law_r24 : List Cond := [Cond.instanceMethod yX7_liveOf, Cond.selects RX7 yX7_liveOf yX7_liveOf, Cond.code yX7_liveOf cX7_liveOf 4 (some .int), Cond.methodLink RX9 187 yX0_mostSold, Cond.instanceMethod yX0_mostSold, Cond.selects RX0 yX0_mostSold yX0_mostSold, Cond.code yX0_mostSold cX0_mostSold 4 (some .int), Cond.methodLink RX0 176 Lib.Math.max.name, Cond.static Lib.Math.max.name, Cond.code Lib.Math.max.name Lib.Math.max.code 2 (some .int), Cond.methodLink RX0 173 yX5_soldOn, Cond.instanceMethod yX5_soldOn, Cond.selects RX5 yX5_soldOn yX5_soldOn, Cond.code yX5_soldOn cX5_soldOn 5 (some .int), Cond.methodLink RX9 190 yX0_legsSold, Cond.instanceMethod yX0_legsSold, Cond.selects RX0 yX0_legsSold yX0_legsSold, Cond.code yX0_legsSold cX0_legsSold 4 (some .int), Cond.methodLink RX9 193 yX9_ownerOrNone, Cond.instanceMethod yX9_ownerOrNone, Cond.selects RX9 yX9_ownerOrNone yX9_ownerOrNone, Cond.code yX9_ownerOrNone cX9_ownerOrNone 3 (some .int), Cond.methodLink RX9 260 yX5_owner, Cond.methodLink RL 81 yX10_told]
def wsL_law_r25 : List Cond := [Cond.instanceMethod yX10_told, Cond.selects RX10 yX10_told yX10_told, Cond.code yX10_told cX10_told 5 (some .int), Cond.methodLink RX10 206 yX10_sold, Cond.instanceMethod yX10_sold, Cond.selects RX10 yX10_sold yX10_sold, Cond.code yX10_sold cX10_sold 5 (some .int), Cond.methodLink RL 82 yX9_feed, Cond.instanceMethod yX9_feed, Cond.selects RX9 yX9_feed yX9_feed, Cond.code yX9_feed cX9_feed 6 (some .int), Cond.fieldLink RX9 196 "SleepingCars$Tape" "size" "I", Cond.methodLink RX9 197 yX6_append, Cond.instanceMethod yX6_append, Cond.selects RX6 yX6_append yX6_append, Cond.code yX6_append cX6_append 3 none, Cond.fieldLink RX6 15 "SleepingCars$Tape" "size" "I", Cond.methodLink RL 85 yX10_feed, Cond.instanceMethod yX10_feed, Cond.selects RX10 yX10_feed yX10_feed, Cond.code yX10_feed cX10_feed 6 (some .int), Cond.fieldLink RX10 209 "SleepingCarsModel" "size" "I", Cond.methodLink RX10 212 yX10_four, Cond.instanceMethod yX10_four]
def wsL_law_r26 : List Cond := [Cond.selects RX10 yX10_four yX10_four, Cond.code yX10_four cX10_four 3 none, Cond.methodLink RL 86 yX9_end, Cond.instanceMethod yX9_end, Cond.selects RX9 yX9_end yX9_end, Cond.code yX9_end cX9_end 2 (some .int), Cond.methodLink RL 89 yX10_end, Cond.instanceMethod yX10_end, Cond.selects RX10 yX10_end yX10_end, Cond.code yX10_end cX10_end 2 (some .int), Cond.methodLink RL 90 yX9_contract, Cond.instanceMethod yX9_contract, Cond.selects RX9 yX9_contract yX9_contract, Cond.code yX9_contract cX9_contract 1 (some .int), Cond.fieldLink RX9 204 "SleepingCars$Reader" "faultKind" "I", Cond.fieldLink RX9 207 "SleepingCars$Book" "rates" "LSleepingCars$Rates;", Cond.fieldLink RX9 211 "SleepingCars$Reader" "draft" "LSleepingCars$Rates;", Cond.fieldLink RX9 220 "SleepingCars$Rates" "lines" "I", Cond.methodLink RX9 200 yX3_read, Cond.instanceMethod yX3_read, Cond.selects RX3 yX3_read yX3_read, Cond.code yX3_read cX3_read 3 none, Cond.fieldLink RX3 32 "SleepingCars$Reader" "surplusPlace" "I", Cond.fieldLink RX3 35 "SleepingCars$Reader" "at" "I"]
def wsL_law_r27 : List Cond := [Cond.methodLink RX3 38 yX2_clear, Cond.instanceMethod yX2_clear, Cond.selects RX2 yX2_clear yX2_clear, Cond.code yX2_clear cX2_clear 1 none, Cond.fieldLink RX2 33 "SleepingCars$Rates" "lines" "I", Cond.methodLink RX2 37 yJ7_fill_53178, Cond.methodLink RX3 41 yX8_split, Cond.instanceMethod yX8_split, Cond.selects RX8 yX8_split yX8_split, Cond.code yX8_split cX8_split 3 none, Cond.fieldLink RX8 21 "SleepingCars$Tokens" "size" "I", Cond.fieldLink RX8 25 "SleepingCars$Tape" "size" "I", Cond.methodLink RX8 32 Lib.Math.max.name, Cond.methodLink RX8 28 yX8_takeAt, Cond.instanceMethod yX8_takeAt, Cond.selects RX8 yX8_takeAt yX8_takeAt, Cond.code yX8_takeAt cX8_takeAt 5 (some .int), Cond.fieldLink RX8 42 "SleepingCars$Tape" "bytes" "[I", Cond.methodLink RX8 45 yX8_isIn, Cond.static yX8_isIn, Cond.code yX8_isIn cX8_isIn 3 (some .boolean), Cond.methodLink RX8 49 yX8_rowLength, Cond.static yX8_rowLength, Cond.code yX8_rowLength cX8_rowLength 5 (some .int)]
def wsL_law_r28 : List Cond := [Cond.methodLink RX8 53 yX8_wordKind, Cond.static yX8_wordKind, Cond.code yX8_wordKind cX8_wordKind 4 (some .int), Cond.methodLink RX8 64 yX8_wordOf, Cond.static yX8_wordOf, Cond.code yX8_wordOf cX8_wordOf 1 (some (.object "java/lang/String")), Cond.methodLink RX8 68 yX8_spells, Cond.static yX8_spells, Cond.code yX8_spells cX8_spells 5 (some .boolean), Cond.methodLink RX8 96 yJ0_length_8abf5, Cond.instanceMethod yJ0_length_8abf5, Cond.selects RJ0 yJ0_length_8abf5 yJ0_length_8abf5, Cond.initialized RJ0, Cond.code yJ0_length_8abf5 cJ0_length_8abf5 1 (some .int), Cond.fieldLink RJ0 9 "java/lang/String" "value" "[B", Cond.methodLink RJ0 335 yJ0_coder_7d493, Cond.instanceMethod yJ0_coder_7d493, Cond.selects RJ0 yJ0_coder_7d493 yJ0_coder_7d493, Cond.code yJ0_coder_7d493 cJ0_coder_7d493 1 (some .byte), Cond.fieldLink RJ0 38 "java/lang/String" "COMPACT_STRINGS" "Z", Cond.fieldLink RJ0 15 "java/lang/String" "coder" "B", Cond.methodLink RX8 102 yJ0_charAt_5068e, Cond.instanceMethod yJ0_charAt_5068e, Cond.selects RJ0 yJ0_charAt_5068e yJ0_charAt_5068e]
def wsL_law_r29 : List Cond := [Cond.code yJ0_charAt_5068e cJ0_charAt_5068e 2 (some .char), Cond.methodLink RJ0 492 yJ0_isLatin1_aae02, Cond.instanceMethod yJ0_isLatin1_aae02, Cond.selects RJ0 yJ0_isLatin1_aae02 yJ0_isLatin1_aae02, Cond.code yJ0_isLatin1_aae02 cJ0_isLatin1_aae02 1 (some .boolean), Cond.methodLink RJ0 495 yJ1_charAt_3b067, Cond.static yJ1_charAt_3b067, Cond.initialized RJ1, Cond.code yJ1_charAt_3b067 cJ1_charAt_3b067 2 (some .char), Cond.methodLink RJ1 9 yJ0_checkIndex_df160, Cond.static yJ0_checkIndex_df160, Cond.code yJ0_checkIndex_df160 cJ0_checkIndex_df160 2 none, Cond.fieldLink RJ0 1053 "jdk/internal/util/Preconditions" "SIOOBE_FORMATTER" "Ljava/util/function/BiFunction;", Cond.methodLink RJ0 1059 yJ3_checkIndex_8e157, Cond.static yJ3_checkIndex_8e157, Cond.initialized RJ3, Cond.code yJ3_checkIndex_8e157 cJ3_checkIndex_8e157 3 (some .int), Cond.methodLink RJ0 498 yJ2_charAt_3b067, Cond.static yJ2_charAt_3b067, Cond.initialized RJ2, Cond.code yJ2_charAt_3b067 cJ2_charAt_3b067 2 (some .char), Cond.methodLink RJ2 67 yJ2_checkIndex_2214a, Cond.static yJ2_checkIndex_2214a, Cond.code yJ2_checkIndex_2214a cJ2_checkIndex_2214a 2 none]
def wsL_law_r30 : List Cond := [Cond.methodLink RJ2 48 yJ2_length_9d52b, Cond.static yJ2_length_9d52b, Cond.code yJ2_length_9d52b cJ2_length_9d52b 1 (some .int), Cond.methodLink RJ2 414 yJ0_checkIndex_df160, Cond.methodLink RJ2 71 yJ2_getChar_3b067, Cond.static yJ2_getChar_3b067, Cond.code yJ2_getChar_3b067 cJ2_getChar_3b067 2 (some .char), Cond.fieldLink RJ2 44 "java/lang/StringUTF16" "$assertionsDisabled" "Z", Cond.fieldLink RJ2 59 "java/lang/StringUTF16" "HI_BYTE_SHIFT" "I", Cond.fieldLink RJ2 63 "java/lang/StringUTF16" "LO_BYTE_SHIFT" "I", Cond.methodLink RX8 38 yX8_add, Cond.instanceMethod yX8_add, Cond.selects RX8 yX8_add yX8_add, Cond.code yX8_add cX8_add 4 none, Cond.methodLink RX8 57 yX8_numberOf, Cond.static yX8_numberOf, Cond.code yX8_numberOf cX8_numberOf 5 (some .int), Cond.methodLink RX8 60 yX8_signKind, Cond.static yX8_signKind, Cond.code yX8_signKind cX8_signKind 1 (some .int), Cond.methodLink RX3 45 yX3_isSound, Cond.instanceMethod yX3_isSound, Cond.selects RX3 yX3_isSound yX3_isSound, Cond.code yX3_isSound cX3_isSound 1 (some .boolean)]
def wsL_law_r31 : List Cond := [Cond.methodLink RX3 49 yX3_isNext, Cond.instanceMethod yX3_isNext, Cond.selects RX3 yX3_isNext yX3_isNext, Cond.code yX3_isNext cX3_isNext 2 (some .boolean), Cond.methodLink RX3 66 yX8_kindAt, Cond.instanceMethod yX8_kindAt, Cond.selects RX8 yX8_kindAt yX8_kindAt, Cond.code yX8_kindAt cX8_kindAt 2 (some .int), Cond.methodLink RX3 53 yX3_readLine, Cond.instanceMethod yX3_readLine, Cond.selects RX3 yX3_readLine yX3_readLine, Cond.code yX3_readLine cX3_readLine 4 none, Cond.methodLink RX3 57 yX3_noteSurplus, Cond.instanceMethod yX3_noteSurplus, Cond.selects RX3 yX3_noteSurplus yX3_noteSurplus, Cond.code yX3_noteSurplus cX3_noteSurplus 1 none, Cond.methodLink RX3 84 yX8_placeAt, Cond.instanceMethod yX8_placeAt, Cond.selects RX8 yX8_placeAt yX8_placeAt, Cond.code yX8_placeAt cX8_placeAt 2 (some .int), Cond.methodLink RX3 60 yX3_readTests, Cond.instanceMethod yX3_readTests, Cond.selects RX3 yX3_readTests yX3_readTests, Cond.code yX3_readTests cX3_readTests 2 none]
def wsL_law_r32 : List Cond := [Cond.methodLink RX3 77 yX3_readTest, Cond.instanceMethod yX3_readTest, Cond.selects RX3 yX3_readTest yX3_readTest, Cond.code yX3_readTest cX3_readTest 6 none, Cond.methodLink RX3 63 yX3_takeIf, Cond.instanceMethod yX3_takeIf, Cond.selects RX3 yX3_takeIf yX3_takeIf, Cond.code yX3_takeIf cX3_takeIf 2 none, Cond.methodLink RX3 80 yX2_addTest, Cond.instanceMethod yX2_addTest, Cond.selects RX2 yX2_addTest yX2_addTest, Cond.code yX2_addTest cX2_addTest 6 none, Cond.methodLink RX3 70 yX8_numberAt, Cond.instanceMethod yX8_numberAt, Cond.selects RX8 yX8_numberAt yX8_numberAt, Cond.code yX8_numberAt cX8_numberAt 2 (some .int), Cond.methodLink RX3 73 yX2_addLine, Cond.instanceMethod yX2_addLine, Cond.selects RX2 yX2_addLine yX2_addLine, Cond.code yX2_addLine cX2_addLine 3 none, Cond.methodLink RX9 214 yX2_copyFrom, Cond.instanceMethod yX2_copyFrom, Cond.selects RX2 yX2_copyFrom yX2_copyFrom, Cond.code yX2_copyFrom cX2_copyFrom 2 none]
def wsL_law_r33 : List Cond := [Cond.methodLink RX2 62 arraycopyName, Cond.methodLink RL 94 yX10_contract, Cond.instanceMethod yX10_contract, Cond.selects RX10 yX10_contract yX10_contract, Cond.code yX10_contract cX10_contract 4 (some .int), Cond.fieldLink RX10 219 "SleepingCarsModel" "length" "I", Cond.fieldLink RX10 216 "SleepingCarsModel" "ahead" "I", Cond.fieldLink RX10 238 "SleepingCarsModel" "fault" "I", Cond.fieldLink RX10 241 "SleepingCarsModel" "laterPlace" "I", Cond.fieldLink RX10 254 "SleepingCarsModel" "newLines" "I", Cond.fieldLink RX10 235 "SleepingCarsModel" "sort" "I", Cond.methodLink RX10 251 yX10_next, Cond.instanceMethod yX10_next, Cond.selects RX10 yX10_next yX10_next, Cond.code yX10_next cX10_next 3 none, Cond.fieldLink RX10 225 "SleepingCarsModel" "begins" "I", Cond.fieldLink RX10 228 "SleepingCarsModel" "value" "I", Cond.fieldLink RX10 231 "SleepingCarsModel" "word" "J", Cond.methodLink RX10 222 yX10_see, Cond.instanceMethod yX10_see, Cond.selects RX10 yX10_see yX10_see, Cond.code yX10_see cX10_see 1 (some .int), Cond.methodLink RX10 294 yX10_oneLine, Cond.instanceMethod yX10_oneLine]
def wsL_law_r34 : List Cond := [Cond.selects RX10 yX10_oneLine yX10_oneLine, Cond.code yX10_oneLine cX10_oneLine 4 (some .boolean), Cond.constantLong RX10 260 (2003330414), Cond.constantLong RX10 269 (6385252), Cond.constantLong RX10 274 (1635282021), Cond.constantLong RX10 276 (422608794728), Cond.constantLong RX10 278 (1718378868), Cond.constantLong RX10 280 (1718773093), Cond.methodLink RX10 257 yX10_tooMany, Cond.instanceMethod yX10_tooMany, Cond.selects RX10 yX10_tooMany yX10_tooMany, Cond.code yX10_tooMany cX10_tooMany 2 none, Cond.methodLink RX10 262 yX10_isWord, Cond.instanceMethod yX10_isWord, Cond.selects RX10 yX10_isWord yX10_isWord, Cond.code yX10_isWord cX10_isWord 3 (some .boolean), Cond.methodLink RX10 266 yX10_test, Cond.instanceMethod yX10_test, Cond.selects RX10 yX10_test yX10_test, Cond.code yX10_test cX10_test 8 (some .boolean), Cond.constantLong RX10 282 (7237492), Cond.constantLong RX10 284 (1937010544), Cond.constantLong RX10 286 (27501), Cond.constantLong RX10 288 (1752135026)]
def wsL_law_r35 : List Cond := [Cond.constantLong RX10 290 (1936682084), Cond.constantLong RX10 292 (474214787188), Cond.methodLink RX10 247 yX10_wrong, Cond.instanceMethod yX10_wrong, Cond.selects RX10 yX10_wrong yX10_wrong, Cond.code yX10_wrong cX10_wrong 1 (some .boolean), Cond.methodLink RX10 271 yX10_need, Cond.instanceMethod yX10_need, Cond.selects RX10 yX10_need yX10_need, Cond.code yX10_need cX10_need 2 (some .boolean), Cond.methodLink RX10 244 yX10_isSign, Cond.instanceMethod yX10_isSign, Cond.selects RX10 yX10_isSign yX10_isSign, Cond.code yX10_isSign cX10_isSign 2 (some .boolean), Cond.methodLink RL 95 yX9_fault, Cond.instanceMethod yX9_fault, Cond.selects RX9 yX9_fault yX9_fault, Cond.code yX9_fault cX9_fault 2 (some .int), Cond.fieldLink RX9 223 "SleepingCars$Reader" "faultPlace" "I", Cond.methodLink RL 98 yX10_fault, Cond.instanceMethod yX10_fault, Cond.selects RX10 yX10_fault yX10_fault, Cond.code yX10_fault cX10_fault 2 (some .int), Cond.methodLink RL 99 yX9_cost]
def wsL_law_r36 : List Cond := [Cond.instanceMethod yX9_cost, Cond.selects RX9 yX9_cost yX9_cost, Cond.code yX9_cost cX9_cost 3 (some .long), Cond.methodLink RX9 226 yX0_priceOfRun, Cond.instanceMethod yX0_priceOfRun, Cond.selects RX0 yX0_priceOfRun yX0_priceOfRun, Cond.code yX0_priceOfRun cX0_priceOfRun 5 (some .long), Cond.methodLink RX0 179 yX0_priceOfLeg, Cond.instanceMethod yX0_priceOfLeg, Cond.selects RX0 yX0_priceOfLeg yX0_priceOfLeg, Cond.code yX0_priceOfLeg cX0_priceOfLeg 4 (some .long), Cond.fieldLink RX0 183 "SleepingCars$Route" "legKm" "[I", Cond.methodLink RX0 186 yX2_priceOf, Cond.instanceMethod yX2_priceOf, Cond.selects RX2 yX2_priceOf yX2_priceOf, Cond.code yX2_priceOf cX2_priceOf 5 (some .long), Cond.methodLink RX2 43 yX2_allHold, Cond.instanceMethod yX2_allHold, Cond.selects RX2 yX2_allHold yX2_allHold, Cond.code yX2_allHold cX2_allHold 4 (some .boolean), Cond.methodLink RX2 51 yX2_holds, Cond.instanceMethod yX2_holds, Cond.selects RX2 yX2_holds yX2_holds, Cond.code yX2_holds cX2_holds 4 (some .boolean)]
def wsL_law_r37 : List Cond := [Cond.methodLink RX2 54 yX2_compares, Cond.static yX2_compares, Cond.code yX2_compares cX2_compares 3 (some .boolean), Cond.methodLink RX2 47 yX2_timesCharged, Cond.static yX2_timesCharged, Cond.code yX2_timesCharged cX2_timesCharged 2 (some .long), Cond.constantLong RX2 58 (4), Cond.constantLong RX2 60 (-1), Cond.methodLink RX9 230 yX0_priceOfLeg, Cond.methodLink RL 103 yX10_cost, Cond.instanceMethod yX10_cost, Cond.selects RX10 yX10_cost yX10_cost, Cond.code yX10_cost cX10_cost 6 (some .long), Cond.methodLink RX10 305 yX10_costOf, Cond.instanceMethod yX10_costOf, Cond.selects RX10 yX10_costOf yX10_costOf, Cond.code yX10_costOf cX10_costOf 7 (some .long), Cond.constantLong RX10 303 (4), Cond.methodLink RX10 300 yX10_holds, Cond.instanceMethod yX10_holds, Cond.selects RX10 yX10_holds yX10_holds, Cond.code yX10_holds cX10_holds 7 (some .boolean), Cond.methodLink RX10 297 yX10_asked, Cond.instanceMethod yX10_asked]
def wsL_law_r38 : List Cond := [Cond.selects RX10 yX10_asked yX10_asked, Cond.code yX10_asked cX10_asked 5 (some .int), Cond.methodLink RL 104 yX9_cars, Cond.instanceMethod yX9_cars, Cond.selects RX9 yX9_cars yX9_cars, Cond.code yX9_cars cX9_cars 6 (some .int), Cond.methodLink RX9 244 Lib.Math.max.name, Cond.methodLink RX9 234 yX4_allHours, Cond.instanceMethod yX4_allHours, Cond.selects RX4 yX4_allHours yX4_allHours, Cond.code yX4_allHours cX4_allHours 1 (some .int), Cond.methodLink RX4 32 yX4_hoursTo, Cond.methodLink RX9 238 yX9_isInSet, Cond.static yX9_isInSet, Cond.code yX9_isInSet cX9_isInSet 2 (some .boolean), Cond.methodLink RX9 241 yX9_carsOut, Cond.static yX9_carsOut, Cond.code yX9_carsOut cX9_carsOut 5 (some .int), Cond.methodLink RL 107 yX10_cars, Cond.instanceMethod yX10_cars, Cond.selects RX10 yX10_cars yX10_cars, Cond.code yX10_cars cX10_cars 8 (some .int), Cond.methodLink RL 108 yX9_count, Cond.instanceMethod yX9_count]
def wsL_law_r39 : List Cond := [Cond.selects RX9 yX9_count yX9_count, Cond.code yX9_count cX9_count 2 (some .int), Cond.fieldLink RX9 249 "SleepingCars$Route" "stops" "I", Cond.fieldLink RX9 252 "SleepingCars$Tickets" "size" "I", Cond.fieldLink RX9 253 "SleepingCars$Letters" "size" "I", Cond.methodLink RX9 254 yX4_allKm, Cond.instanceMethod yX4_allKm, Cond.selects RX4 yX4_allKm yX4_allKm, Cond.code yX4_allKm cX4_allKm 3 (some .int), Cond.methodLink RL 111 yX10_count, Cond.instanceMethod yX10_count, Cond.selects RX10 yX10_count yX10_count, Cond.code yX10_count cX10_count 4 (some .int), Cond.methodLink RL 112 yX9_image, Cond.instanceMethod yX9_image, Cond.selects RX9 yX9_image yX9_image, Cond.code yX9_image cX9_image 2 (some .boolean), Cond.methodLink RX9 257 yX0_copyFrom, Cond.instanceMethod yX0_copyFrom, Cond.selects RX0 yX0_copyFrom yX0_copyFrom, Cond.code yX0_copyFrom cX0_copyFrom 2 none, Cond.methodLink RX0 206 arraycopyName, Cond.methodLink RX0 190 yX4_copyFrom, Cond.instanceMethod yX4_copyFrom]
def wsL_law_r40 : List Cond := [Cond.selects RX4 yX4_copyFrom yX4_copyFrom, Cond.code yX4_copyFrom cX4_copyFrom 2 none, Cond.methodLink RX4 36 arraycopyName, Cond.methodLink RX0 194 yX5_copyFrom, Cond.instanceMethod yX5_copyFrom, Cond.selects RX5 yX5_copyFrom yX5_copyFrom, Cond.code yX5_copyFrom cX5_copyFrom 2 none, Cond.methodLink RX0 197 yX7_copyFrom, Cond.instanceMethod yX7_copyFrom, Cond.selects RX7 yX7_copyFrom yX7_copyFrom, Cond.code yX7_copyFrom cX7_copyFrom 2 none, Cond.methodLink RX7 46 arraycopyName, Cond.methodLink RX0 200 yX1_copyFrom, Cond.instanceMethod yX1_copyFrom, Cond.selects RX1 yX1_copyFrom yX1_copyFrom, Cond.code yX1_copyFrom cX1_copyFrom 2 none, Cond.methodLink RX1 37 arraycopyName, Cond.methodLink RX0 203 yX2_copyFrom, Cond.methodLink RL 115 yX10_image, Cond.instanceMethod yX10_image, Cond.selects RX10 yX10_image yX10_image, Cond.code yX10_image cX10_image 2 (some .boolean), Cond.methodLink RX10 309 yX10_copy, Cond.instanceMethod yX10_copy]
def wsL_law_r41 : List Cond := [Cond.selects RX10 yX10_copy yX10_copy, Cond.code yX10_copy cX10_copy 3 none, Cond.methodLink RX10 142 yX10_move, Cond.static yX10_move, Cond.code yX10_move cX10_move 5 none, Cond.methodLink RL 116 yX9_again, Cond.instanceMethod yX9_again, Cond.selects RX9 yX9_again yX9_again, Cond.code yX9_again cX9_again 2 (some .boolean), Cond.methodLink RL 119 yX10_again, Cond.instanceMethod yX10_again, Cond.selects RX10 yX10_again yX10_again, Cond.code yX10_again cX10_again 2 (some .boolean)]
def wsL_law : List Cond := (wsL_law_r1 ++ (wsL_law_r2 ++ (wsL_law_r3 ++ (wsL_law_r4 ++ (wsL_law_r5 ++ (wsL_law_r6 ++ (wsL_law_r7 ++ (wsL_law_r8 ++ (wsL_law_r9 ++ (wsL_law_r10 ++ (wsL_law_r11 ++ (wsL_law_r12 ++ (wsL_law_r13 ++ (wsL_law_r14 ++ (wsL_law_r15 ++ (wsL_law_r16 ++ (wsL_law_r17 ++ (wsL_law_r18 ++ (wsL_law_r19 ++ (wsL_law_r20 ++ (wsL_law_r21 ++ (wsL_law_r22 ++ (wsL_law_r23 ++ (wsL_law_r24 ++ (wsL_law_r25 ++ (wsL_law_r26 ++ (wsL_law_r27 ++ (wsL_law_r28 ++ (wsL_law_r29 ++ (wsL_law_r30 ++ (wsL_law_r31 ++ (wsL_law_r32 ++ (wsL_law_r33 ++ (wsL_law_r34 ++ (wsL_law_r35 ++ (wsL_law_r36 ++ (wsL_law_r37 ++ (wsL_law_r38 ++ (wsL_law_r39 ++ (wsL_law_r40 ++ wsL_law_r41)))))))))))))))))))))))))))))))))))))))) ++ wsX90 ++ wsX100 ++ wsX00 ++ wsX60 ++ wsX30 ++ wsX40 ++ wsX50 ++ wsX70 ++ wsX10 ++ wsX20 ++ wsX80 ++ ([] : List Cond)
abbrev vwCl : List vw_C := [(RX0, TX0, 10), (RX1, TX1, 8), (RX2, TX2, 8), (RX3, TX3, 6), (RX4, TX4, 3), (RX5, TX5, 4), (RX6, TX6, 2), (RX7, TX7, 7), (RX8, TX8, 4), (RX9, TX9, 4), (RX10, TX10, 53)]
end
section
/-! numbers: what a branch says, as integers -/
theorem q_lt {x y : Int32} {a b : Int} (h : x < y) (hx : x.toInt = a) (hy : y.toInt = b) : a < b := by
  rw [← hx, ← hy]; exact Int32.lt_iff_toInt_lt.mp h
theorem q_nlt {x y : Int32} {a b : Int} (h : ¬ x < y) (hx : x.toInt = a) (hy : y.toInt = b) : b ≤ a := by
  rw [← hx, ← hy]; exact Int.not_lt.mp (fun q => h (Int32.lt_iff_toInt_lt.mpr q))
theorem q_le {x y : Int32} {a b : Int} (h : x ≤ y) (hx : x.toInt = a) (hy : y.toInt = b) : a ≤ b := by
  rw [← hx, ← hy]; exact Int32.le_iff_toInt_le.mp h
theorem q_nle {x y : Int32} {a b : Int} (h : ¬ x ≤ y) (hx : x.toInt = a) (hy : y.toInt = b) : b < a := by
  rw [← hx, ← hy]; exact Int.not_le.mp (fun q => h (Int32.le_iff_toInt_le.mpr q))
theorem q_eq {x y : Int32} {a b : Int} (h : x = y) (hx : x.toInt = a) (hy : y.toInt = b) : a = b := by
  rw [← hx, ← hy, h]
theorem q_ne {x y : Int32} {a b : Int} (h : ¬ x = y) (hx : x.toInt = a) (hy : y.toInt = b) : a ≠ b := by
  rw [← hx, ← hy]; exact fun q => h (Int32.toInt_inj.mp q)
theorem q_in {i : Int32} {n : Nat} {a : Int} (ha : i.toInt = a) (h0 : 0 ≤ a) (h1 : a < n) : vp_in i n := vp_in_iff.mpr ⟨by rw [ha]; exact h0, by rw [ha]; exact h1⟩
theorem q_bmod {z : Int} (h1 : -2147483648 ≤ z) (h2 : z < 2147483648) : z.bmod (2 ^ 32) = z := by
  rw [Int.bmod_def]; simp only [Nat.reducePow]; split <;> omega
theorem q_add {x a b : Int32} {p q : Int} (h : x = a + b) (ha : a.toInt = p) (hb : b.toInt = q) (h1 : -2147483648 ≤ p + q) (h2 : p + q < 2147483648) : x.toInt = p + q := by
  rw [h, Int32.toInt_add, ha, hb]; exact q_bmod h1 h2
theorem q_sub {x a b : Int32} {p q : Int} (h : x = a - b) (ha : a.toInt = p) (hb : b.toInt = q) (h1 : -2147483648 ≤ p - q) (h2 : p - q < 2147483648) : x.toInt = p - q := by
  rw [h, Int32.toInt_sub, ha, hb]; exact q_bmod h1 h2
theorem q_mul {x a b : Int32} {p q : Int} (h : x = a * b) (ha : a.toInt = p) (hb : b.toInt = q) (h1 : -2147483648 ≤ p * q) (h2 : p * q < 2147483648) : x.toInt = p * q := by
  rw [h, Int32.toInt_mul, ha, hb]; exact q_bmod h1 h2
theorem q_of {x : Int32} {a b : Int32} (h : x = a) (h2 : a = b) : x = b := h.trans h2
/-! the array classes, the nest's links, a method's start and end -/
abbrev tyL (cy : Nat → ClassId) : List (ClassId × FieldType) := [(cy 0, .int), (cy 1, .byte), (cy 2, .boolean), (cy 3, .object "SleepingCars$Book")]
def NW (U : State) : Prop := va_Nw (.methodLinkNest RX9 9 yX0_init RX9) U ∧ va_Nw (.methodLinkNest RX0 20 yX5_init RX9) U ∧ va_Nw (.methodLinkNest RX0 27 yX7_init RX9) U ∧ va_Nw (.methodLinkNest RX0 34 yX1_init RX9) U ∧ va_Nw (.methodLinkNest RX0 41 yX2_init RX9) U ∧ va_Nw (.methodLinkNest RX9 22 yX6_init RX9) U ∧ va_Nw (.methodLinkNest RX9 29 yX3_init RX9) U ∧ va_Nw (.methodLinkNest RX3 20 yX2_init RX9) U ∧ va_Nw (.methodLinkNest RX3 27 yX8_init RX9) U ∧ va_Nw (.methodLinkNest RX0 93 yX9_legsBetween RX9) U ∧ va_Nw (.methodLinkNest RX7 38 yX9_legsBetween RX9) U
theorem NW.warm {s U : State} (hW : s.WarmedH U.vm) (h : NW s) : NW U := ⟨va_Nw.warmM hW h.1, va_Nw.warmM hW h.2.1, va_Nw.warmM hW h.2.2.1, va_Nw.warmM hW h.2.2.2.1, va_Nw.warmM hW h.2.2.2.2.1, va_Nw.warmM hW h.2.2.2.2.2.1, va_Nw.warmM hW h.2.2.2.2.2.2.1, va_Nw.warmM hW h.2.2.2.2.2.2.2.1, va_Nw.warmM hW h.2.2.2.2.2.2.2.2.1, va_Nw.warmM hW h.2.2.2.2.2.2.2.2.2.1, va_Nw.warmM hW h.2.2.2.2.2.2.2.2.2.2⟩
theorem NW.same {u U : State} (e : u.vm = U.vm) (h : NW u) : NW U := ⟨va_Nw.same rfl e h.1, va_Nw.same rfl e h.2.1, va_Nw.same rfl e h.2.2.1, va_Nw.same rfl e h.2.2.2.1, va_Nw.same rfl e h.2.2.2.2.1, va_Nw.same rfl e h.2.2.2.2.2.1, va_Nw.same rfl e h.2.2.2.2.2.2.1, va_Nw.same rfl e h.2.2.2.2.2.2.2.1, va_Nw.same rfl e h.2.2.2.2.2.2.2.2.1, va_Nw.same rfl e h.2.2.2.2.2.2.2.2.2.1, va_Nw.same rfl e h.2.2.2.2.2.2.2.2.2.2⟩
def CP (D : va_G) (cy : Nat → ClassId) (av : List Value) (wd : va_W) (sz : Nat) : Array Value → State → Prop := va_Pc av (fun U => U.heap.size = sz ∧ va_P D vwCl wd U.heap ∧ va_K D vwCl (tyL cy) U ∧ va_D (fun _ => True) wd ∧ NW U)
theorem CP.blind {D : va_G} {cy : Nat → ClassId} {av : List Value} {wd : va_W} {sz : Nat} : FrameBlind (CP D cy av wd sz) := fun a U g mk q => by
  obtain ⟨q0, q1, qP, qK, qD, qN⟩ := q
  exact ⟨q0, q1, qP, va_K.moved (u := U) (U := U.calling g mk a) (Vm.Alike.refl U.vm) qK, qD, NW.same (u := U) (U := U.calling g mk a) rfl qN⟩
def WP (D : va_G) (cy : Nat → ClassId) (A : Nat → Prop) (wd : va_W) (t : State) : Prop := va_P D vwCl wd t.heap ∧ va_K D vwCl (tyL cy) t ∧ va_D A wd
def QI {S : Type} (D : va_G) (cy : Nat → ClassId) (post : Int32 → S → Prop) (wo : S → va_W) (A : Nat → Prop) : Array Value → State → Outcome → State → Prop := va_Qi post (fun u t => WP D cy A (wo u) t) A
def QL {S : Type} (D : va_G) (cy : Nat → ClassId) (post : Int64 → S → Prop) (wo : S → va_W) (A : Nat → Prop) : Array Value → State → Outcome → State → Prop := va_Ql post (fun u t => WP D cy A (wo u) t) A
def QV {S : Type} (D : va_G) (cy : Nat → ClassId) (post : S → Prop) (wo : S → va_W) (A : Nat → Prop) : Array Value → State → Outcome → State → Prop := va_Qv post (fun u t => WP D cy A (wo u) t) A
theorem Met.go {l : Launch} {D : va_G} {cy : Nat → ClassId} {y : MethodName} {ws ws' : List Cond} {rm : Room} {av : List Value} {wd : va_W} {sz : Nat} {Qc : (Nat → Prop) → Array Value → State → Outcome → State → Prop} {mc ms : Nat} {cc : ByteArray} {maxL : Nat} {ret : Option FieldType} (hy : plainName y.cls = true) (hw : ws = Cond.code y cc maxL ret :: ws') (hn : (lg_sl av).length ≤ maxL)
    (body : ∀ (p : Program) (e : Env) (s : State) (m : MethodId) (below : List Frame) (meth : Method) (c : Code), p.tables.exec = Jvm.exec → c.code = cc → meth.sig.returnType = ret → (∀ w ∈ ws, w.before av.toArray s = true) → s.vm.findClass y.cls = some m.cls → meth.locks = false → meth.name = y.name → c.maxLocals = maxL → va_K D vwCl (tyL cy) s → NW s → ∀ A : Nat → Prop, (∀ q : Nat, s.heap.size ≤ q → A q) → va_D A wd → va_P D vwCl wd s.heap → va_S A s.heap s.heap [] → ∀ ls : Array Slot, lv_has ls maxL (lv_args 0 av) → s.heap.size = sz → W p l e (headSpec ws rm).room s m av.toArray below meth c s.heap [] 0 0 (MQ below (Qc A) av.toArray s mc ms A) (F0 m 0 ls [])) : Met l y ws rm (CP D cy av wd sz) (Qc (va_A wd sz)) mc ms (va_A wd sz) := by
  refine Met.ofW (cc := cc) (maxL := maxL) (ret := ret) hy hw ?_
  intro p e s m args below meth c s₁ B hml hv
  obtain ⟨rfl, hsz, hP, hK, hD0, hN⟩ := hv
  have hts := atoms_spec (ws := ws) B.pre
  have hl := lv_entry av (n := maxL) hn
  rw [lg_entry_eq]
  subst hsz
  exact body p e s m below meth c B.exec B.bytes B.returns hts (findClass_of_methodNamed B.named) B.notSynchronized (name_of_methodNamed B.named B.method).1 hml hK hN _ (fun q h => Or.inr h) (hD0.self) hP va_S.rf _ hl rfl
section RET
variable {p : Program} {l : Launch} {e : Env} {R : Room} {s : State} {m : MethodId} {args : Array Value} {below : List Frame} {meth : Method} {c : Code} {H : Heap} {locs : List Loc} {cells slots : Nat} {cc : ByteArray} {D : va_G} {cy : Nat → ClassId} {A : Nat → Prop} {pc : Nat} {ls : Array Slot}
theorem r_i {S : Type} {post : Int32 → S → Prop} {wo : S → va_W} {v : Int32} (hx : p.tables.exec = Jvm.exec) (hb : c.code = cc) (hr : meth.sig.returnType = some .int) (hlocks : meth.locks = false) (hK : va_K D vwCl (tyL cy) s) (hS : va_S A s.heap H locs) (hd : decode cc pc = .ok (.ireturn, 1)) (u : S) (hP : va_P D vwCl (wo u) H) (hD : va_D A (wo u)) (hp : post v u) : W p l e R s m args below meth c H locs cells slots (MQ below (QI D cy post wo A) args s cells slots A) (F0 m pc ls [.int v]) :=
  W.iret hx hb hr (fun t ht hW => ⟨⟨v, u, rfl, hp, by rw [ht]; exact hP, va_K.moved hW.alike hK, hD⟩, hS.F ht⟩) hS.2.2 hd hlocks
theorem nar01 {v : Int32} (h : v = 0 ∨ v = 1) : narrow .boolean (.int v) = .int v := by
  rcases h with rfl | rfl <;> decide +kernel
theorem r_z {S : Type} {post : Int32 → S → Prop} {wo : S → va_W} {v : Int32} (hx : p.tables.exec = Jvm.exec) (hb : c.code = cc) (hr : meth.sig.returnType = some .boolean) (hlocks : meth.locks = false) (hK : va_K D vwCl (tyL cy) s) (hS : va_S A s.heap H locs) (hd : decode cc pc = .ok (.ireturn, 1)) (hv : v = 0 ∨ v = 1) (u : S) (hP : va_P D vwCl (wo u) H) (hD : va_D A (wo u)) (hp : post v u) : W p l e R s m args below meth c H locs cells slots (MQ below (QI D cy post wo A) args s cells slots A) (F0 m pc ls [.int v]) :=
  W.zret hx hb hr (nar01 hv) (fun t ht hW => ⟨⟨v, u, rfl, hp, by rw [ht]; exact hP, va_K.moved hW.alike hK, hD⟩, hS.F ht⟩) hS.2.2 hd hlocks
theorem r_l {S : Type} {post : Int64 → S → Prop} {wo : S → va_W} {v : Int64} (hx : p.tables.exec = Jvm.exec) (hb : c.code = cc) (hr : meth.sig.returnType = some .long) (hlocks : meth.locks = false) (hK : va_K D vwCl (tyL cy) s) (hS : va_S A s.heap H locs) (hd : decode cc pc = .ok (.lreturn, 1)) (u : S) (hP : va_P D vwCl (wo u) H) (hD : va_D A (wo u)) (hp : post v u) : W p l e R s m args below meth c H locs cells slots (MQ below (QL D cy post wo A) args s cells slots A) (F0 m pc ls [.long v]) :=
  W.lret hx hb hr (fun t ht hW => ⟨⟨v, u, rfl, hp, by rw [ht]; exact hP, va_K.moved hW.alike hK, hD⟩, hS.F ht⟩) hS.2.2 hd hlocks
theorem r_v {S : Type} {post : S → Prop} {wo : S → va_W} (hx : p.tables.exec = Jvm.exec) (hb : c.code = cc) (hr : meth.sig.returnType = none) (hlocks : meth.locks = false) (hK : va_K D vwCl (tyL cy) s) (hS : va_S A s.heap H locs) (hd : decode cc pc = .ok (.return_, 1)) (u : S) (hP : va_P D vwCl (wo u) H) (hD : va_D A (wo u)) (hp : post u) : W p l e R s m args below meth c H locs cells slots (MQ below (QV D cy post wo A) args s cells slots A) (F0 m pc ls []) :=
  W.vret hx hb hr (fun t ht hW => ⟨⟨u, rfl, hp, by rw [ht]; exact hP, va_K.moved hW.alike hK, hD⟩, hS.F ht⟩) hS.2.2 hd hlocks
end RET
theorem sub_of {D : va_G} {cl : List vw_C} {ws wc : va_W} {H : Heap} (h : va_P D cl ws H) (is : List Nat) (hC : is.map (fun i => ws[i]?) = wc.map some) : va_P D cl wc H := by
  intro k q hq
  have h1 : (is.map (fun i => ws[i]?))[k]? = some (some q) := by rw [hC, List.getElem?_map, hq]; rfl
  rw [List.getElem?_map] at h1
  cases hi : is[k]? with
  | none => rw [hi] at h1; cases h1
  | some i => rw [hi] at h1; exact h i q (Option.some.inj h1)
section CAL
variable {p : Program} {l : Launch} {e : Env} {R : Room} {s : State} {m : MethodId} {args : Array Value} {below : List Frame} {meth : Method} {c : Code} {H : Heap} {locs : List Loc} {cells slots : Nat} {Q : State → Prop} {D : va_G} {cy : Nat → ClassId} {A : Nat → Prop} {pc : Nat} {ls : Array Slot} {rest st0 : List Value} {H0 : Heap} {ws wc wr : va_W} {mc ms : Nat} {a : Array Value}
theorem cp_s {As : List Value} (hK : va_K D vwCl (tyL cy) s) (hN : NW s) (hP : va_P D vwCl ws H) (hD : va_D A ws) (is : List Nat) (hC : is.map (fun i => ws[i]?) = wc.map some) (hn : va_nd is = true) : PreS s H (CP D cy As wc H.size) As :=
  ⟨CP.blind, fun U hU hW => ⟨rfl, by rw [hU], by rw [hU]; exact sub_of hP is hC, va_K.moved hW.alike hK, (hD.sub is hn hC).weaken (fun _ _ _ _ => trivial), hN.warm hW⟩⟩
theorem cp_v {As : List Value} {C : String} {b ci : Nat} {fs : List Value} {q : vw_C} (hK : va_K D vwCl (tyL cy) s) (hN : NW s) (hP : va_P D vwCl ws H) (hD : va_D A ws) (is : List Nat) (hC : is.map (fun i => ws[i]?) = wc.map some) (hn : va_nd is = true) (h0 : wc[0]? = some (b, .inr (ci, fs))) (hc : vwCl[ci]? = some q) (hq : q.1 = C) : PreV s H C b (CP D cy (.ref b :: As) wc H.size) As :=
  ⟨CP.blind, by subst hq; exact va_recv hK (sub_of hP is hC) hc h0, fun U hU hW => ⟨rfl, by rw [hU], by rw [hU]; exact sub_of hP is hC, va_K.moved hW.alike hK, (hD.sub is hn hC).weaken (fun _ _ _ _ => trivial), hN.warm hW⟩⟩
theorem k_i {S : Type} {post : Int32 → S → Prop} {wo : S → va_W} (hr : va_Run p l e R s m args below meth c H locs cells slots mc ms (F0 m pc ls st0) rest (QI D cy post wo (va_A wc H.size) a) (va_A wc H.size)) (hP : va_P D vwCl ws H) (hD : va_D A ws) (hS : va_S A H0 H locs) (hA : ∀ q : Nat, H0.size ≤ q → A q) (isC isR : List Nat) (hC : isC.map (fun i => ws[i]?) = wc.map some) (hR : isR.map (fun i => ws[i]?) = wr.map some) (hn : va_nd isR = true) (hdis : ∀ i ∈ isR, i ∉ isC)
    (kk : ∀ (r : Int32) (u : S) (H1 : Heap) (locs1 : List Loc), post r u → va_P D vwCl (wr ++ wo u) H1 → va_D A (wr ++ wo u) → va_S A H0 H1 locs1 → W p l e R s m args below meth c H1 locs1 (cells + mc) (slots + ms) Q (F0 m (pc + 3) ls (.int r :: rest))) : W p l e R s m args below meth c H locs cells slots Q (F0 m pc ls st0) := by
  have hF := va_free hD hS hA isC hC
  refine va_calli hr hS (fun q _ h => hF q h) hF (fun r u t H1 locs1 ht hvm hw hB hz hk hS1 => ?_)
  obtain ⟨hP1, -, hD1⟩ := hB
  rw [ht] at hP1
  obtain ⟨hP2, hD2⟩ := va_join hP hD isC isR hC hR hn hdis hk hF hP1 hD1
  exact kk r u H1 locs1 hw hP2 hD2 hS1
theorem k_l {S : Type} {post : Int64 → S → Prop} {wo : S → va_W} (hr : va_Run p l e R s m args below meth c H locs cells slots mc ms (F0 m pc ls st0) rest (QL D cy post wo (va_A wc H.size) a) (va_A wc H.size)) (hP : va_P D vwCl ws H) (hD : va_D A ws) (hS : va_S A H0 H locs) (hA : ∀ q : Nat, H0.size ≤ q → A q) (isC isR : List Nat) (hC : isC.map (fun i => ws[i]?) = wc.map some) (hR : isR.map (fun i => ws[i]?) = wr.map some) (hn : va_nd isR = true) (hdis : ∀ i ∈ isR, i ∉ isC)
    (kk : ∀ (r : Int64) (u : S) (H1 : Heap) (locs1 : List Loc), post r u → va_P D vwCl (wr ++ wo u) H1 → va_D A (wr ++ wo u) → va_S A H0 H1 locs1 → W p l e R s m args below meth c H1 locs1 (cells + mc) (slots + ms) Q (F0 m (pc + 3) ls (.long r :: rest))) : W p l e R s m args below meth c H locs cells slots Q (F0 m pc ls st0) := by
  have hF := va_free hD hS hA isC hC
  refine va_calll hr hS (fun q _ h => hF q h) hF (fun r u t H1 locs1 ht hvm hw hB hz hk hS1 => ?_)
  obtain ⟨hP1, -, hD1⟩ := hB
  rw [ht] at hP1
  obtain ⟨hP2, hD2⟩ := va_join hP hD isC isR hC hR hn hdis hk hF hP1 hD1
  exact kk r u H1 locs1 hw hP2 hD2 hS1
theorem k_v {S : Type} {post : S → Prop} {wo : S → va_W} (hr : va_Run p l e R s m args below meth c H locs cells slots mc ms (F0 m pc ls st0) rest (QV D cy post wo (va_A wc H.size) a) (va_A wc H.size)) (hP : va_P D vwCl ws H) (hD : va_D A ws) (hS : va_S A H0 H locs) (hA : ∀ q : Nat, H0.size ≤ q → A q) (isC isR : List Nat) (hC : isC.map (fun i => ws[i]?) = wc.map some) (hR : isR.map (fun i => ws[i]?) = wr.map some) (hn : va_nd isR = true) (hdis : ∀ i ∈ isR, i ∉ isC)
    (kk : ∀ (u : S) (H1 : Heap) (locs1 : List Loc), post u → va_P D vwCl (wr ++ wo u) H1 → va_D A (wr ++ wo u) → va_S A H0 H1 locs1 → W p l e R s m args below meth c H1 locs1 (cells + mc) (slots + ms) Q (F0 m (pc + 3) ls rest)) : W p l e R s m args below meth c H locs cells slots Q (F0 m pc ls st0) := by
  have hF := va_free hD hS hA isC hC
  refine va_callv hr hS (fun q _ h => hF q h) hF (fun u t H1 locs1 ht hvm hw hB hz hk hS1 => ?_)
  obtain ⟨hP1, -, hD1⟩ := hB
  rw [ht] at hP1
  obtain ⟨hP2, hD2⟩ := va_join hP hD isC isR hC hR hn hdis hk hF hP1 hD1
  exact kk u H1 locs1 hw hP2 hD2 hS1
end CAL
end
section
set_option maxRecDepth 20000 in
theorem ggX0_init_X4_init : GoodIn wsX0_init wsX4_init := goodIn_r _ [31, 32, 2, 3, 24, 33, 34, 35, 36, 37, 6, 38, 39, 40, 41, 42, 43, 79, 80, 81] (by decide +kernel) (by decide +kernel)
set_option maxRecDepth 20000 in
theorem gX0_init_X4_init : GoodIn wsX0_init (wsX4_init) := ggX0_init_X4_init
set_option maxRecDepth 20000 in
theorem ggX0_init_X5_init : GoodIn wsX0_init wsX5_init := goodIn_r _ [45, 46, 2, 3, 24, 47, 48, 49, 92, 93, 94, 95] (by decide +kernel) (by decide +kernel)
set_option maxRecDepth 20000 in
theorem gX0_init_X5_init_n20 : GoodIn wsX0_init (wsX5_init) := ggX0_init_X5_init
set_option maxRecDepth 20000 in
theorem ggX0_init_X7_init : GoodIn wsX0_init wsX7_init := goodIn_r _ [51, 52, 2, 3, 24, 53, 54, 55, 56, 57, 58, 96, 97, 98, 99, 100, 101, 102] (by decide +kernel) (by decide +kernel)
set_option maxRecDepth 20000 in
theorem gX0_init_X7_init_n27 : GoodIn wsX0_init (wsX7_init) := ggX0_init_X7_init
set_option maxRecDepth 20000 in
theorem ggX0_init_X1_init : GoodIn wsX0_init wsX1_init := goodIn_r _ [60, 61, 2, 3, 24, 62, 63, 64, 65, 66, 67, 68, 103, 104, 105, 106, 107, 108, 109, 110] (by decide +kernel) (by decide +kernel)
set_option maxRecDepth 20000 in
theorem gX0_init_X1_init_n34 : GoodIn wsX0_init (wsX1_init) := ggX0_init_X1_init
set_option maxRecDepth 20000 in
theorem ggX0_init_X2_init : GoodIn wsX0_init wsX2_init := goodIn_r _ [70, 71, 2, 3, 24, 72, 73, 74, 75, 76, 77, 78, 111, 112, 113, 114, 115, 116, 117, 118] (by decide +kernel) (by decide +kernel)
set_option maxRecDepth 20000 in
theorem gX0_init_X2_init_n41 : GoodIn wsX0_init (wsX2_init) := ggX0_init_X2_init
theorem dX0_init_0 : decode cX0_init 0 = .ok (.aload_n 0, 1) := by decide +kernel
theorem dX0_init_1 : decode cX0_init 1 = .ok (.invokespecial 3, 3) := by decide +kernel
theorem dX0_init_4 : decode cX0_init 4 = .ok (.aload_n 0, 1) := by decide +kernel
theorem dX0_init_5 : decode cX0_init 5 = .ok (.new 9, 3) := by decide +kernel
theorem dX0_init_8 : decode cX0_init 8 = .ok (.dup, 1) := by decide +kernel
theorem dX0_init_9 : decode cX0_init 9 = .ok (.invokespecial 11, 3) := by decide +kernel
theorem dX0_init_12 : decode cX0_init 12 = .ok (.putfield 12, 3) := by decide +kernel
theorem dX0_init_15 : decode cX0_init 15 = .ok (.aload_n 0, 1) := by decide +kernel
theorem dX0_init_16 : decode cX0_init 16 = .ok (.new 18, 3) := by decide +kernel
theorem dX0_init_19 : decode cX0_init 19 = .ok (.dup, 1) := by decide +kernel
theorem dX0_init_20 : decode cX0_init 20 = .ok (.invokespecial 20, 3) := by decide +kernel
theorem dX0_init_23 : decode cX0_init 23 = .ok (.putfield 21, 3) := by decide +kernel
theorem dX0_init_26 : decode cX0_init 26 = .ok (.aload_n 0, 1) := by decide +kernel
theorem dX0_init_27 : decode cX0_init 27 = .ok (.new 25, 3) := by decide +kernel
theorem dX0_init_30 : decode cX0_init 30 = .ok (.dup, 1) := by decide +kernel
theorem dX0_init_31 : decode cX0_init 31 = .ok (.invokespecial 27, 3) := by decide +kernel
theorem dX0_init_34 : decode cX0_init 34 = .ok (.putfield 28, 3) := by decide +kernel
theorem dX0_init_37 : decode cX0_init 37 = .ok (.aload_n 0, 1) := by decide +kernel
theorem dX0_init_38 : decode cX0_init 38 = .ok (.new 32, 3) := by decide +kernel
theorem dX0_init_41 : decode cX0_init 41 = .ok (.dup, 1) := by decide +kernel
theorem dX0_init_42 : decode cX0_init 42 = .ok (.invokespecial 34, 3) := by decide +kernel
theorem dX0_init_45 : decode cX0_init 45 = .ok (.putfield 35, 3) := by decide +kernel
theorem dX0_init_48 : decode cX0_init 48 = .ok (.aload_n 0, 1) := by decide +kernel
theorem dX0_init_49 : decode cX0_init 49 = .ok (.new 39, 3) := by decide +kernel
theorem dX0_init_52 : decode cX0_init 52 = .ok (.dup, 1) := by decide +kernel
theorem dX0_init_53 : decode cX0_init 53 = .ok (.invokespecial 41, 3) := by decide +kernel
theorem dX0_init_56 : decode cX0_init 56 = .ok (.putfield 42, 3) := by decide +kernel
theorem dX0_init_59 : decode cX0_init 59 = .ok (.aload_n 0, 1) := by decide +kernel
theorem dX0_init_60 : decode cX0_init 60 = .ok (.bipush 6, 2) := by decide +kernel
theorem dX0_init_62 : decode cX0_init 62 = .ok (.newarray .int, 2) := by decide +kernel
theorem dX0_init_64 : decode cX0_init 64 = .ok (.putfield 46, 3) := by decide +kernel
theorem dX0_init_67 : decode cX0_init 67 = .ok (.aload_n 0, 1) := by decide +kernel
theorem dX0_init_68 : decode cX0_init 68 = .ok (.bipush 10, 2) := by decide +kernel
theorem dX0_init_70 : decode cX0_init 70 = .ok (.newarray .int, 2) := by decide +kernel
theorem dX0_init_72 : decode cX0_init 72 = .ok (.putfield 50, 3) := by decide +kernel
theorem dX0_init_75 : decode cX0_init 75 = .ok (.aload_n 0, 1) := by decide +kernel
theorem dX0_init_76 : decode cX0_init 76 = .ok (.bipush 10, 2) := by decide +kernel
theorem dX0_init_78 : decode cX0_init 78 = .ok (.newarray .int, 2) := by decide +kernel
theorem dX0_init_80 : decode cX0_init 80 = .ok (.putfield 53, 3) := by decide +kernel
theorem dX0_init_83 : decode cX0_init 83 = .ok (.aload_n 0, 1) := by decide +kernel
theorem dX0_init_84 : decode cX0_init 84 = .ok (.iconst 5, 1) := by decide +kernel
theorem dX0_init_85 : decode cX0_init 85 = .ok (.newarray .int, 2) := by decide +kernel
theorem dX0_init_87 : decode cX0_init 87 = .ok (.putfield 56, 3) := by decide +kernel
theorem dX0_init_90 : decode cX0_init 90 = .ok (.return_, 1) := by decide +kernel
set_option maxRecDepth 20000 in
theorem ggX0_isRunStretch_X5_isTold : GoodIn wsX0_isRunStretch wsX5_isTold := goodIn_r _ [7, 8, 25, 26, 27, 28] (by decide +kernel) (by decide +kernel)
set_option maxRecDepth 20000 in
theorem gX0_isRunStretch_X5_isTold : GoodIn wsX0_isRunStretch (wsV RX0 59 RX5 yX5_isTold wsX5_isTold) := goodIn_app (goodIn_of _ (by decide +kernel)) ggX0_isRunStretch_X5_isTold
set_option maxRecDepth 20000 in
theorem ggX0_isRunStretch_X4_isStretch : GoodIn wsX0_isRunStretch wsX4_isStretch := goodIn_r _ [13, 14, 29, 30, 31] (by decide +kernel) (by decide +kernel)
set_option maxRecDepth 20000 in
theorem gX0_isRunStretch_X4_isStretch : GoodIn wsX0_isRunStretch (wsV RX0 63 RX4 yX4_isStretch wsX4_isStretch) := goodIn_app (goodIn_of _ (by decide +kernel)) ggX0_isRunStretch_X4_isStretch
theorem dX0_isRunStretch_0 : decode cX0_isRunStretch 0 = .ok (.aload_n 0, 1) := by decide +kernel
theorem dX0_isRunStretch_1 : decode cX0_isRunStretch 1 = .ok (.getfield 21, 3) := by decide +kernel
theorem dX0_isRunStretch_4 : decode cX0_isRunStretch 4 = .ok (.iload_n 1, 1) := by decide +kernel
theorem dX0_isRunStretch_5 : decode cX0_isRunStretch 5 = .ok (.invokevirtual 59, 3) := by decide +kernel
theorem dX0_isRunStretch_8 : decode cX0_isRunStretch 8 = .ok (.ifCond .eq 19, 3) := by decide +kernel
theorem dX0_isRunStretch_11 : decode cX0_isRunStretch 11 = .ok (.aload_n 0, 1) := by decide +kernel
theorem dX0_isRunStretch_12 : decode cX0_isRunStretch 12 = .ok (.getfield 12, 3) := by decide +kernel
theorem dX0_isRunStretch_15 : decode cX0_isRunStretch 15 = .ok (.iload_n 2, 1) := by decide +kernel
theorem dX0_isRunStretch_16 : decode cX0_isRunStretch 16 = .ok (.iload_n 3, 1) := by decide +kernel
theorem dX0_isRunStretch_17 : decode cX0_isRunStretch 17 = .ok (.invokevirtual 63, 3) := by decide +kernel
theorem dX0_isRunStretch_20 : decode cX0_isRunStretch 20 = .ok (.ifCond .eq 7, 3) := by decide +kernel
theorem dX0_isRunStretch_23 : decode cX0_isRunStretch 23 = .ok (.iconst 1, 1) := by decide +kernel
theorem dX0_isRunStretch_24 : decode cX0_isRunStretch 24 = .ok (.goto 4, 3) := by decide +kernel
theorem dX0_isRunStretch_27 : decode cX0_isRunStretch 27 = .ok (.iconst 0, 1) := by decide +kernel
theorem dX0_isRunStretch_28 : decode cX0_isRunStretch 28 = .ok (.ireturn, 1) := by decide +kernel
set_option maxRecDepth 20000 in
theorem ggX0_hasLeft_X4_hoursTo : GoodIn wsX0_hasLeft wsX4_hoursTo := goodIn_r _ [7, 8, 19, 20, 21] (by decide +kernel) (by decide +kernel)
set_option maxRecDepth 20000 in
theorem gX0_hasLeft_X4_hoursTo : GoodIn wsX0_hasLeft (wsV RX0 71 RX4 yX4_hoursTo wsX4_hoursTo) := goodIn_app (goodIn_of _ (by decide +kernel)) ggX0_hasLeft_X4_hoursTo
theorem dX0_hasLeft_0 : decode cX0_hasLeft 0 = .ok (.aload_n 0, 1) := by decide +kernel
theorem dX0_hasLeft_1 : decode cX0_hasLeft 1 = .ok (.getfield 67, 3) := by decide +kernel
theorem dX0_hasLeft_4 : decode cX0_hasLeft 4 = .ok (.bipush 24, 2) := by decide +kernel
theorem dX0_hasLeft_6 : decode cX0_hasLeft 6 = .ok (.iload_n 1, 1) := by decide +kernel
theorem dX0_hasLeft_7 : decode cX0_hasLeft 7 = .ok (.imul, 1) := by decide +kernel
theorem dX0_hasLeft_8 : decode cX0_hasLeft 8 = .ok (.aload_n 0, 1) := by decide +kernel
theorem dX0_hasLeft_9 : decode cX0_hasLeft 9 = .ok (.getfield 12, 3) := by decide +kernel
theorem dX0_hasLeft_12 : decode cX0_hasLeft 12 = .ok (.iload_n 2, 1) := by decide +kernel
theorem dX0_hasLeft_13 : decode cX0_hasLeft 13 = .ok (.invokevirtual 71, 3) := by decide +kernel
theorem dX0_hasLeft_16 : decode cX0_hasLeft 16 = .ok (.iadd, 1) := by decide +kernel
theorem dX0_hasLeft_17 : decode cX0_hasLeft 17 = .ok (.if_icmp .lt 7, 3) := by decide +kernel
theorem dX0_hasLeft_20 : decode cX0_hasLeft 20 = .ok (.iconst 1, 1) := by decide +kernel
theorem dX0_hasLeft_21 : decode cX0_hasLeft 21 = .ok (.goto 4, 3) := by decide +kernel
theorem dX0_hasLeft_24 : decode cX0_hasLeft 24 = .ok (.iconst 0, 1) := by decide +kernel
theorem dX0_hasLeft_25 : decode cX0_hasLeft 25 = .ok (.ireturn, 1) := by decide +kernel
theorem dX0_beginNextHour_0 : decode cX0_beginNextHour 0 = .ok (.aload_n 0, 1) := by decide +kernel
theorem dX0_beginNextHour_1 : decode cX0_beginNextHour 1 = .ok (.dup, 1) := by decide +kernel
theorem dX0_beginNextHour_2 : decode cX0_beginNextHour 2 = .ok (.getfield 67, 3) := by decide +kernel
theorem dX0_beginNextHour_5 : decode cX0_beginNextHour 5 = .ok (.iconst 1, 1) := by decide +kernel
theorem dX0_beginNextHour_6 : decode cX0_beginNextHour 6 = .ok (.iadd, 1) := by decide +kernel
theorem dX0_beginNextHour_7 : decode cX0_beginNextHour 7 = .ok (.putfield 67, 3) := by decide +kernel
theorem dX0_beginNextHour_10 : decode cX0_beginNextHour 10 = .ok (.iconst 0, 1) := by decide +kernel
theorem dX0_beginNextHour_11 : decode cX0_beginNextHour 11 = .ok (.istore_n 1, 1) := by decide +kernel
theorem dX0_beginNextHour_12 : decode cX0_beginNextHour 12 = .ok (.iload_n 1, 1) := by decide +kernel
theorem dX0_beginNextHour_13 : decode cX0_beginNextHour 13 = .ok (.aload_n 0, 1) := by decide +kernel
theorem dX0_beginNextHour_14 : decode cX0_beginNextHour 14 = .ok (.getfield 35, 3) := by decide +kernel
theorem dX0_beginNextHour_17 : decode cX0_beginNextHour 17 = .ok (.getfield 134, 3) := by decide +kernel
theorem dX0_beginNextHour_20 : decode cX0_beginNextHour 20 = .ok (.if_icmp .ge 74, 3) := by decide +kernel
theorem dX0_beginNextHour_23 : decode cX0_beginNextHour 23 = .ok (.aload_n 0, 1) := by decide +kernel
theorem dX0_beginNextHour_24 : decode cX0_beginNextHour 24 = .ok (.getfield 35, 3) := by decide +kernel
theorem dX0_beginNextHour_27 : decode cX0_beginNextHour 27 = .ok (.getfield 137, 3) := by decide +kernel
theorem dX0_beginNextHour_30 : decode cX0_beginNextHour 30 = .ok (.iload_n 1, 1) := by decide +kernel
theorem dX0_beginNextHour_31 : decode cX0_beginNextHour 31 = .ok (.iaload, 1) := by decide +kernel
theorem dX0_beginNextHour_32 : decode cX0_beginNextHour 32 = .ok (.aload_n 0, 1) := by decide +kernel
theorem dX0_beginNextHour_33 : decode cX0_beginNextHour 33 = .ok (.getfield 67, 3) := by decide +kernel
theorem dX0_beginNextHour_36 : decode cX0_beginNextHour 36 = .ok (.if_icmp .ne 52, 3) := by decide +kernel
theorem dX0_beginNextHour_39 : decode cX0_beginNextHour 39 = .ok (.aload_n 0, 1) := by decide +kernel
theorem dX0_beginNextHour_40 : decode cX0_beginNextHour 40 = .ok (.getfield 35, 3) := by decide +kernel
theorem dX0_beginNextHour_43 : decode cX0_beginNextHour 43 = .ok (.getfield 140, 3) := by decide +kernel
theorem dX0_beginNextHour_46 : decode cX0_beginNextHour 46 = .ok (.iload_n 1, 1) := by decide +kernel
theorem dX0_beginNextHour_47 : decode cX0_beginNextHour 47 = .ok (.aload_n 0, 1) := by decide +kernel
theorem dX0_beginNextHour_48 : decode cX0_beginNextHour 48 = .ok (.aload_n 0, 1) := by decide +kernel
theorem dX0_beginNextHour_49 : decode cX0_beginNextHour 49 = .ok (.getfield 35, 3) := by decide +kernel
theorem dX0_beginNextHour_52 : decode cX0_beginNextHour 52 = .ok (.getfield 143, 3) := by decide +kernel
theorem dX0_beginNextHour_55 : decode cX0_beginNextHour 55 = .ok (.iload_n 1, 1) := by decide +kernel
theorem dX0_beginNextHour_56 : decode cX0_beginNextHour 56 = .ok (.iaload, 1) := by decide +kernel
theorem dX0_beginNextHour_57 : decode cX0_beginNextHour 57 = .ok (.aload_n 0, 1) := by decide +kernel
theorem dX0_beginNextHour_58 : decode cX0_beginNextHour 58 = .ok (.getfield 35, 3) := by decide +kernel
theorem dX0_beginNextHour_61 : decode cX0_beginNextHour 61 = .ok (.getfield 146, 3) := by decide +kernel
theorem dX0_beginNextHour_64 : decode cX0_beginNextHour 64 = .ok (.iload_n 1, 1) := by decide +kernel
theorem dX0_beginNextHour_65 : decode cX0_beginNextHour 65 = .ok (.iaload, 1) := by decide +kernel
theorem dX0_beginNextHour_66 : decode cX0_beginNextHour 66 = .ok (.aload_n 0, 1) := by decide +kernel
theorem dX0_beginNextHour_67 : decode cX0_beginNextHour 67 = .ok (.getfield 35, 3) := by decide +kernel
theorem dX0_beginNextHour_70 : decode cX0_beginNextHour 70 = .ok (.getfield 147, 3) := by decide +kernel
theorem dX0_beginNextHour_73 : decode cX0_beginNextHour 73 = .ok (.iload_n 1, 1) := by decide +kernel
theorem dX0_beginNextHour_74 : decode cX0_beginNextHour 74 = .ok (.iaload, 1) := by decide +kernel
theorem dX0_beginNextHour_75 : decode cX0_beginNextHour 75 = .ok (.aload_n 0, 1) := by decide +kernel
theorem dX0_beginNextHour_76 : decode cX0_beginNextHour 76 = .ok (.getfield 35, 3) := by decide +kernel
theorem dX0_beginNextHour_79 : decode cX0_beginNextHour 79 = .ok (.getfield 148, 3) := by decide +kernel
theorem dX0_beginNextHour_82 : decode cX0_beginNextHour 82 = .ok (.iload_n 1, 1) := by decide +kernel
theorem dX0_beginNextHour_83 : decode cX0_beginNextHour 83 = .ok (.iaload, 1) := by decide +kernel
theorem dX0_beginNextHour_84 : decode cX0_beginNextHour 84 = .ok (.invokevirtual 151, 3) := by decide +kernel
theorem dX0_beginNextHour_87 : decode cX0_beginNextHour 87 = .ok (.iastore, 1) := by decide +kernel
theorem dX0_beginNextHour_88 : decode cX0_beginNextHour 88 = .ok (.iinc 1 1, 3) := by decide +kernel
theorem dX0_beginNextHour_91 : decode cX0_beginNextHour 91 = .ok (.goto (-79), 3) := by decide +kernel
theorem dX0_beginNextHour_94 : decode cX0_beginNextHour 94 = .ok (.return_, 1) := by decide +kernel
set_option maxRecDepth 20000 in
theorem ggX0_copyFrom_X4_copyFrom : GoodIn wsX0_copyFrom wsX4_copyFrom := goodIn_r _ [17, 18, 19, 20, 9, 10, 11, 21, 83, 84, 85] (by decide +kernel) (by decide +kernel)
set_option maxRecDepth 20000 in
theorem gX0_copyFrom_X4_copyFrom : GoodIn wsX0_copyFrom (wsV RX0 190 RX4 yX4_copyFrom wsX4_copyFrom) := goodIn_app (goodIn_of _ (by decide +kernel)) ggX0_copyFrom_X4_copyFrom
set_option maxRecDepth 20000 in
theorem ggX0_copyFrom_X5_copyFrom : GoodIn wsX0_copyFrom wsX5_copyFrom := goodIn_r _ [26, 27, 28, 29, 9, 10, 11, 30, 31, 86, 87, 88, 89] (by decide +kernel) (by decide +kernel)
set_option maxRecDepth 20000 in
theorem gX0_copyFrom_X5_copyFrom : GoodIn wsX0_copyFrom (wsV RX0 194 RX5 yX5_copyFrom wsX5_copyFrom) := goodIn_app (goodIn_of _ (by decide +kernel)) ggX0_copyFrom_X5_copyFrom
set_option maxRecDepth 20000 in
theorem ggX0_copyFrom_X7_copyFrom : GoodIn wsX0_copyFrom wsX7_copyFrom := goodIn_r _ [36, 37, 38, 39, 9, 10, 11, 40, 41, 42, 43, 44, 90, 91, 92, 93, 94, 95, 96] (by decide +kernel) (by decide +kernel)
set_option maxRecDepth 20000 in
theorem gX0_copyFrom_X7_copyFrom : GoodIn wsX0_copyFrom (wsV RX0 197 RX7 yX7_copyFrom wsX7_copyFrom) := goodIn_app (goodIn_of _ (by decide +kernel)) ggX0_copyFrom_X7_copyFrom
set_option maxRecDepth 20000 in
theorem ggX0_copyFrom_X1_copyFrom : GoodIn wsX0_copyFrom wsX1_copyFrom := goodIn_r _ [49, 50, 51, 52, 9, 10, 11, 53, 54, 55, 56, 57, 58, 97, 98, 99, 100, 101, 102, 103, 104] (by decide +kernel) (by decide +kernel)
set_option maxRecDepth 20000 in
theorem gX0_copyFrom_X1_copyFrom : GoodIn wsX0_copyFrom (wsV RX0 200 RX1 yX1_copyFrom wsX1_copyFrom) := goodIn_app (goodIn_of _ (by decide +kernel)) ggX0_copyFrom_X1_copyFrom
set_option maxRecDepth 20000 in
theorem ggX0_copyFrom_X2_copyFrom : GoodIn wsX0_copyFrom wsX2_copyFrom := goodIn_r _ [63, 64, 65, 66, 9, 10, 11, 67, 68, 69, 70, 71, 72, 105, 106, 107, 108, 109, 110, 111, 112] (by decide +kernel) (by decide +kernel)
set_option maxRecDepth 20000 in
theorem gX0_copyFrom_X2_copyFrom : GoodIn wsX0_copyFrom (wsV RX0 203 RX2 yX2_copyFrom wsX2_copyFrom) := goodIn_app (goodIn_of _ (by decide +kernel)) ggX0_copyFrom_X2_copyFrom
theorem dX0_copyFrom_0 : decode cX0_copyFrom 0 = .ok (.aload_n 0, 1) := by decide +kernel
theorem dX0_copyFrom_1 : decode cX0_copyFrom 1 = .ok (.aload_n 1, 1) := by decide +kernel
theorem dX0_copyFrom_2 : decode cX0_copyFrom 2 = .ok (.getfield 67, 3) := by decide +kernel
theorem dX0_copyFrom_5 : decode cX0_copyFrom 5 = .ok (.putfield 67, 3) := by decide +kernel
theorem dX0_copyFrom_8 : decode cX0_copyFrom 8 = .ok (.aload_n 0, 1) := by decide +kernel
theorem dX0_copyFrom_9 : decode cX0_copyFrom 9 = .ok (.getfield 12, 3) := by decide +kernel
theorem dX0_copyFrom_12 : decode cX0_copyFrom 12 = .ok (.aload_n 1, 1) := by decide +kernel
theorem dX0_copyFrom_13 : decode cX0_copyFrom 13 = .ok (.getfield 12, 3) := by decide +kernel
theorem dX0_copyFrom_16 : decode cX0_copyFrom 16 = .ok (.invokevirtual 190, 3) := by decide +kernel
theorem dX0_copyFrom_19 : decode cX0_copyFrom 19 = .ok (.aload_n 0, 1) := by decide +kernel
theorem dX0_copyFrom_20 : decode cX0_copyFrom 20 = .ok (.getfield 21, 3) := by decide +kernel
theorem dX0_copyFrom_23 : decode cX0_copyFrom 23 = .ok (.aload_n 1, 1) := by decide +kernel
theorem dX0_copyFrom_24 : decode cX0_copyFrom 24 = .ok (.getfield 21, 3) := by decide +kernel
theorem dX0_copyFrom_27 : decode cX0_copyFrom 27 = .ok (.invokevirtual 194, 3) := by decide +kernel
theorem dX0_copyFrom_30 : decode cX0_copyFrom 30 = .ok (.aload_n 0, 1) := by decide +kernel
theorem dX0_copyFrom_31 : decode cX0_copyFrom 31 = .ok (.getfield 28, 3) := by decide +kernel
theorem dX0_copyFrom_34 : decode cX0_copyFrom 34 = .ok (.aload_n 1, 1) := by decide +kernel
theorem dX0_copyFrom_35 : decode cX0_copyFrom 35 = .ok (.getfield 28, 3) := by decide +kernel
theorem dX0_copyFrom_38 : decode cX0_copyFrom 38 = .ok (.invokevirtual 197, 3) := by decide +kernel
theorem dX0_copyFrom_41 : decode cX0_copyFrom 41 = .ok (.aload_n 0, 1) := by decide +kernel
theorem dX0_copyFrom_42 : decode cX0_copyFrom 42 = .ok (.getfield 35, 3) := by decide +kernel
theorem dX0_copyFrom_45 : decode cX0_copyFrom 45 = .ok (.aload_n 1, 1) := by decide +kernel
theorem dX0_copyFrom_46 : decode cX0_copyFrom 46 = .ok (.getfield 35, 3) := by decide +kernel
theorem dX0_copyFrom_49 : decode cX0_copyFrom 49 = .ok (.invokevirtual 200, 3) := by decide +kernel
theorem dX0_copyFrom_52 : decode cX0_copyFrom 52 = .ok (.aload_n 0, 1) := by decide +kernel
theorem dX0_copyFrom_53 : decode cX0_copyFrom 53 = .ok (.getfield 42, 3) := by decide +kernel
theorem dX0_copyFrom_56 : decode cX0_copyFrom 56 = .ok (.aload_n 1, 1) := by decide +kernel
theorem dX0_copyFrom_57 : decode cX0_copyFrom 57 = .ok (.getfield 42, 3) := by decide +kernel
theorem dX0_copyFrom_60 : decode cX0_copyFrom 60 = .ok (.invokevirtual 203, 3) := by decide +kernel
theorem dX0_copyFrom_63 : decode cX0_copyFrom 63 = .ok (.aload_n 1, 1) := by decide +kernel
theorem dX0_copyFrom_64 : decode cX0_copyFrom 64 = .ok (.getfield 46, 3) := by decide +kernel
theorem dX0_copyFrom_67 : decode cX0_copyFrom 67 = .ok (.iconst 0, 1) := by decide +kernel
theorem dX0_copyFrom_68 : decode cX0_copyFrom 68 = .ok (.aload_n 0, 1) := by decide +kernel
theorem dX0_copyFrom_69 : decode cX0_copyFrom 69 = .ok (.getfield 46, 3) := by decide +kernel
theorem dX0_copyFrom_72 : decode cX0_copyFrom 72 = .ok (.iconst 0, 1) := by decide +kernel
theorem dX0_copyFrom_73 : decode cX0_copyFrom 73 = .ok (.aload_n 0, 1) := by decide +kernel
theorem dX0_copyFrom_74 : decode cX0_copyFrom 74 = .ok (.getfield 46, 3) := by decide +kernel
theorem dX0_copyFrom_77 : decode cX0_copyFrom 77 = .ok (.arraylength, 1) := by decide +kernel
theorem dX0_copyFrom_78 : decode cX0_copyFrom 78 = .ok (.invokestatic 206, 3) := by decide +kernel
theorem dX0_copyFrom_81 : decode cX0_copyFrom 81 = .ok (.aload_n 1, 1) := by decide +kernel
theorem dX0_copyFrom_82 : decode cX0_copyFrom 82 = .ok (.getfield 50, 3) := by decide +kernel
theorem dX0_copyFrom_85 : decode cX0_copyFrom 85 = .ok (.iconst 0, 1) := by decide +kernel
theorem dX0_copyFrom_86 : decode cX0_copyFrom 86 = .ok (.aload_n 0, 1) := by decide +kernel
theorem dX0_copyFrom_87 : decode cX0_copyFrom 87 = .ok (.getfield 50, 3) := by decide +kernel
theorem dX0_copyFrom_90 : decode cX0_copyFrom 90 = .ok (.iconst 0, 1) := by decide +kernel
theorem dX0_copyFrom_91 : decode cX0_copyFrom 91 = .ok (.aload_n 0, 1) := by decide +kernel
theorem dX0_copyFrom_92 : decode cX0_copyFrom 92 = .ok (.getfield 50, 3) := by decide +kernel
theorem dX0_copyFrom_95 : decode cX0_copyFrom 95 = .ok (.arraylength, 1) := by decide +kernel
theorem dX0_copyFrom_96 : decode cX0_copyFrom 96 = .ok (.invokestatic 206, 3) := by decide +kernel
theorem dX0_copyFrom_99 : decode cX0_copyFrom 99 = .ok (.return_, 1) := by decide +kernel
theorem dX1_init_0 : decode cX1_init 0 = .ok (.aload_n 0, 1) := by decide +kernel
theorem dX1_init_1 : decode cX1_init 1 = .ok (.invokespecial 3, 3) := by decide +kernel
theorem dX1_init_4 : decode cX1_init 4 = .ok (.aload_n 0, 1) := by decide +kernel
theorem dX1_init_5 : decode cX1_init 5 = .ok (.bipush 100, 2) := by decide +kernel
theorem dX1_init_7 : decode cX1_init 7 = .ok (.newarray .int, 2) := by decide +kernel
theorem dX1_init_9 : decode cX1_init 9 = .ok (.putfield 9, 3) := by decide +kernel
theorem dX1_init_12 : decode cX1_init 12 = .ok (.aload_n 0, 1) := by decide +kernel
theorem dX1_init_13 : decode cX1_init 13 = .ok (.bipush 100, 2) := by decide +kernel
theorem dX1_init_15 : decode cX1_init 15 = .ok (.newarray .int, 2) := by decide +kernel
theorem dX1_init_17 : decode cX1_init 17 = .ok (.putfield 15, 3) := by decide +kernel
theorem dX1_init_20 : decode cX1_init 20 = .ok (.aload_n 0, 1) := by decide +kernel
theorem dX1_init_21 : decode cX1_init 21 = .ok (.bipush 100, 2) := by decide +kernel
theorem dX1_init_23 : decode cX1_init 23 = .ok (.newarray .int, 2) := by decide +kernel
theorem dX1_init_25 : decode cX1_init 25 = .ok (.putfield 18, 3) := by decide +kernel
theorem dX1_init_28 : decode cX1_init 28 = .ok (.aload_n 0, 1) := by decide +kernel
theorem dX1_init_29 : decode cX1_init 29 = .ok (.bipush 100, 2) := by decide +kernel
theorem dX1_init_31 : decode cX1_init 31 = .ok (.newarray .int, 2) := by decide +kernel
theorem dX1_init_33 : decode cX1_init 33 = .ok (.putfield 21, 3) := by decide +kernel
theorem dX1_init_36 : decode cX1_init 36 = .ok (.aload_n 0, 1) := by decide +kernel
theorem dX1_init_37 : decode cX1_init 37 = .ok (.bipush 100, 2) := by decide +kernel
theorem dX1_init_39 : decode cX1_init 39 = .ok (.newarray .int, 2) := by decide +kernel
theorem dX1_init_41 : decode cX1_init 41 = .ok (.putfield 24, 3) := by decide +kernel
theorem dX1_init_44 : decode cX1_init 44 = .ok (.aload_n 0, 1) := by decide +kernel
theorem dX1_init_45 : decode cX1_init 45 = .ok (.bipush 100, 2) := by decide +kernel
theorem dX1_init_47 : decode cX1_init 47 = .ok (.newarray .int, 2) := by decide +kernel
theorem dX1_init_49 : decode cX1_init 49 = .ok (.putfield 27, 3) := by decide +kernel
theorem dX1_init_52 : decode cX1_init 52 = .ok (.aload_n 0, 1) := by decide +kernel
theorem dX1_init_53 : decode cX1_init 53 = .ok (.bipush 100, 2) := by decide +kernel
theorem dX1_init_55 : decode cX1_init 55 = .ok (.newarray .int, 2) := by decide +kernel
theorem dX1_init_57 : decode cX1_init 57 = .ok (.putfield 30, 3) := by decide +kernel
theorem dX1_init_60 : decode cX1_init 60 = .ok (.return_, 1) := by decide +kernel
theorem dX1_has_0 : decode cX1_has 0 = .ok (.iload_n 1, 1) := by decide +kernel
theorem dX1_has_1 : decode cX1_has 1 = .ok (.ifCond .lt 15, 3) := by decide +kernel
theorem dX1_has_4 : decode cX1_has 4 = .ok (.iload_n 1, 1) := by decide +kernel
theorem dX1_has_5 : decode cX1_has 5 = .ok (.aload_n 0, 1) := by decide +kernel
theorem dX1_has_6 : decode cX1_has 6 = .ok (.getfield 33, 3) := by decide +kernel
theorem dX1_has_9 : decode cX1_has 9 = .ok (.if_icmp .ge 7, 3) := by decide +kernel
theorem dX1_has_12 : decode cX1_has 12 = .ok (.iconst 1, 1) := by decide +kernel
theorem dX1_has_13 : decode cX1_has 13 = .ok (.goto 4, 3) := by decide +kernel
theorem dX1_has_16 : decode cX1_has 16 = .ok (.iconst 0, 1) := by decide +kernel
theorem dX1_has_17 : decode cX1_has 17 = .ok (.ireturn, 1) := by decide +kernel
theorem dX1_copyFrom_0 : decode cX1_copyFrom 0 = .ok (.aload_n 0, 1) := by decide +kernel
theorem dX1_copyFrom_1 : decode cX1_copyFrom 1 = .ok (.aload_n 1, 1) := by decide +kernel
theorem dX1_copyFrom_2 : decode cX1_copyFrom 2 = .ok (.getfield 33, 3) := by decide +kernel
theorem dX1_copyFrom_5 : decode cX1_copyFrom 5 = .ok (.putfield 33, 3) := by decide +kernel
theorem dX1_copyFrom_8 : decode cX1_copyFrom 8 = .ok (.aload_n 1, 1) := by decide +kernel
theorem dX1_copyFrom_9 : decode cX1_copyFrom 9 = .ok (.getfield 9, 3) := by decide +kernel
theorem dX1_copyFrom_12 : decode cX1_copyFrom 12 = .ok (.iconst 0, 1) := by decide +kernel
theorem dX1_copyFrom_13 : decode cX1_copyFrom 13 = .ok (.aload_n 0, 1) := by decide +kernel
theorem dX1_copyFrom_14 : decode cX1_copyFrom 14 = .ok (.getfield 9, 3) := by decide +kernel
theorem dX1_copyFrom_17 : decode cX1_copyFrom 17 = .ok (.iconst 0, 1) := by decide +kernel
theorem dX1_copyFrom_18 : decode cX1_copyFrom 18 = .ok (.aload_n 0, 1) := by decide +kernel
theorem dX1_copyFrom_19 : decode cX1_copyFrom 19 = .ok (.getfield 33, 3) := by decide +kernel
theorem dX1_copyFrom_22 : decode cX1_copyFrom 22 = .ok (.invokestatic 37, 3) := by decide +kernel
theorem dX1_copyFrom_25 : decode cX1_copyFrom 25 = .ok (.aload_n 1, 1) := by decide +kernel
theorem dX1_copyFrom_26 : decode cX1_copyFrom 26 = .ok (.getfield 15, 3) := by decide +kernel
theorem dX1_copyFrom_29 : decode cX1_copyFrom 29 = .ok (.iconst 0, 1) := by decide +kernel
theorem dX1_copyFrom_30 : decode cX1_copyFrom 30 = .ok (.aload_n 0, 1) := by decide +kernel
theorem dX1_copyFrom_31 : decode cX1_copyFrom 31 = .ok (.getfield 15, 3) := by decide +kernel
theorem dX1_copyFrom_34 : decode cX1_copyFrom 34 = .ok (.iconst 0, 1) := by decide +kernel
theorem dX1_copyFrom_35 : decode cX1_copyFrom 35 = .ok (.aload_n 0, 1) := by decide +kernel
theorem dX1_copyFrom_36 : decode cX1_copyFrom 36 = .ok (.getfield 33, 3) := by decide +kernel
theorem dX1_copyFrom_39 : decode cX1_copyFrom 39 = .ok (.invokestatic 37, 3) := by decide +kernel
theorem dX1_copyFrom_42 : decode cX1_copyFrom 42 = .ok (.aload_n 1, 1) := by decide +kernel
theorem dX1_copyFrom_43 : decode cX1_copyFrom 43 = .ok (.getfield 18, 3) := by decide +kernel
theorem dX1_copyFrom_46 : decode cX1_copyFrom 46 = .ok (.iconst 0, 1) := by decide +kernel
theorem dX1_copyFrom_47 : decode cX1_copyFrom 47 = .ok (.aload_n 0, 1) := by decide +kernel
theorem dX1_copyFrom_48 : decode cX1_copyFrom 48 = .ok (.getfield 18, 3) := by decide +kernel
theorem dX1_copyFrom_51 : decode cX1_copyFrom 51 = .ok (.iconst 0, 1) := by decide +kernel
theorem dX1_copyFrom_52 : decode cX1_copyFrom 52 = .ok (.aload_n 0, 1) := by decide +kernel
theorem dX1_copyFrom_53 : decode cX1_copyFrom 53 = .ok (.getfield 33, 3) := by decide +kernel
theorem dX1_copyFrom_56 : decode cX1_copyFrom 56 = .ok (.invokestatic 37, 3) := by decide +kernel
theorem dX1_copyFrom_59 : decode cX1_copyFrom 59 = .ok (.aload_n 1, 1) := by decide +kernel
theorem dX1_copyFrom_60 : decode cX1_copyFrom 60 = .ok (.getfield 21, 3) := by decide +kernel
theorem dX1_copyFrom_63 : decode cX1_copyFrom 63 = .ok (.iconst 0, 1) := by decide +kernel
theorem dX1_copyFrom_64 : decode cX1_copyFrom 64 = .ok (.aload_n 0, 1) := by decide +kernel
theorem dX1_copyFrom_65 : decode cX1_copyFrom 65 = .ok (.getfield 21, 3) := by decide +kernel
theorem dX1_copyFrom_68 : decode cX1_copyFrom 68 = .ok (.iconst 0, 1) := by decide +kernel
theorem dX1_copyFrom_69 : decode cX1_copyFrom 69 = .ok (.aload_n 0, 1) := by decide +kernel
theorem dX1_copyFrom_70 : decode cX1_copyFrom 70 = .ok (.getfield 33, 3) := by decide +kernel
theorem dX1_copyFrom_73 : decode cX1_copyFrom 73 = .ok (.invokestatic 37, 3) := by decide +kernel
theorem dX1_copyFrom_76 : decode cX1_copyFrom 76 = .ok (.aload_n 1, 1) := by decide +kernel
theorem dX1_copyFrom_77 : decode cX1_copyFrom 77 = .ok (.getfield 24, 3) := by decide +kernel
theorem dX1_copyFrom_80 : decode cX1_copyFrom 80 = .ok (.iconst 0, 1) := by decide +kernel
theorem dX1_copyFrom_81 : decode cX1_copyFrom 81 = .ok (.aload_n 0, 1) := by decide +kernel
theorem dX1_copyFrom_82 : decode cX1_copyFrom 82 = .ok (.getfield 24, 3) := by decide +kernel
theorem dX1_copyFrom_85 : decode cX1_copyFrom 85 = .ok (.iconst 0, 1) := by decide +kernel
theorem dX1_copyFrom_86 : decode cX1_copyFrom 86 = .ok (.aload_n 0, 1) := by decide +kernel
theorem dX1_copyFrom_87 : decode cX1_copyFrom 87 = .ok (.getfield 33, 3) := by decide +kernel
theorem dX1_copyFrom_90 : decode cX1_copyFrom 90 = .ok (.invokestatic 37, 3) := by decide +kernel
theorem dX1_copyFrom_93 : decode cX1_copyFrom 93 = .ok (.aload_n 1, 1) := by decide +kernel
theorem dX1_copyFrom_94 : decode cX1_copyFrom 94 = .ok (.getfield 27, 3) := by decide +kernel
theorem dX1_copyFrom_97 : decode cX1_copyFrom 97 = .ok (.iconst 0, 1) := by decide +kernel
theorem dX1_copyFrom_98 : decode cX1_copyFrom 98 = .ok (.aload_n 0, 1) := by decide +kernel
theorem dX1_copyFrom_99 : decode cX1_copyFrom 99 = .ok (.getfield 27, 3) := by decide +kernel
theorem dX1_copyFrom_102 : decode cX1_copyFrom 102 = .ok (.iconst 0, 1) := by decide +kernel
theorem dX1_copyFrom_103 : decode cX1_copyFrom 103 = .ok (.aload_n 0, 1) := by decide +kernel
theorem dX1_copyFrom_104 : decode cX1_copyFrom 104 = .ok (.getfield 33, 3) := by decide +kernel
theorem dX1_copyFrom_107 : decode cX1_copyFrom 107 = .ok (.invokestatic 37, 3) := by decide +kernel
theorem dX1_copyFrom_110 : decode cX1_copyFrom 110 = .ok (.aload_n 1, 1) := by decide +kernel
theorem dX1_copyFrom_111 : decode cX1_copyFrom 111 = .ok (.getfield 30, 3) := by decide +kernel
theorem dX1_copyFrom_114 : decode cX1_copyFrom 114 = .ok (.iconst 0, 1) := by decide +kernel
theorem dX1_copyFrom_115 : decode cX1_copyFrom 115 = .ok (.aload_n 0, 1) := by decide +kernel
theorem dX1_copyFrom_116 : decode cX1_copyFrom 116 = .ok (.getfield 30, 3) := by decide +kernel
theorem dX1_copyFrom_119 : decode cX1_copyFrom 119 = .ok (.iconst 0, 1) := by decide +kernel
theorem dX1_copyFrom_120 : decode cX1_copyFrom 120 = .ok (.aload_n 0, 1) := by decide +kernel
theorem dX1_copyFrom_121 : decode cX1_copyFrom 121 = .ok (.getfield 33, 3) := by decide +kernel
theorem dX1_copyFrom_124 : decode cX1_copyFrom 124 = .ok (.invokestatic 37, 3) := by decide +kernel
theorem dX1_copyFrom_127 : decode cX1_copyFrom 127 = .ok (.return_, 1) := by decide +kernel
theorem dX2_init_0 : decode cX2_init 0 = .ok (.aload_n 0, 1) := by decide +kernel
theorem dX2_init_1 : decode cX2_init 1 = .ok (.invokespecial 3, 3) := by decide +kernel
theorem dX2_init_4 : decode cX2_init 4 = .ok (.aload_n 0, 1) := by decide +kernel
theorem dX2_init_5 : decode cX2_init 5 = .ok (.bipush 16, 2) := by decide +kernel
theorem dX2_init_7 : decode cX2_init 7 = .ok (.newarray .int, 2) := by decide +kernel
theorem dX2_init_9 : decode cX2_init 9 = .ok (.putfield 9, 3) := by decide +kernel
theorem dX2_init_12 : decode cX2_init 12 = .ok (.aload_n 0, 1) := by decide +kernel
theorem dX2_init_13 : decode cX2_init 13 = .ok (.bipush 16, 2) := by decide +kernel
theorem dX2_init_15 : decode cX2_init 15 = .ok (.newarray .int, 2) := by decide +kernel
theorem dX2_init_17 : decode cX2_init 17 = .ok (.putfield 15, 3) := by decide +kernel
theorem dX2_init_20 : decode cX2_init 20 = .ok (.aload_n 0, 1) := by decide +kernel
theorem dX2_init_21 : decode cX2_init 21 = .ok (.bipush 16, 2) := by decide +kernel
theorem dX2_init_23 : decode cX2_init 23 = .ok (.newarray .int, 2) := by decide +kernel
theorem dX2_init_25 : decode cX2_init 25 = .ok (.putfield 18, 3) := by decide +kernel
theorem dX2_init_28 : decode cX2_init 28 = .ok (.aload_n 0, 1) := by decide +kernel
theorem dX2_init_29 : decode cX2_init 29 = .ok (.bipush 64, 2) := by decide +kernel
theorem dX2_init_31 : decode cX2_init 31 = .ok (.newarray .int, 2) := by decide +kernel
theorem dX2_init_33 : decode cX2_init 33 = .ok (.putfield 21, 3) := by decide +kernel
theorem dX2_init_36 : decode cX2_init 36 = .ok (.aload_n 0, 1) := by decide +kernel
theorem dX2_init_37 : decode cX2_init 37 = .ok (.bipush 64, 2) := by decide +kernel
theorem dX2_init_39 : decode cX2_init 39 = .ok (.newarray .int, 2) := by decide +kernel
theorem dX2_init_41 : decode cX2_init 41 = .ok (.putfield 24, 3) := by decide +kernel
theorem dX2_init_44 : decode cX2_init 44 = .ok (.aload_n 0, 1) := by decide +kernel
theorem dX2_init_45 : decode cX2_init 45 = .ok (.bipush 64, 2) := by decide +kernel
theorem dX2_init_47 : decode cX2_init 47 = .ok (.newarray .int, 2) := by decide +kernel
theorem dX2_init_49 : decode cX2_init 49 = .ok (.putfield 27, 3) := by decide +kernel
theorem dX2_init_52 : decode cX2_init 52 = .ok (.aload_n 0, 1) := by decide +kernel
theorem dX2_init_53 : decode cX2_init 53 = .ok (.bipush 64, 2) := by decide +kernel
theorem dX2_init_55 : decode cX2_init 55 = .ok (.newarray .int, 2) := by decide +kernel
theorem dX2_init_57 : decode cX2_init 57 = .ok (.putfield 30, 3) := by decide +kernel
theorem dX2_init_60 : decode cX2_init 60 = .ok (.return_, 1) := by decide +kernel
set_option maxRecDepth 20000 in
theorem ggX2_clear_J7_fill_53178 : GoodIn wsX2_clear wsJ7_fill_53178 := goodIn_r _ [6] (by decide +kernel) (by decide +kernel)
set_option maxRecDepth 20000 in
theorem gX2_clear_J7_fill_53178 : GoodIn wsX2_clear (va_wsS RX2 37 yJ7_fill_53178 wsJ7_fill_53178) := goodIn_app (goodIn_of _ (by decide +kernel)) ggX2_clear_J7_fill_53178
theorem dX2_clear_0 : decode cX2_clear 0 = .ok (.aload_n 0, 1) := by decide +kernel
theorem dX2_clear_1 : decode cX2_clear 1 = .ok (.iconst 0, 1) := by decide +kernel
theorem dX2_clear_2 : decode cX2_clear 2 = .ok (.putfield 33, 3) := by decide +kernel
theorem dX2_clear_5 : decode cX2_clear 5 = .ok (.aload_n 0, 1) := by decide +kernel
theorem dX2_clear_6 : decode cX2_clear 6 = .ok (.getfield 18, 3) := by decide +kernel
theorem dX2_clear_9 : decode cX2_clear 9 = .ok (.iconst 0, 1) := by decide +kernel
theorem dX2_clear_10 : decode cX2_clear 10 = .ok (.invokestatic 37, 3) := by decide +kernel
theorem dX2_clear_13 : decode cX2_clear 13 = .ok (.return_, 1) := by decide +kernel
theorem dX2_copyFrom_0 : decode cX2_copyFrom 0 = .ok (.aload_n 0, 1) := by decide +kernel
theorem dX2_copyFrom_1 : decode cX2_copyFrom 1 = .ok (.aload_n 1, 1) := by decide +kernel
theorem dX2_copyFrom_2 : decode cX2_copyFrom 2 = .ok (.getfield 33, 3) := by decide +kernel
theorem dX2_copyFrom_5 : decode cX2_copyFrom 5 = .ok (.putfield 33, 3) := by decide +kernel
theorem dX2_copyFrom_8 : decode cX2_copyFrom 8 = .ok (.aload_n 1, 1) := by decide +kernel
theorem dX2_copyFrom_9 : decode cX2_copyFrom 9 = .ok (.getfield 9, 3) := by decide +kernel
theorem dX2_copyFrom_12 : decode cX2_copyFrom 12 = .ok (.iconst 0, 1) := by decide +kernel
theorem dX2_copyFrom_13 : decode cX2_copyFrom 13 = .ok (.aload_n 0, 1) := by decide +kernel
theorem dX2_copyFrom_14 : decode cX2_copyFrom 14 = .ok (.getfield 9, 3) := by decide +kernel
theorem dX2_copyFrom_17 : decode cX2_copyFrom 17 = .ok (.iconst 0, 1) := by decide +kernel
theorem dX2_copyFrom_18 : decode cX2_copyFrom 18 = .ok (.aload_n 0, 1) := by decide +kernel
theorem dX2_copyFrom_19 : decode cX2_copyFrom 19 = .ok (.getfield 9, 3) := by decide +kernel
theorem dX2_copyFrom_22 : decode cX2_copyFrom 22 = .ok (.arraylength, 1) := by decide +kernel
theorem dX2_copyFrom_23 : decode cX2_copyFrom 23 = .ok (.invokestatic 62, 3) := by decide +kernel
theorem dX2_copyFrom_26 : decode cX2_copyFrom 26 = .ok (.aload_n 1, 1) := by decide +kernel
theorem dX2_copyFrom_27 : decode cX2_copyFrom 27 = .ok (.getfield 15, 3) := by decide +kernel
theorem dX2_copyFrom_30 : decode cX2_copyFrom 30 = .ok (.iconst 0, 1) := by decide +kernel
theorem dX2_copyFrom_31 : decode cX2_copyFrom 31 = .ok (.aload_n 0, 1) := by decide +kernel
theorem dX2_copyFrom_32 : decode cX2_copyFrom 32 = .ok (.getfield 15, 3) := by decide +kernel
theorem dX2_copyFrom_35 : decode cX2_copyFrom 35 = .ok (.iconst 0, 1) := by decide +kernel
theorem dX2_copyFrom_36 : decode cX2_copyFrom 36 = .ok (.aload_n 0, 1) := by decide +kernel
theorem dX2_copyFrom_37 : decode cX2_copyFrom 37 = .ok (.getfield 15, 3) := by decide +kernel
theorem dX2_copyFrom_40 : decode cX2_copyFrom 40 = .ok (.arraylength, 1) := by decide +kernel
theorem dX2_copyFrom_41 : decode cX2_copyFrom 41 = .ok (.invokestatic 62, 3) := by decide +kernel
theorem dX2_copyFrom_44 : decode cX2_copyFrom 44 = .ok (.aload_n 1, 1) := by decide +kernel
theorem dX2_copyFrom_45 : decode cX2_copyFrom 45 = .ok (.getfield 18, 3) := by decide +kernel
theorem dX2_copyFrom_48 : decode cX2_copyFrom 48 = .ok (.iconst 0, 1) := by decide +kernel
theorem dX2_copyFrom_49 : decode cX2_copyFrom 49 = .ok (.aload_n 0, 1) := by decide +kernel
theorem dX2_copyFrom_50 : decode cX2_copyFrom 50 = .ok (.getfield 18, 3) := by decide +kernel
theorem dX2_copyFrom_53 : decode cX2_copyFrom 53 = .ok (.iconst 0, 1) := by decide +kernel
theorem dX2_copyFrom_54 : decode cX2_copyFrom 54 = .ok (.aload_n 0, 1) := by decide +kernel
theorem dX2_copyFrom_55 : decode cX2_copyFrom 55 = .ok (.getfield 18, 3) := by decide +kernel
theorem dX2_copyFrom_58 : decode cX2_copyFrom 58 = .ok (.arraylength, 1) := by decide +kernel
theorem dX2_copyFrom_59 : decode cX2_copyFrom 59 = .ok (.invokestatic 62, 3) := by decide +kernel
theorem dX2_copyFrom_62 : decode cX2_copyFrom 62 = .ok (.aload_n 1, 1) := by decide +kernel
theorem dX2_copyFrom_63 : decode cX2_copyFrom 63 = .ok (.getfield 21, 3) := by decide +kernel
theorem dX2_copyFrom_66 : decode cX2_copyFrom 66 = .ok (.iconst 0, 1) := by decide +kernel
theorem dX2_copyFrom_67 : decode cX2_copyFrom 67 = .ok (.aload_n 0, 1) := by decide +kernel
theorem dX2_copyFrom_68 : decode cX2_copyFrom 68 = .ok (.getfield 21, 3) := by decide +kernel
theorem dX2_copyFrom_71 : decode cX2_copyFrom 71 = .ok (.iconst 0, 1) := by decide +kernel
theorem dX2_copyFrom_72 : decode cX2_copyFrom 72 = .ok (.aload_n 0, 1) := by decide +kernel
theorem dX2_copyFrom_73 : decode cX2_copyFrom 73 = .ok (.getfield 21, 3) := by decide +kernel
theorem dX2_copyFrom_76 : decode cX2_copyFrom 76 = .ok (.arraylength, 1) := by decide +kernel
theorem dX2_copyFrom_77 : decode cX2_copyFrom 77 = .ok (.invokestatic 62, 3) := by decide +kernel
theorem dX2_copyFrom_80 : decode cX2_copyFrom 80 = .ok (.aload_n 1, 1) := by decide +kernel
theorem dX2_copyFrom_81 : decode cX2_copyFrom 81 = .ok (.getfield 24, 3) := by decide +kernel
theorem dX2_copyFrom_84 : decode cX2_copyFrom 84 = .ok (.iconst 0, 1) := by decide +kernel
theorem dX2_copyFrom_85 : decode cX2_copyFrom 85 = .ok (.aload_n 0, 1) := by decide +kernel
theorem dX2_copyFrom_86 : decode cX2_copyFrom 86 = .ok (.getfield 24, 3) := by decide +kernel
theorem dX2_copyFrom_89 : decode cX2_copyFrom 89 = .ok (.iconst 0, 1) := by decide +kernel
theorem dX2_copyFrom_90 : decode cX2_copyFrom 90 = .ok (.aload_n 0, 1) := by decide +kernel
theorem dX2_copyFrom_91 : decode cX2_copyFrom 91 = .ok (.getfield 24, 3) := by decide +kernel
theorem dX2_copyFrom_94 : decode cX2_copyFrom 94 = .ok (.arraylength, 1) := by decide +kernel
theorem dX2_copyFrom_95 : decode cX2_copyFrom 95 = .ok (.invokestatic 62, 3) := by decide +kernel
theorem dX2_copyFrom_98 : decode cX2_copyFrom 98 = .ok (.aload_n 1, 1) := by decide +kernel
theorem dX2_copyFrom_99 : decode cX2_copyFrom 99 = .ok (.getfield 27, 3) := by decide +kernel
theorem dX2_copyFrom_102 : decode cX2_copyFrom 102 = .ok (.iconst 0, 1) := by decide +kernel
theorem dX2_copyFrom_103 : decode cX2_copyFrom 103 = .ok (.aload_n 0, 1) := by decide +kernel
theorem dX2_copyFrom_104 : decode cX2_copyFrom 104 = .ok (.getfield 27, 3) := by decide +kernel
theorem dX2_copyFrom_107 : decode cX2_copyFrom 107 = .ok (.iconst 0, 1) := by decide +kernel
theorem dX2_copyFrom_108 : decode cX2_copyFrom 108 = .ok (.aload_n 0, 1) := by decide +kernel
theorem dX2_copyFrom_109 : decode cX2_copyFrom 109 = .ok (.getfield 27, 3) := by decide +kernel
theorem dX2_copyFrom_112 : decode cX2_copyFrom 112 = .ok (.arraylength, 1) := by decide +kernel
theorem dX2_copyFrom_113 : decode cX2_copyFrom 113 = .ok (.invokestatic 62, 3) := by decide +kernel
theorem dX2_copyFrom_116 : decode cX2_copyFrom 116 = .ok (.aload_n 1, 1) := by decide +kernel
theorem dX2_copyFrom_117 : decode cX2_copyFrom 117 = .ok (.getfield 30, 3) := by decide +kernel
theorem dX2_copyFrom_120 : decode cX2_copyFrom 120 = .ok (.iconst 0, 1) := by decide +kernel
theorem dX2_copyFrom_121 : decode cX2_copyFrom 121 = .ok (.aload_n 0, 1) := by decide +kernel
theorem dX2_copyFrom_122 : decode cX2_copyFrom 122 = .ok (.getfield 30, 3) := by decide +kernel
theorem dX2_copyFrom_125 : decode cX2_copyFrom 125 = .ok (.iconst 0, 1) := by decide +kernel
theorem dX2_copyFrom_126 : decode cX2_copyFrom 126 = .ok (.aload_n 0, 1) := by decide +kernel
theorem dX2_copyFrom_127 : decode cX2_copyFrom 127 = .ok (.getfield 30, 3) := by decide +kernel
theorem dX2_copyFrom_130 : decode cX2_copyFrom 130 = .ok (.arraylength, 1) := by decide +kernel
theorem dX2_copyFrom_131 : decode cX2_copyFrom 131 = .ok (.invokestatic 62, 3) := by decide +kernel
theorem dX2_copyFrom_134 : decode cX2_copyFrom 134 = .ok (.return_, 1) := by decide +kernel
set_option maxRecDepth 20000 in
theorem ggX3_init_X2_init : GoodIn wsX3_init wsX2_init := goodIn_r _ [15, 16, 2, 3, 17, 18, 19, 20, 21, 22, 23, 24, 37, 38, 39, 40, 41, 42, 43, 44] (by decide +kernel) (by decide +kernel)
set_option maxRecDepth 20000 in
theorem gX3_init_X2_init_n20 : GoodIn wsX3_init (wsX2_init) := ggX3_init_X2_init
set_option maxRecDepth 20000 in
theorem ggX3_init_X8_init : GoodIn wsX3_init wsX8_init := goodIn_r _ [26, 27, 2, 3, 17, 28, 29, 30, 45, 46, 47, 48] (by decide +kernel) (by decide +kernel)
set_option maxRecDepth 20000 in
theorem gX3_init_X8_init_n27 : GoodIn wsX3_init (wsX8_init) := ggX3_init_X8_init
theorem dX3_init_0 : decode cX3_init 0 = .ok (.aload_n 0, 1) := by decide +kernel
theorem dX3_init_1 : decode cX3_init 1 = .ok (.invokespecial 3, 3) := by decide +kernel
theorem dX3_init_4 : decode cX3_init 4 = .ok (.aload_n 0, 1) := by decide +kernel
theorem dX3_init_5 : decode cX3_init 5 = .ok (.iconst 0, 1) := by decide +kernel
theorem dX3_init_6 : decode cX3_init 6 = .ok (.putfield 9, 3) := by decide +kernel
theorem dX3_init_9 : decode cX3_init 9 = .ok (.aload_n 0, 1) := by decide +kernel
theorem dX3_init_10 : decode cX3_init 10 = .ok (.iconst (-1), 1) := by decide +kernel
theorem dX3_init_11 : decode cX3_init 11 = .ok (.putfield 15, 3) := by decide +kernel
theorem dX3_init_14 : decode cX3_init 14 = .ok (.aload_n 0, 1) := by decide +kernel
theorem dX3_init_15 : decode cX3_init 15 = .ok (.new 18, 3) := by decide +kernel
theorem dX3_init_18 : decode cX3_init 18 = .ok (.dup, 1) := by decide +kernel
theorem dX3_init_19 : decode cX3_init 19 = .ok (.invokespecial 20, 3) := by decide +kernel
theorem dX3_init_22 : decode cX3_init 22 = .ok (.putfield 21, 3) := by decide +kernel
theorem dX3_init_25 : decode cX3_init 25 = .ok (.aload_n 0, 1) := by decide +kernel
theorem dX3_init_26 : decode cX3_init 26 = .ok (.new 25, 3) := by decide +kernel
theorem dX3_init_29 : decode cX3_init 29 = .ok (.dup, 1) := by decide +kernel
theorem dX3_init_30 : decode cX3_init 30 = .ok (.invokespecial 27, 3) := by decide +kernel
theorem dX3_init_33 : decode cX3_init 33 = .ok (.putfield 28, 3) := by decide +kernel
theorem dX3_init_36 : decode cX3_init 36 = .ok (.return_, 1) := by decide +kernel
set_option maxRecDepth 20000 in
theorem ggX3_read_X2_clear : GoodIn wsX3_read wsX2_clear := goodIn_r _ [11, 12, 13, 14, 15, 16, 17, 172, 173, 174, 175, 176, 177, 178, 179] (by decide +kernel) (by decide +kernel)
set_option maxRecDepth 20000 in
theorem gX3_read_X2_clear : GoodIn wsX3_read (wsV RX3 38 RX2 yX2_clear wsX2_clear) := goodIn_app (goodIn_of _ (by decide +kernel)) ggX3_read_X2_clear
set_option maxRecDepth 20000 in
theorem ggX3_read_X8_split : GoodIn wsX3_read wsX8_split := goodIn_r _ [22, 23, 24, 25, 26, 27, 28, 29, 30, 31, 21, 32, 33, 34, 35, 36, 37, 38, 39, 40, 41, 42, 43, 44, 45, 46, 47, 48, 49, 50, 51, 52, 53, 54, 55, 56, 57, 58, 59, 60, 61, 62, 63, 64, 65, 66, 67, 68, 69, 70, 71, 72, 73, 74, 75, 76, 77, 78, 79, 80, 81, 82, 83, 84, 85, 86, 87, 88, 89, 90, 91, 92, 93, 94, 95, 96, 97, 98, 99, 100, 101, 102, 103, 104, 105, 106, 107, 108, 109, 110, 180, 181, 182, 183, 184, 185] (by decide +kernel) (by decide +kernel)
set_option maxRecDepth 20000 in
theorem gX3_read_X8_split : GoodIn wsX3_read (wsV RX3 41 RX8 yX8_split wsX8_split) := goodIn_app (goodIn_of _ (by decide +kernel)) ggX3_read_X8_split
set_option maxRecDepth 20000 in
theorem ggX3_read_X3_isSound : GoodIn wsX3_read wsX3_isSound := goodIn_r _ [115, 1, 166, 167, 168, 169, 170, 171] (by decide +kernel) (by decide +kernel)
set_option maxRecDepth 20000 in
theorem gX3_read_X3_isSound : GoodIn wsX3_read (wsV RX3 45 RX3 yX3_isSound wsX3_isSound) := goodIn_app (goodIn_of _ (by decide +kernel)) ggX3_read_X3_isSound
set_option maxRecDepth 20000 in
theorem ggX3_read_X3_isNext : GoodIn wsX3_read wsX3_isNext := goodIn_r _ [119, 6, 4, 120, 121, 122, 21, 123, 23, 102, 166, 167, 168, 169, 170, 171, 180, 181, 182, 183] (by decide +kernel) (by decide +kernel)
set_option maxRecDepth 20000 in
theorem gX3_read_X3_isNext : GoodIn wsX3_read (wsV RX3 49 RX3 yX3_isNext wsX3_isNext) := goodIn_app (goodIn_of _ (by decide +kernel)) ggX3_read_X3_isNext
theorem dX3_read_0 : decode cX3_read 0 = .ok (.aload_n 0, 1) := by decide +kernel
theorem dX3_read_1 : decode cX3_read 1 = .ok (.iconst 0, 1) := by decide +kernel
theorem dX3_read_2 : decode cX3_read 2 = .ok (.putfield 9, 3) := by decide +kernel
theorem dX3_read_5 : decode cX3_read 5 = .ok (.aload_n 0, 1) := by decide +kernel
theorem dX3_read_6 : decode cX3_read 6 = .ok (.iconst (-1), 1) := by decide +kernel
theorem dX3_read_7 : decode cX3_read 7 = .ok (.putfield 15, 3) := by decide +kernel
theorem dX3_read_10 : decode cX3_read 10 = .ok (.aload_n 0, 1) := by decide +kernel
theorem dX3_read_11 : decode cX3_read 11 = .ok (.iconst (-1), 1) := by decide +kernel
theorem dX3_read_12 : decode cX3_read 12 = .ok (.putfield 32, 3) := by decide +kernel
theorem dX3_read_15 : decode cX3_read 15 = .ok (.aload_n 0, 1) := by decide +kernel
theorem dX3_read_16 : decode cX3_read 16 = .ok (.iconst 0, 1) := by decide +kernel
theorem dX3_read_17 : decode cX3_read 17 = .ok (.putfield 35, 3) := by decide +kernel
theorem dX3_read_20 : decode cX3_read 20 = .ok (.aload_n 0, 1) := by decide +kernel
theorem dX3_read_21 : decode cX3_read 21 = .ok (.getfield 21, 3) := by decide +kernel
theorem dX3_read_24 : decode cX3_read 24 = .ok (.invokevirtual 38, 3) := by decide +kernel
theorem dX3_read_27 : decode cX3_read 27 = .ok (.aload_n 0, 1) := by decide +kernel
theorem dX3_read_28 : decode cX3_read 28 = .ok (.getfield 28, 3) := by decide +kernel
theorem dX3_read_31 : decode cX3_read 31 = .ok (.aload_n 1, 1) := by decide +kernel
theorem dX3_read_32 : decode cX3_read 32 = .ok (.invokevirtual 41, 3) := by decide +kernel
theorem dX3_read_35 : decode cX3_read 35 = .ok (.iconst 0, 1) := by decide +kernel
theorem dX3_read_36 : decode cX3_read 36 = .ok (.istore_n 2, 1) := by decide +kernel
theorem dX3_read_37 : decode cX3_read 37 = .ok (.iload_n 2, 1) := by decide +kernel
theorem dX3_read_38 : decode cX3_read 38 = .ok (.sipush 400, 3) := by decide +kernel
theorem dX3_read_41 : decode cX3_read 41 = .ok (.if_icmp .ge 40, 3) := by decide +kernel
theorem dX3_read_44 : decode cX3_read 44 = .ok (.aload_n 0, 1) := by decide +kernel
theorem dX3_read_45 : decode cX3_read 45 = .ok (.invokevirtual 45, 3) := by decide +kernel
theorem dX3_read_48 : decode cX3_read 48 = .ok (.ifCond .eq 33, 3) := by decide +kernel
theorem dX3_read_51 : decode cX3_read 51 = .ok (.aload_n 0, 1) := by decide +kernel
theorem dX3_read_52 : decode cX3_read 52 = .ok (.bipush 20, 2) := by decide +kernel
theorem dX3_read_54 : decode cX3_read 54 = .ok (.invokevirtual 49, 3) := by decide +kernel
theorem dX3_read_57 : decode cX3_read 57 = .ok (.ifCond .ne 24, 3) := by decide +kernel
theorem dX3_read_60 : decode cX3_read 60 = .ok (.aload_n 0, 1) := by decide +kernel
theorem dX3_read_61 : decode cX3_read 61 = .ok (.iload_n 2, 1) := by decide +kernel
theorem dX3_read_62 : decode cX3_read 62 = .ok (.bipush 16, 2) := by decide +kernel
theorem dX3_read_64 : decode cX3_read 64 = .ok (.if_icmp .lt 7, 3) := by decide +kernel
theorem dX3_read_67 : decode cX3_read 67 = .ok (.iconst 1, 1) := by decide +kernel
theorem dX3_read_68 : decode cX3_read 68 = .ok (.goto 4, 3) := by decide +kernel
theorem dX3_read_71 : decode cX3_read 71 = .ok (.iconst 0, 1) := by decide +kernel
theorem dX3_read_72 : decode cX3_read 72 = .ok (.invokevirtual 53, 3) := by decide +kernel
theorem dX3_read_75 : decode cX3_read 75 = .ok (.iinc 2 1, 3) := by decide +kernel
theorem dX3_read_78 : decode cX3_read 78 = .ok (.goto (-41), 3) := by decide +kernel
theorem dX3_read_81 : decode cX3_read 81 = .ok (.aload_n 0, 1) := by decide +kernel
theorem dX3_read_82 : decode cX3_read 82 = .ok (.invokevirtual 45, 3) := by decide +kernel
theorem dX3_read_85 : decode cX3_read 85 = .ok (.ifCond .eq 24, 3) := by decide +kernel
theorem dX3_read_88 : decode cX3_read 88 = .ok (.aload_n 0, 1) := by decide +kernel
theorem dX3_read_89 : decode cX3_read 89 = .ok (.getfield 32, 3) := by decide +kernel
theorem dX3_read_92 : decode cX3_read 92 = .ok (.iconst (-1), 1) := by decide +kernel
theorem dX3_read_93 : decode cX3_read 93 = .ok (.if_icmp .eq 16, 3) := by decide +kernel
theorem dX3_read_96 : decode cX3_read 96 = .ok (.aload_n 0, 1) := by decide +kernel
theorem dX3_read_97 : decode cX3_read 97 = .ok (.iconst 3, 1) := by decide +kernel
theorem dX3_read_98 : decode cX3_read 98 = .ok (.putfield 9, 3) := by decide +kernel
theorem dX3_read_101 : decode cX3_read 101 = .ok (.aload_n 0, 1) := by decide +kernel
theorem dX3_read_102 : decode cX3_read 102 = .ok (.aload_n 0, 1) := by decide +kernel
theorem dX3_read_103 : decode cX3_read 103 = .ok (.getfield 32, 3) := by decide +kernel
theorem dX3_read_106 : decode cX3_read 106 = .ok (.putfield 15, 3) := by decide +kernel
theorem dX3_read_109 : decode cX3_read 109 = .ok (.return_, 1) := by decide +kernel
theorem dX3_isSound_0 : decode cX3_isSound 0 = .ok (.aload_n 0, 1) := by decide +kernel
theorem dX3_isSound_1 : decode cX3_isSound 1 = .ok (.getfield 9, 3) := by decide +kernel
theorem dX3_isSound_4 : decode cX3_isSound 4 = .ok (.ifCond .ne 7, 3) := by decide +kernel
theorem dX3_isSound_7 : decode cX3_isSound 7 = .ok (.iconst 1, 1) := by decide +kernel
theorem dX3_isSound_8 : decode cX3_isSound 8 = .ok (.goto 4, 3) := by decide +kernel
theorem dX3_isSound_11 : decode cX3_isSound 11 = .ok (.iconst 0, 1) := by decide +kernel
theorem dX3_isSound_12 : decode cX3_isSound 12 = .ok (.ireturn, 1) := by decide +kernel
set_option maxRecDepth 20000 in
theorem ggX3_isNext_X8_kindAt : GoodIn wsX3_isNext wsX8_kindAt := goodIn_r _ [7, 8, 9, 16, 17, 18, 19] (by decide +kernel) (by decide +kernel)
set_option maxRecDepth 20000 in
theorem gX3_isNext_X8_kindAt : GoodIn wsX3_isNext (wsV RX3 66 RX8 yX8_kindAt wsX8_kindAt) := goodIn_app (goodIn_of _ (by decide +kernel)) ggX3_isNext_X8_kindAt
theorem dX3_isNext_0 : decode cX3_isNext 0 = .ok (.aload_n 0, 1) := by decide +kernel
theorem dX3_isNext_1 : decode cX3_isNext 1 = .ok (.getfield 28, 3) := by decide +kernel
theorem dX3_isNext_4 : decode cX3_isNext 4 = .ok (.aload_n 0, 1) := by decide +kernel
theorem dX3_isNext_5 : decode cX3_isNext 5 = .ok (.getfield 35, 3) := by decide +kernel
theorem dX3_isNext_8 : decode cX3_isNext 8 = .ok (.invokevirtual 66, 3) := by decide +kernel
theorem dX3_isNext_11 : decode cX3_isNext 11 = .ok (.iload_n 1, 1) := by decide +kernel
theorem dX3_isNext_12 : decode cX3_isNext 12 = .ok (.if_icmp .ne 7, 3) := by decide +kernel
theorem dX3_isNext_15 : decode cX3_isNext 15 = .ok (.iconst 1, 1) := by decide +kernel
theorem dX3_isNext_16 : decode cX3_isNext 16 = .ok (.goto 4, 3) := by decide +kernel
theorem dX3_isNext_19 : decode cX3_isNext 19 = .ok (.iconst 0, 1) := by decide +kernel
theorem dX3_isNext_20 : decode cX3_isNext 20 = .ok (.ireturn, 1) := by decide +kernel
set_option maxRecDepth 20000 in
theorem ggX4_init_X4_lay : GoodIn wsX4_init wsX4_lay := goodIn_r _ [11, 12, 5, 6, 13, 14, 15, 16, 17, 18, 19] (by decide +kernel) (by decide +kernel)
set_option maxRecDepth 20000 in
theorem gX4_init_X4_lay : GoodIn wsX4_init (wsV RX4 18 RX4 yX4_lay wsX4_lay) := goodIn_app (goodIn_of _ (by decide +kernel)) ggX4_init_X4_lay
theorem dX4_init_0 : decode cX4_init 0 = .ok (.aload_n 0, 1) := by decide +kernel
theorem dX4_init_1 : decode cX4_init 1 = .ok (.invokespecial 3, 3) := by decide +kernel
theorem dX4_init_4 : decode cX4_init 4 = .ok (.aload_n 0, 1) := by decide +kernel
theorem dX4_init_5 : decode cX4_init 5 = .ok (.bipush 9, 2) := by decide +kernel
theorem dX4_init_7 : decode cX4_init 7 = .ok (.newarray .int, 2) := by decide +kernel
theorem dX4_init_9 : decode cX4_init 9 = .ok (.putfield 9, 3) := by decide +kernel
theorem dX4_init_12 : decode cX4_init 12 = .ok (.aload_n 0, 1) := by decide +kernel
theorem dX4_init_13 : decode cX4_init 13 = .ok (.bipush 9, 2) := by decide +kernel
theorem dX4_init_15 : decode cX4_init 15 = .ok (.newarray .int, 2) := by decide +kernel
theorem dX4_init_17 : decode cX4_init 17 = .ok (.putfield 15, 3) := by decide +kernel
theorem dX4_init_20 : decode cX4_init 20 = .ok (.aload_n 0, 1) := by decide +kernel
theorem dX4_init_21 : decode cX4_init 21 = .ok (.iconst 2, 1) := by decide +kernel
theorem dX4_init_22 : decode cX4_init 22 = .ok (.invokevirtual 18, 3) := by decide +kernel
theorem dX4_init_25 : decode cX4_init 25 = .ok (.return_, 1) := by decide +kernel
set_option maxRecDepth 20000 in
theorem ggX4_lay_J7_fill_53178 : GoodIn wsX4_lay wsJ7_fill_53178 := goodIn_r _ [7] (by decide +kernel) (by decide +kernel)
set_option maxRecDepth 20000 in
theorem gX4_lay_J7_fill_53178 : GoodIn wsX4_lay (va_wsS RX4 26 yJ7_fill_53178 wsJ7_fill_53178) := goodIn_app (goodIn_of _ (by decide +kernel)) ggX4_lay_J7_fill_53178
theorem dX4_lay_0 : decode cX4_lay 0 = .ok (.aload_n 0, 1) := by decide +kernel
theorem dX4_lay_1 : decode cX4_lay 1 = .ok (.iload_n 1, 1) := by decide +kernel
theorem dX4_lay_2 : decode cX4_lay 2 = .ok (.putfield 22, 3) := by decide +kernel
theorem dX4_lay_5 : decode cX4_lay 5 = .ok (.aload_n 0, 1) := by decide +kernel
theorem dX4_lay_6 : decode cX4_lay 6 = .ok (.getfield 9, 3) := by decide +kernel
theorem dX4_lay_9 : decode cX4_lay 9 = .ok (.iconst 1, 1) := by decide +kernel
theorem dX4_lay_10 : decode cX4_lay 10 = .ok (.invokestatic 26, 3) := by decide +kernel
theorem dX4_lay_13 : decode cX4_lay 13 = .ok (.aload_n 0, 1) := by decide +kernel
theorem dX4_lay_14 : decode cX4_lay 14 = .ok (.getfield 15, 3) := by decide +kernel
theorem dX4_lay_17 : decode cX4_lay 17 = .ok (.iconst 1, 1) := by decide +kernel
theorem dX4_lay_18 : decode cX4_lay 18 = .ok (.invokestatic 26, 3) := by decide +kernel
theorem dX4_lay_21 : decode cX4_lay 21 = .ok (.return_, 1) := by decide +kernel
theorem dX4_isStop_0 : decode cX4_isStop 0 = .ok (.iload_n 1, 1) := by decide +kernel
theorem dX4_isStop_1 : decode cX4_isStop 1 = .ok (.ifCond .lt 15, 3) := by decide +kernel
theorem dX4_isStop_4 : decode cX4_isStop 4 = .ok (.iload_n 1, 1) := by decide +kernel
theorem dX4_isStop_5 : decode cX4_isStop 5 = .ok (.aload_n 0, 1) := by decide +kernel
theorem dX4_isStop_6 : decode cX4_isStop 6 = .ok (.getfield 22, 3) := by decide +kernel
theorem dX4_isStop_9 : decode cX4_isStop 9 = .ok (.if_icmp .ge 7, 3) := by decide +kernel
theorem dX4_isStop_12 : decode cX4_isStop 12 = .ok (.iconst 1, 1) := by decide +kernel
theorem dX4_isStop_13 : decode cX4_isStop 13 = .ok (.goto 4, 3) := by decide +kernel
theorem dX4_isStop_16 : decode cX4_isStop 16 = .ok (.iconst 0, 1) := by decide +kernel
theorem dX4_isStop_17 : decode cX4_isStop 17 = .ok (.ireturn, 1) := by decide +kernel
theorem dX4_hasLeg_0 : decode cX4_hasLeg 0 = .ok (.iload_n 1, 1) := by decide +kernel
theorem dX4_hasLeg_1 : decode cX4_hasLeg 1 = .ok (.ifCond .lt 17, 3) := by decide +kernel
theorem dX4_hasLeg_4 : decode cX4_hasLeg 4 = .ok (.iload_n 1, 1) := by decide +kernel
theorem dX4_hasLeg_5 : decode cX4_hasLeg 5 = .ok (.aload_n 0, 1) := by decide +kernel
theorem dX4_hasLeg_6 : decode cX4_hasLeg 6 = .ok (.getfield 22, 3) := by decide +kernel
theorem dX4_hasLeg_9 : decode cX4_hasLeg 9 = .ok (.iconst 1, 1) := by decide +kernel
theorem dX4_hasLeg_10 : decode cX4_hasLeg 10 = .ok (.isub, 1) := by decide +kernel
theorem dX4_hasLeg_11 : decode cX4_hasLeg 11 = .ok (.if_icmp .ge 7, 3) := by decide +kernel
theorem dX4_hasLeg_14 : decode cX4_hasLeg 14 = .ok (.iconst 1, 1) := by decide +kernel
theorem dX4_hasLeg_15 : decode cX4_hasLeg 15 = .ok (.goto 4, 3) := by decide +kernel
theorem dX4_hasLeg_18 : decode cX4_hasLeg 18 = .ok (.iconst 0, 1) := by decide +kernel
theorem dX4_hasLeg_19 : decode cX4_hasLeg 19 = .ok (.ireturn, 1) := by decide +kernel
theorem dX4_isStretch_0 : decode cX4_isStretch 0 = .ok (.iload_n 1, 1) := by decide +kernel
theorem dX4_isStretch_1 : decode cX4_isStretch 1 = .ok (.ifCond .lt 20, 3) := by decide +kernel
theorem dX4_isStretch_4 : decode cX4_isStretch 4 = .ok (.iload_n 1, 1) := by decide +kernel
theorem dX4_isStretch_5 : decode cX4_isStretch 5 = .ok (.iload_n 2, 1) := by decide +kernel
theorem dX4_isStretch_6 : decode cX4_isStretch 6 = .ok (.if_icmp .ge 15, 3) := by decide +kernel
theorem dX4_isStretch_9 : decode cX4_isStretch 9 = .ok (.iload_n 2, 1) := by decide +kernel
theorem dX4_isStretch_10 : decode cX4_isStretch 10 = .ok (.aload_n 0, 1) := by decide +kernel
theorem dX4_isStretch_11 : decode cX4_isStretch 11 = .ok (.getfield 22, 3) := by decide +kernel
theorem dX4_isStretch_14 : decode cX4_isStretch 14 = .ok (.if_icmp .ge 7, 3) := by decide +kernel
theorem dX4_isStretch_17 : decode cX4_isStretch 17 = .ok (.iconst 1, 1) := by decide +kernel
theorem dX4_isStretch_18 : decode cX4_isStretch 18 = .ok (.goto 4, 3) := by decide +kernel
theorem dX4_isStretch_21 : decode cX4_isStretch 21 = .ok (.iconst 0, 1) := by decide +kernel
theorem dX4_isStretch_22 : decode cX4_isStretch 22 = .ok (.ireturn, 1) := by decide +kernel
theorem dX4_hoursTo_0 : decode cX4_hoursTo 0 = .ok (.iconst 0, 1) := by decide +kernel
theorem dX4_hoursTo_1 : decode cX4_hoursTo 1 = .ok (.istore_n 2, 1) := by decide +kernel
theorem dX4_hoursTo_2 : decode cX4_hoursTo 2 = .ok (.iconst 0, 1) := by decide +kernel
theorem dX4_hoursTo_3 : decode cX4_hoursTo 3 = .ok (.istore_n 3, 1) := by decide +kernel
theorem dX4_hoursTo_4 : decode cX4_hoursTo 4 = .ok (.iload_n 3, 1) := by decide +kernel
theorem dX4_hoursTo_5 : decode cX4_hoursTo 5 = .ok (.iload_n 1, 1) := by decide +kernel
theorem dX4_hoursTo_6 : decode cX4_hoursTo 6 = .ok (.if_icmp .ge 27, 3) := by decide +kernel
theorem dX4_hoursTo_9 : decode cX4_hoursTo 9 = .ok (.iload_n 3, 1) := by decide +kernel
theorem dX4_hoursTo_10 : decode cX4_hoursTo 10 = .ok (.aload_n 0, 1) := by decide +kernel
theorem dX4_hoursTo_11 : decode cX4_hoursTo 11 = .ok (.getfield 15, 3) := by decide +kernel
theorem dX4_hoursTo_14 : decode cX4_hoursTo 14 = .ok (.arraylength, 1) := by decide +kernel
theorem dX4_hoursTo_15 : decode cX4_hoursTo 15 = .ok (.if_icmp .ge 18, 3) := by decide +kernel
theorem dX4_hoursTo_18 : decode cX4_hoursTo 18 = .ok (.iload_n 2, 1) := by decide +kernel
theorem dX4_hoursTo_19 : decode cX4_hoursTo 19 = .ok (.aload_n 0, 1) := by decide +kernel
theorem dX4_hoursTo_20 : decode cX4_hoursTo 20 = .ok (.getfield 15, 3) := by decide +kernel
theorem dX4_hoursTo_23 : decode cX4_hoursTo 23 = .ok (.iload_n 3, 1) := by decide +kernel
theorem dX4_hoursTo_24 : decode cX4_hoursTo 24 = .ok (.iaload, 1) := by decide +kernel
theorem dX4_hoursTo_25 : decode cX4_hoursTo 25 = .ok (.iadd, 1) := by decide +kernel
theorem dX4_hoursTo_26 : decode cX4_hoursTo 26 = .ok (.istore_n 2, 1) := by decide +kernel
theorem dX4_hoursTo_27 : decode cX4_hoursTo 27 = .ok (.iinc 3 1, 3) := by decide +kernel
theorem dX4_hoursTo_30 : decode cX4_hoursTo 30 = .ok (.goto (-26), 3) := by decide +kernel
theorem dX4_hoursTo_33 : decode cX4_hoursTo 33 = .ok (.iload_n 2, 1) := by decide +kernel
theorem dX4_hoursTo_34 : decode cX4_hoursTo 34 = .ok (.ireturn, 1) := by decide +kernel
set_option maxRecDepth 20000 in
theorem ggX4_allHours_X4_hoursTo : GoodIn wsX4_allHours wsX4_hoursTo := goodIn_r _ [6, 7, 8, 9, 10] (by decide +kernel) (by decide +kernel)
set_option maxRecDepth 20000 in
theorem gX4_allHours_X4_hoursTo : GoodIn wsX4_allHours (wsV RX4 32 RX4 yX4_hoursTo wsX4_hoursTo) := goodIn_app (goodIn_of _ (by decide +kernel)) ggX4_allHours_X4_hoursTo
theorem dX4_allHours_0 : decode cX4_allHours 0 = .ok (.aload_n 0, 1) := by decide +kernel
theorem dX4_allHours_1 : decode cX4_allHours 1 = .ok (.aload_n 0, 1) := by decide +kernel
theorem dX4_allHours_2 : decode cX4_allHours 2 = .ok (.getfield 22, 3) := by decide +kernel
theorem dX4_allHours_5 : decode cX4_allHours 5 = .ok (.iconst 1, 1) := by decide +kernel
theorem dX4_allHours_6 : decode cX4_allHours 6 = .ok (.isub, 1) := by decide +kernel
theorem dX4_allHours_7 : decode cX4_allHours 7 = .ok (.invokevirtual 32, 3) := by decide +kernel
theorem dX4_allHours_10 : decode cX4_allHours 10 = .ok (.ireturn, 1) := by decide +kernel
theorem dX4_allKm_0 : decode cX4_allKm 0 = .ok (.iconst 0, 1) := by decide +kernel
theorem dX4_allKm_1 : decode cX4_allKm 1 = .ok (.istore_n 1, 1) := by decide +kernel
theorem dX4_allKm_2 : decode cX4_allKm 2 = .ok (.iconst 0, 1) := by decide +kernel
theorem dX4_allKm_3 : decode cX4_allKm 3 = .ok (.istore_n 2, 1) := by decide +kernel
theorem dX4_allKm_4 : decode cX4_allKm 4 = .ok (.iload_n 2, 1) := by decide +kernel
theorem dX4_allKm_5 : decode cX4_allKm 5 = .ok (.aload_n 0, 1) := by decide +kernel
theorem dX4_allKm_6 : decode cX4_allKm 6 = .ok (.getfield 22, 3) := by decide +kernel
theorem dX4_allKm_9 : decode cX4_allKm 9 = .ok (.iconst 1, 1) := by decide +kernel
theorem dX4_allKm_10 : decode cX4_allKm 10 = .ok (.isub, 1) := by decide +kernel
theorem dX4_allKm_11 : decode cX4_allKm 11 = .ok (.if_icmp .ge 18, 3) := by decide +kernel
theorem dX4_allKm_14 : decode cX4_allKm 14 = .ok (.iload_n 1, 1) := by decide +kernel
theorem dX4_allKm_15 : decode cX4_allKm 15 = .ok (.aload_n 0, 1) := by decide +kernel
theorem dX4_allKm_16 : decode cX4_allKm 16 = .ok (.getfield 9, 3) := by decide +kernel
theorem dX4_allKm_19 : decode cX4_allKm 19 = .ok (.iload_n 2, 1) := by decide +kernel
theorem dX4_allKm_20 : decode cX4_allKm 20 = .ok (.iaload, 1) := by decide +kernel
theorem dX4_allKm_21 : decode cX4_allKm 21 = .ok (.iadd, 1) := by decide +kernel
theorem dX4_allKm_22 : decode cX4_allKm 22 = .ok (.istore_n 1, 1) := by decide +kernel
theorem dX4_allKm_23 : decode cX4_allKm 23 = .ok (.iinc 2 1, 3) := by decide +kernel
theorem dX4_allKm_26 : decode cX4_allKm 26 = .ok (.goto (-22), 3) := by decide +kernel
theorem dX4_allKm_29 : decode cX4_allKm 29 = .ok (.iload_n 1, 1) := by decide +kernel
theorem dX4_allKm_30 : decode cX4_allKm 30 = .ok (.ireturn, 1) := by decide +kernel
theorem dX4_copyFrom_0 : decode cX4_copyFrom 0 = .ok (.aload_n 0, 1) := by decide +kernel
theorem dX4_copyFrom_1 : decode cX4_copyFrom 1 = .ok (.aload_n 1, 1) := by decide +kernel
theorem dX4_copyFrom_2 : decode cX4_copyFrom 2 = .ok (.getfield 22, 3) := by decide +kernel
theorem dX4_copyFrom_5 : decode cX4_copyFrom 5 = .ok (.putfield 22, 3) := by decide +kernel
theorem dX4_copyFrom_8 : decode cX4_copyFrom 8 = .ok (.aload_n 1, 1) := by decide +kernel
theorem dX4_copyFrom_9 : decode cX4_copyFrom 9 = .ok (.getfield 9, 3) := by decide +kernel
theorem dX4_copyFrom_12 : decode cX4_copyFrom 12 = .ok (.iconst 0, 1) := by decide +kernel
theorem dX4_copyFrom_13 : decode cX4_copyFrom 13 = .ok (.aload_n 0, 1) := by decide +kernel
theorem dX4_copyFrom_14 : decode cX4_copyFrom 14 = .ok (.getfield 9, 3) := by decide +kernel
theorem dX4_copyFrom_17 : decode cX4_copyFrom 17 = .ok (.iconst 0, 1) := by decide +kernel
theorem dX4_copyFrom_18 : decode cX4_copyFrom 18 = .ok (.aload_n 0, 1) := by decide +kernel
theorem dX4_copyFrom_19 : decode cX4_copyFrom 19 = .ok (.getfield 9, 3) := by decide +kernel
theorem dX4_copyFrom_22 : decode cX4_copyFrom 22 = .ok (.arraylength, 1) := by decide +kernel
theorem dX4_copyFrom_23 : decode cX4_copyFrom 23 = .ok (.invokestatic 36, 3) := by decide +kernel
theorem dX4_copyFrom_26 : decode cX4_copyFrom 26 = .ok (.aload_n 1, 1) := by decide +kernel
theorem dX4_copyFrom_27 : decode cX4_copyFrom 27 = .ok (.getfield 15, 3) := by decide +kernel
theorem dX4_copyFrom_30 : decode cX4_copyFrom 30 = .ok (.iconst 0, 1) := by decide +kernel
theorem dX4_copyFrom_31 : decode cX4_copyFrom 31 = .ok (.aload_n 0, 1) := by decide +kernel
theorem dX4_copyFrom_32 : decode cX4_copyFrom 32 = .ok (.getfield 15, 3) := by decide +kernel
theorem dX4_copyFrom_35 : decode cX4_copyFrom 35 = .ok (.iconst 0, 1) := by decide +kernel
theorem dX4_copyFrom_36 : decode cX4_copyFrom 36 = .ok (.aload_n 0, 1) := by decide +kernel
theorem dX4_copyFrom_37 : decode cX4_copyFrom 37 = .ok (.getfield 15, 3) := by decide +kernel
theorem dX4_copyFrom_40 : decode cX4_copyFrom 40 = .ok (.arraylength, 1) := by decide +kernel
theorem dX4_copyFrom_41 : decode cX4_copyFrom 41 = .ok (.invokestatic 36, 3) := by decide +kernel
theorem dX4_copyFrom_44 : decode cX4_copyFrom 44 = .ok (.return_, 1) := by decide +kernel
theorem dX5_init_0 : decode cX5_init 0 = .ok (.aload_n 0, 1) := by decide +kernel
theorem dX5_init_1 : decode cX5_init 1 = .ok (.invokespecial 3, 3) := by decide +kernel
theorem dX5_init_4 : decode cX5_init 4 = .ok (.aload_n 0, 1) := by decide +kernel
theorem dX5_init_5 : decode cX5_init 5 = .ok (.bipush 60, 2) := by decide +kernel
theorem dX5_init_7 : decode cX5_init 7 = .ok (.newarray .int, 2) := by decide +kernel
theorem dX5_init_9 : decode cX5_init 9 = .ok (.putfield 9, 3) := by decide +kernel
theorem dX5_init_12 : decode cX5_init 12 = .ok (.aload_n 0, 1) := by decide +kernel
theorem dX5_init_13 : decode cX5_init 13 = .ok (.sipush 600, 3) := by decide +kernel
theorem dX5_init_16 : decode cX5_init 16 = .ok (.newarray .int, 2) := by decide +kernel
theorem dX5_init_18 : decode cX5_init 18 = .ok (.putfield 15, 3) := by decide +kernel
theorem dX5_init_21 : decode cX5_init 21 = .ok (.aload_n 0, 1) := by decide +kernel
theorem dX5_init_22 : decode cX5_init 22 = .ok (.sipush 600, 3) := by decide +kernel
theorem dX5_init_25 : decode cX5_init 25 = .ok (.newarray .int, 2) := by decide +kernel
theorem dX5_init_27 : decode cX5_init 27 = .ok (.putfield 18, 3) := by decide +kernel
theorem dX5_init_30 : decode cX5_init 30 = .ok (.return_, 1) := by decide +kernel
theorem dX5_isTold_0 : decode cX5_isTold 0 = .ok (.iload_n 1, 1) := by decide +kernel
theorem dX5_isTold_1 : decode cX5_isTold 1 = .ok (.ifCond .lt 22, 3) := by decide +kernel
theorem dX5_isTold_4 : decode cX5_isTold 4 = .ok (.iload_n 1, 1) := by decide +kernel
theorem dX5_isTold_5 : decode cX5_isTold 5 = .ok (.bipush 60, 2) := by decide +kernel
theorem dX5_isTold_7 : decode cX5_isTold 7 = .ok (.if_icmp .ge 16, 3) := by decide +kernel
theorem dX5_isTold_10 : decode cX5_isTold 10 = .ok (.aload_n 0, 1) := by decide +kernel
theorem dX5_isTold_11 : decode cX5_isTold 11 = .ok (.getfield 9, 3) := by decide +kernel
theorem dX5_isTold_14 : decode cX5_isTold 14 = .ok (.iload_n 1, 1) := by decide +kernel
theorem dX5_isTold_15 : decode cX5_isTold 15 = .ok (.iaload, 1) := by decide +kernel
theorem dX5_isTold_16 : decode cX5_isTold 16 = .ok (.ifCond .le 7, 3) := by decide +kernel
theorem dX5_isTold_19 : decode cX5_isTold 19 = .ok (.iconst 1, 1) := by decide +kernel
theorem dX5_isTold_20 : decode cX5_isTold 20 = .ok (.goto 4, 3) := by decide +kernel
theorem dX5_isTold_23 : decode cX5_isTold 23 = .ok (.iconst 0, 1) := by decide +kernel
theorem dX5_isTold_24 : decode cX5_isTold 24 = .ok (.ireturn, 1) := by decide +kernel
set_option maxRecDepth 20000 in
theorem ggX5_hasBerth_X5_isTold : GoodIn wsX5_hasBerth wsX5_isTold := goodIn_r _ [6, 1, 7, 8, 9, 10] (by decide +kernel) (by decide +kernel)
set_option maxRecDepth 20000 in
theorem gX5_hasBerth_X5_isTold : GoodIn wsX5_hasBerth (wsV RX5 21 RX5 yX5_isTold wsX5_isTold) := goodIn_app (goodIn_of _ (by decide +kernel)) ggX5_hasBerth_X5_isTold
theorem dX5_hasBerth_0 : decode cX5_hasBerth 0 = .ok (.aload_n 0, 1) := by decide +kernel
theorem dX5_hasBerth_1 : decode cX5_hasBerth 1 = .ok (.iload_n 1, 1) := by decide +kernel
theorem dX5_hasBerth_2 : decode cX5_hasBerth 2 = .ok (.invokevirtual 21, 3) := by decide +kernel
theorem dX5_hasBerth_5 : decode cX5_hasBerth 5 = .ok (.ifCond .eq 21, 3) := by decide +kernel
theorem dX5_hasBerth_8 : decode cX5_hasBerth 8 = .ok (.iload_n 2, 1) := by decide +kernel
theorem dX5_hasBerth_9 : decode cX5_hasBerth 9 = .ok (.ifCond .lt 17, 3) := by decide +kernel
theorem dX5_hasBerth_12 : decode cX5_hasBerth 12 = .ok (.iload_n 2, 1) := by decide +kernel
theorem dX5_hasBerth_13 : decode cX5_hasBerth 13 = .ok (.aload_n 0, 1) := by decide +kernel
theorem dX5_hasBerth_14 : decode cX5_hasBerth 14 = .ok (.getfield 9, 3) := by decide +kernel
theorem dX5_hasBerth_17 : decode cX5_hasBerth 17 = .ok (.iload_n 1, 1) := by decide +kernel
theorem dX5_hasBerth_18 : decode cX5_hasBerth 18 = .ok (.iaload, 1) := by decide +kernel
theorem dX5_hasBerth_19 : decode cX5_hasBerth 19 = .ok (.if_icmp .ge 7, 3) := by decide +kernel
theorem dX5_hasBerth_22 : decode cX5_hasBerth 22 = .ok (.iconst 1, 1) := by decide +kernel
theorem dX5_hasBerth_23 : decode cX5_hasBerth 23 = .ok (.goto 4, 3) := by decide +kernel
theorem dX5_hasBerth_26 : decode cX5_hasBerth 26 = .ok (.iconst 0, 1) := by decide +kernel
theorem dX5_hasBerth_27 : decode cX5_hasBerth 27 = .ok (.ireturn, 1) := by decide +kernel
theorem dX5_add_0 : decode cX5_add 0 = .ok (.aload_n 0, 1) := by decide +kernel
theorem dX5_add_1 : decode cX5_add 1 = .ok (.dup, 1) := by decide +kernel
theorem dX5_add_2 : decode cX5_add 2 = .ok (.getfield 25, 3) := by decide +kernel
theorem dX5_add_5 : decode cX5_add 5 = .ok (.iconst 1, 1) := by decide +kernel
theorem dX5_add_6 : decode cX5_add 6 = .ok (.iadd, 1) := by decide +kernel
theorem dX5_add_7 : decode cX5_add 7 = .ok (.putfield 25, 3) := by decide +kernel
theorem dX5_add_10 : decode cX5_add 10 = .ok (.aload_n 0, 1) := by decide +kernel
theorem dX5_add_11 : decode cX5_add 11 = .ok (.getfield 9, 3) := by decide +kernel
theorem dX5_add_14 : decode cX5_add 14 = .ok (.iload_n 1, 1) := by decide +kernel
theorem dX5_add_15 : decode cX5_add 15 = .ok (.iload_n 2, 1) := by decide +kernel
theorem dX5_add_16 : decode cX5_add 16 = .ok (.iastore, 1) := by decide +kernel
theorem dX5_add_17 : decode cX5_add 17 = .ok (.aload_n 3, 1) := by decide +kernel
theorem dX5_add_18 : decode cX5_add 18 = .ok (.iconst 0, 1) := by decide +kernel
theorem dX5_add_19 : decode cX5_add 19 = .ok (.aload_n 0, 1) := by decide +kernel
theorem dX5_add_20 : decode cX5_add 20 = .ok (.getfield 15, 3) := by decide +kernel
theorem dX5_add_23 : decode cX5_add 23 = .ok (.iload_n 1, 1) := by decide +kernel
theorem dX5_add_24 : decode cX5_add 24 = .ok (.bipush 10, 2) := by decide +kernel
theorem dX5_add_26 : decode cX5_add 26 = .ok (.imul, 1) := by decide +kernel
theorem dX5_add_27 : decode cX5_add 27 = .ok (.bipush 10, 2) := by decide +kernel
theorem dX5_add_29 : decode cX5_add 29 = .ok (.invokestatic 29, 3) := by decide +kernel
theorem dX5_add_32 : decode cX5_add 32 = .ok (.return_, 1) := by decide +kernel
theorem dX5_copyFrom_0 : decode cX5_copyFrom 0 = .ok (.aload_n 0, 1) := by decide +kernel
theorem dX5_copyFrom_1 : decode cX5_copyFrom 1 = .ok (.aload_n 1, 1) := by decide +kernel
theorem dX5_copyFrom_2 : decode cX5_copyFrom 2 = .ok (.getfield 25, 3) := by decide +kernel
theorem dX5_copyFrom_5 : decode cX5_copyFrom 5 = .ok (.putfield 25, 3) := by decide +kernel
theorem dX5_copyFrom_8 : decode cX5_copyFrom 8 = .ok (.aload_n 1, 1) := by decide +kernel
theorem dX5_copyFrom_9 : decode cX5_copyFrom 9 = .ok (.getfield 9, 3) := by decide +kernel
theorem dX5_copyFrom_12 : decode cX5_copyFrom 12 = .ok (.iconst 0, 1) := by decide +kernel
theorem dX5_copyFrom_13 : decode cX5_copyFrom 13 = .ok (.aload_n 0, 1) := by decide +kernel
theorem dX5_copyFrom_14 : decode cX5_copyFrom 14 = .ok (.getfield 9, 3) := by decide +kernel
theorem dX5_copyFrom_17 : decode cX5_copyFrom 17 = .ok (.iconst 0, 1) := by decide +kernel
theorem dX5_copyFrom_18 : decode cX5_copyFrom 18 = .ok (.aload_n 0, 1) := by decide +kernel
theorem dX5_copyFrom_19 : decode cX5_copyFrom 19 = .ok (.getfield 9, 3) := by decide +kernel
theorem dX5_copyFrom_22 : decode cX5_copyFrom 22 = .ok (.arraylength, 1) := by decide +kernel
theorem dX5_copyFrom_23 : decode cX5_copyFrom 23 = .ok (.invokestatic 29, 3) := by decide +kernel
theorem dX5_copyFrom_26 : decode cX5_copyFrom 26 = .ok (.aload_n 1, 1) := by decide +kernel
theorem dX5_copyFrom_27 : decode cX5_copyFrom 27 = .ok (.getfield 15, 3) := by decide +kernel
theorem dX5_copyFrom_30 : decode cX5_copyFrom 30 = .ok (.iconst 0, 1) := by decide +kernel
theorem dX5_copyFrom_31 : decode cX5_copyFrom 31 = .ok (.aload_n 0, 1) := by decide +kernel
theorem dX5_copyFrom_32 : decode cX5_copyFrom 32 = .ok (.getfield 15, 3) := by decide +kernel
theorem dX5_copyFrom_35 : decode cX5_copyFrom 35 = .ok (.iconst 0, 1) := by decide +kernel
theorem dX5_copyFrom_36 : decode cX5_copyFrom 36 = .ok (.aload_n 0, 1) := by decide +kernel
theorem dX5_copyFrom_37 : decode cX5_copyFrom 37 = .ok (.getfield 15, 3) := by decide +kernel
theorem dX5_copyFrom_40 : decode cX5_copyFrom 40 = .ok (.arraylength, 1) := by decide +kernel
theorem dX5_copyFrom_41 : decode cX5_copyFrom 41 = .ok (.invokestatic 29, 3) := by decide +kernel
theorem dX5_copyFrom_44 : decode cX5_copyFrom 44 = .ok (.aload_n 1, 1) := by decide +kernel
theorem dX5_copyFrom_45 : decode cX5_copyFrom 45 = .ok (.getfield 18, 3) := by decide +kernel
theorem dX5_copyFrom_48 : decode cX5_copyFrom 48 = .ok (.iconst 0, 1) := by decide +kernel
theorem dX5_copyFrom_49 : decode cX5_copyFrom 49 = .ok (.aload_n 0, 1) := by decide +kernel
theorem dX5_copyFrom_50 : decode cX5_copyFrom 50 = .ok (.getfield 18, 3) := by decide +kernel
theorem dX5_copyFrom_53 : decode cX5_copyFrom 53 = .ok (.iconst 0, 1) := by decide +kernel
theorem dX5_copyFrom_54 : decode cX5_copyFrom 54 = .ok (.aload_n 0, 1) := by decide +kernel
theorem dX5_copyFrom_55 : decode cX5_copyFrom 55 = .ok (.getfield 18, 3) := by decide +kernel
theorem dX5_copyFrom_58 : decode cX5_copyFrom 58 = .ok (.arraylength, 1) := by decide +kernel
theorem dX5_copyFrom_59 : decode cX5_copyFrom 59 = .ok (.invokestatic 29, 3) := by decide +kernel
theorem dX5_copyFrom_62 : decode cX5_copyFrom 62 = .ok (.return_, 1) := by decide +kernel
theorem dX6_init_0 : decode cX6_init 0 = .ok (.aload_n 0, 1) := by decide +kernel
theorem dX6_init_1 : decode cX6_init 1 = .ok (.invokespecial 3, 3) := by decide +kernel
theorem dX6_init_4 : decode cX6_init 4 = .ok (.aload_n 0, 1) := by decide +kernel
theorem dX6_init_5 : decode cX6_init 5 = .ok (.sipush 400, 3) := by decide +kernel
theorem dX6_init_8 : decode cX6_init 8 = .ok (.newarray .int, 2) := by decide +kernel
theorem dX6_init_10 : decode cX6_init 10 = .ok (.putfield 9, 3) := by decide +kernel
theorem dX6_init_13 : decode cX6_init 13 = .ok (.return_, 1) := by decide +kernel
theorem dX6_append_0 : decode cX6_append 0 = .ok (.bipush 24, 2) := by decide +kernel
theorem dX6_append_2 : decode cX6_append 2 = .ok (.istore_n 2, 1) := by decide +kernel
theorem dX6_append_3 : decode cX6_append 3 = .ok (.iload_n 2, 1) := by decide +kernel
theorem dX6_append_4 : decode cX6_append 4 = .ok (.ifCond .lt 45, 3) := by decide +kernel
theorem dX6_append_7 : decode cX6_append 7 = .ok (.aload_n 0, 1) := by decide +kernel
theorem dX6_append_8 : decode cX6_append 8 = .ok (.getfield 15, 3) := by decide +kernel
theorem dX6_append_11 : decode cX6_append 11 = .ok (.sipush 400, 3) := by decide +kernel
theorem dX6_append_14 : decode cX6_append 14 = .ok (.if_icmp .ge 35, 3) := by decide +kernel
theorem dX6_append_17 : decode cX6_append 17 = .ok (.aload_n 0, 1) := by decide +kernel
theorem dX6_append_18 : decode cX6_append 18 = .ok (.getfield 9, 3) := by decide +kernel
theorem dX6_append_21 : decode cX6_append 21 = .ok (.aload_n 0, 1) := by decide +kernel
theorem dX6_append_22 : decode cX6_append 22 = .ok (.getfield 15, 3) := by decide +kernel
theorem dX6_append_25 : decode cX6_append 25 = .ok (.iload_n 1, 1) := by decide +kernel
theorem dX6_append_26 : decode cX6_append 26 = .ok (.iload_n 2, 1) := by decide +kernel
theorem dX6_append_27 : decode cX6_append 27 = .ok (.ishr, 1) := by decide +kernel
theorem dX6_append_28 : decode cX6_append 28 = .ok (.sipush 255, 3) := by decide +kernel
theorem dX6_append_31 : decode cX6_append 31 = .ok (.iand, 1) := by decide +kernel
theorem dX6_append_32 : decode cX6_append 32 = .ok (.iastore, 1) := by decide +kernel
theorem dX6_append_33 : decode cX6_append 33 = .ok (.aload_n 0, 1) := by decide +kernel
theorem dX6_append_34 : decode cX6_append 34 = .ok (.dup, 1) := by decide +kernel
theorem dX6_append_35 : decode cX6_append 35 = .ok (.getfield 15, 3) := by decide +kernel
theorem dX6_append_38 : decode cX6_append 38 = .ok (.iconst 1, 1) := by decide +kernel
theorem dX6_append_39 : decode cX6_append 39 = .ok (.iadd, 1) := by decide +kernel
theorem dX6_append_40 : decode cX6_append 40 = .ok (.putfield 15, 3) := by decide +kernel
theorem dX6_append_43 : decode cX6_append 43 = .ok (.iinc 2 (-8), 3) := by decide +kernel
theorem dX6_append_46 : decode cX6_append 46 = .ok (.goto (-43), 3) := by decide +kernel
theorem dX6_append_49 : decode cX6_append 49 = .ok (.return_, 1) := by decide +kernel
theorem dX7_init_0 : decode cX7_init 0 = .ok (.aload_n 0, 1) := by decide +kernel
theorem dX7_init_1 : decode cX7_init 1 = .ok (.invokespecial 3, 3) := by decide +kernel
theorem dX7_init_4 : decode cX7_init 4 = .ok (.aload_n 0, 1) := by decide +kernel
theorem dX7_init_5 : decode cX7_init 5 = .ok (.sipush 300, 3) := by decide +kernel
theorem dX7_init_8 : decode cX7_init 8 = .ok (.newarray .int, 2) := by decide +kernel
theorem dX7_init_10 : decode cX7_init 10 = .ok (.putfield 9, 3) := by decide +kernel
theorem dX7_init_13 : decode cX7_init 13 = .ok (.aload_n 0, 1) := by decide +kernel
theorem dX7_init_14 : decode cX7_init 14 = .ok (.sipush 300, 3) := by decide +kernel
theorem dX7_init_17 : decode cX7_init 17 = .ok (.newarray .int, 2) := by decide +kernel
theorem dX7_init_19 : decode cX7_init 19 = .ok (.putfield 15, 3) := by decide +kernel
theorem dX7_init_22 : decode cX7_init 22 = .ok (.aload_n 0, 1) := by decide +kernel
theorem dX7_init_23 : decode cX7_init 23 = .ok (.sipush 300, 3) := by decide +kernel
theorem dX7_init_26 : decode cX7_init 26 = .ok (.newarray .int, 2) := by decide +kernel
theorem dX7_init_28 : decode cX7_init 28 = .ok (.putfield 18, 3) := by decide +kernel
theorem dX7_init_31 : decode cX7_init 31 = .ok (.aload_n 0, 1) := by decide +kernel
theorem dX7_init_32 : decode cX7_init 32 = .ok (.sipush 300, 3) := by decide +kernel
theorem dX7_init_35 : decode cX7_init 35 = .ok (.newarray .int, 2) := by decide +kernel
theorem dX7_init_37 : decode cX7_init 37 = .ok (.putfield 21, 3) := by decide +kernel
theorem dX7_init_40 : decode cX7_init 40 = .ok (.aload_n 0, 1) := by decide +kernel
theorem dX7_init_41 : decode cX7_init 41 = .ok (.sipush 300, 3) := by decide +kernel
theorem dX7_init_44 : decode cX7_init 44 = .ok (.newarray .int, 2) := by decide +kernel
theorem dX7_init_46 : decode cX7_init 46 = .ok (.putfield 24, 3) := by decide +kernel
theorem dX7_init_49 : decode cX7_init 49 = .ok (.aload_n 0, 1) := by decide +kernel
theorem dX7_init_50 : decode cX7_init 50 = .ok (.sipush 300, 3) := by decide +kernel
theorem dX7_init_53 : decode cX7_init 53 = .ok (.newarray .int, 2) := by decide +kernel
theorem dX7_init_55 : decode cX7_init 55 = .ok (.putfield 27, 3) := by decide +kernel
theorem dX7_init_58 : decode cX7_init 58 = .ok (.return_, 1) := by decide +kernel
theorem dX7_has_0 : decode cX7_has 0 = .ok (.iload_n 1, 1) := by decide +kernel
theorem dX7_has_1 : decode cX7_has 1 = .ok (.ifCond .lt 15, 3) := by decide +kernel
theorem dX7_has_4 : decode cX7_has 4 = .ok (.iload_n 1, 1) := by decide +kernel
theorem dX7_has_5 : decode cX7_has 5 = .ok (.aload_n 0, 1) := by decide +kernel
theorem dX7_has_6 : decode cX7_has 6 = .ok (.getfield 30, 3) := by decide +kernel
theorem dX7_has_9 : decode cX7_has 9 = .ok (.if_icmp .ge 7, 3) := by decide +kernel
theorem dX7_has_12 : decode cX7_has 12 = .ok (.iconst 1, 1) := by decide +kernel
theorem dX7_has_13 : decode cX7_has 13 = .ok (.goto 4, 3) := by decide +kernel
theorem dX7_has_16 : decode cX7_has 16 = .ok (.iconst 0, 1) := by decide +kernel
theorem dX7_has_17 : decode cX7_has 17 = .ok (.ireturn, 1) := by decide +kernel
theorem dX7_isFull_0 : decode cX7_isFull 0 = .ok (.aload_n 0, 1) := by decide +kernel
theorem dX7_isFull_1 : decode cX7_isFull 1 = .ok (.getfield 30, 3) := by decide +kernel
theorem dX7_isFull_4 : decode cX7_isFull 4 = .ok (.sipush 300, 3) := by decide +kernel
theorem dX7_isFull_7 : decode cX7_isFull 7 = .ok (.if_icmp .lt 7, 3) := by decide +kernel
theorem dX7_isFull_10 : decode cX7_isFull 10 = .ok (.iconst 1, 1) := by decide +kernel
theorem dX7_isFull_11 : decode cX7_isFull 11 = .ok (.goto 4, 3) := by decide +kernel
theorem dX7_isFull_14 : decode cX7_isFull 14 = .ok (.iconst 0, 1) := by decide +kernel
theorem dX7_isFull_15 : decode cX7_isFull 15 = .ok (.ireturn, 1) := by decide +kernel
theorem dX7_copyFrom_0 : decode cX7_copyFrom 0 = .ok (.aload_n 0, 1) := by decide +kernel
theorem dX7_copyFrom_1 : decode cX7_copyFrom 1 = .ok (.aload_n 1, 1) := by decide +kernel
theorem dX7_copyFrom_2 : decode cX7_copyFrom 2 = .ok (.getfield 30, 3) := by decide +kernel
theorem dX7_copyFrom_5 : decode cX7_copyFrom 5 = .ok (.putfield 30, 3) := by decide +kernel
theorem dX7_copyFrom_8 : decode cX7_copyFrom 8 = .ok (.aload_n 1, 1) := by decide +kernel
theorem dX7_copyFrom_9 : decode cX7_copyFrom 9 = .ok (.getfield 9, 3) := by decide +kernel
theorem dX7_copyFrom_12 : decode cX7_copyFrom 12 = .ok (.iconst 0, 1) := by decide +kernel
theorem dX7_copyFrom_13 : decode cX7_copyFrom 13 = .ok (.aload_n 0, 1) := by decide +kernel
theorem dX7_copyFrom_14 : decode cX7_copyFrom 14 = .ok (.getfield 9, 3) := by decide +kernel
theorem dX7_copyFrom_17 : decode cX7_copyFrom 17 = .ok (.iconst 0, 1) := by decide +kernel
theorem dX7_copyFrom_18 : decode cX7_copyFrom 18 = .ok (.aload_n 0, 1) := by decide +kernel
theorem dX7_copyFrom_19 : decode cX7_copyFrom 19 = .ok (.getfield 30, 3) := by decide +kernel
theorem dX7_copyFrom_22 : decode cX7_copyFrom 22 = .ok (.invokestatic 46, 3) := by decide +kernel
theorem dX7_copyFrom_25 : decode cX7_copyFrom 25 = .ok (.aload_n 1, 1) := by decide +kernel
theorem dX7_copyFrom_26 : decode cX7_copyFrom 26 = .ok (.getfield 15, 3) := by decide +kernel
theorem dX7_copyFrom_29 : decode cX7_copyFrom 29 = .ok (.iconst 0, 1) := by decide +kernel
theorem dX7_copyFrom_30 : decode cX7_copyFrom 30 = .ok (.aload_n 0, 1) := by decide +kernel
theorem dX7_copyFrom_31 : decode cX7_copyFrom 31 = .ok (.getfield 15, 3) := by decide +kernel
theorem dX7_copyFrom_34 : decode cX7_copyFrom 34 = .ok (.iconst 0, 1) := by decide +kernel
theorem dX7_copyFrom_35 : decode cX7_copyFrom 35 = .ok (.aload_n 0, 1) := by decide +kernel
theorem dX7_copyFrom_36 : decode cX7_copyFrom 36 = .ok (.getfield 30, 3) := by decide +kernel
theorem dX7_copyFrom_39 : decode cX7_copyFrom 39 = .ok (.invokestatic 46, 3) := by decide +kernel
theorem dX7_copyFrom_42 : decode cX7_copyFrom 42 = .ok (.aload_n 1, 1) := by decide +kernel
theorem dX7_copyFrom_43 : decode cX7_copyFrom 43 = .ok (.getfield 18, 3) := by decide +kernel
theorem dX7_copyFrom_46 : decode cX7_copyFrom 46 = .ok (.iconst 0, 1) := by decide +kernel
theorem dX7_copyFrom_47 : decode cX7_copyFrom 47 = .ok (.aload_n 0, 1) := by decide +kernel
theorem dX7_copyFrom_48 : decode cX7_copyFrom 48 = .ok (.getfield 18, 3) := by decide +kernel
theorem dX7_copyFrom_51 : decode cX7_copyFrom 51 = .ok (.iconst 0, 1) := by decide +kernel
theorem dX7_copyFrom_52 : decode cX7_copyFrom 52 = .ok (.aload_n 0, 1) := by decide +kernel
theorem dX7_copyFrom_53 : decode cX7_copyFrom 53 = .ok (.getfield 30, 3) := by decide +kernel
theorem dX7_copyFrom_56 : decode cX7_copyFrom 56 = .ok (.invokestatic 46, 3) := by decide +kernel
theorem dX7_copyFrom_59 : decode cX7_copyFrom 59 = .ok (.aload_n 1, 1) := by decide +kernel
theorem dX7_copyFrom_60 : decode cX7_copyFrom 60 = .ok (.getfield 21, 3) := by decide +kernel
theorem dX7_copyFrom_63 : decode cX7_copyFrom 63 = .ok (.iconst 0, 1) := by decide +kernel
theorem dX7_copyFrom_64 : decode cX7_copyFrom 64 = .ok (.aload_n 0, 1) := by decide +kernel
theorem dX7_copyFrom_65 : decode cX7_copyFrom 65 = .ok (.getfield 21, 3) := by decide +kernel
theorem dX7_copyFrom_68 : decode cX7_copyFrom 68 = .ok (.iconst 0, 1) := by decide +kernel
theorem dX7_copyFrom_69 : decode cX7_copyFrom 69 = .ok (.aload_n 0, 1) := by decide +kernel
theorem dX7_copyFrom_70 : decode cX7_copyFrom 70 = .ok (.getfield 30, 3) := by decide +kernel
theorem dX7_copyFrom_73 : decode cX7_copyFrom 73 = .ok (.invokestatic 46, 3) := by decide +kernel
theorem dX7_copyFrom_76 : decode cX7_copyFrom 76 = .ok (.aload_n 1, 1) := by decide +kernel
theorem dX7_copyFrom_77 : decode cX7_copyFrom 77 = .ok (.getfield 24, 3) := by decide +kernel
end
section
theorem dX7_copyFrom_80 : decode cX7_copyFrom 80 = .ok (.iconst 0, 1) := by decide +kernel
theorem dX7_copyFrom_81 : decode cX7_copyFrom 81 = .ok (.aload_n 0, 1) := by decide +kernel
theorem dX7_copyFrom_82 : decode cX7_copyFrom 82 = .ok (.getfield 24, 3) := by decide +kernel
theorem dX7_copyFrom_85 : decode cX7_copyFrom 85 = .ok (.iconst 0, 1) := by decide +kernel
theorem dX7_copyFrom_86 : decode cX7_copyFrom 86 = .ok (.aload_n 0, 1) := by decide +kernel
theorem dX7_copyFrom_87 : decode cX7_copyFrom 87 = .ok (.getfield 30, 3) := by decide +kernel
theorem dX7_copyFrom_90 : decode cX7_copyFrom 90 = .ok (.invokestatic 46, 3) := by decide +kernel
theorem dX7_copyFrom_93 : decode cX7_copyFrom 93 = .ok (.aload_n 1, 1) := by decide +kernel
theorem dX7_copyFrom_94 : decode cX7_copyFrom 94 = .ok (.getfield 27, 3) := by decide +kernel
theorem dX7_copyFrom_97 : decode cX7_copyFrom 97 = .ok (.iconst 0, 1) := by decide +kernel
theorem dX7_copyFrom_98 : decode cX7_copyFrom 98 = .ok (.aload_n 0, 1) := by decide +kernel
theorem dX7_copyFrom_99 : decode cX7_copyFrom 99 = .ok (.getfield 27, 3) := by decide +kernel
theorem dX7_copyFrom_102 : decode cX7_copyFrom 102 = .ok (.iconst 0, 1) := by decide +kernel
theorem dX7_copyFrom_103 : decode cX7_copyFrom 103 = .ok (.aload_n 0, 1) := by decide +kernel
theorem dX7_copyFrom_104 : decode cX7_copyFrom 104 = .ok (.getfield 30, 3) := by decide +kernel
theorem dX7_copyFrom_107 : decode cX7_copyFrom 107 = .ok (.invokestatic 46, 3) := by decide +kernel
theorem dX7_copyFrom_110 : decode cX7_copyFrom 110 = .ok (.return_, 1) := by decide +kernel
theorem dX8_init_0 : decode cX8_init 0 = .ok (.aload_n 0, 1) := by decide +kernel
theorem dX8_init_1 : decode cX8_init 1 = .ok (.invokespecial 3, 3) := by decide +kernel
theorem dX8_init_4 : decode cX8_init 4 = .ok (.aload_n 0, 1) := by decide +kernel
theorem dX8_init_5 : decode cX8_init 5 = .ok (.sipush 401, 3) := by decide +kernel
theorem dX8_init_8 : decode cX8_init 8 = .ok (.newarray .int, 2) := by decide +kernel
theorem dX8_init_10 : decode cX8_init 10 = .ok (.putfield 9, 3) := by decide +kernel
theorem dX8_init_13 : decode cX8_init 13 = .ok (.aload_n 0, 1) := by decide +kernel
theorem dX8_init_14 : decode cX8_init 14 = .ok (.sipush 401, 3) := by decide +kernel
theorem dX8_init_17 : decode cX8_init 17 = .ok (.newarray .int, 2) := by decide +kernel
theorem dX8_init_19 : decode cX8_init 19 = .ok (.putfield 15, 3) := by decide +kernel
theorem dX8_init_22 : decode cX8_init 22 = .ok (.aload_n 0, 1) := by decide +kernel
theorem dX8_init_23 : decode cX8_init 23 = .ok (.sipush 401, 3) := by decide +kernel
theorem dX8_init_26 : decode cX8_init 26 = .ok (.newarray .int, 2) := by decide +kernel
theorem dX8_init_28 : decode cX8_init 28 = .ok (.putfield 18, 3) := by decide +kernel
theorem dX8_init_31 : decode cX8_init 31 = .ok (.return_, 1) := by decide +kernel
set_option maxRecDepth 20000 in
theorem ggX8_split_X8_add : GoodIn wsX8_split wsX8_add := goodIn_r _ [80, 1, 81, 82, 83, 90, 91, 92, 93] (by decide +kernel) (by decide +kernel)
set_option maxRecDepth 20000 in
theorem gX8_split_X8_add : GoodIn wsX8_split (wsV RX8 38 RX8 yX8_add wsX8_add) := goodIn_app (goodIn_of _ (by decide +kernel)) ggX8_split_X8_add
theorem dX8_split_0 : decode cX8_split 0 = .ok (.aload_n 0, 1) := by decide +kernel
theorem dX8_split_1 : decode cX8_split 1 = .ok (.iconst 0, 1) := by decide +kernel
theorem dX8_split_2 : decode cX8_split 2 = .ok (.putfield 21, 3) := by decide +kernel
theorem dX8_split_5 : decode cX8_split 5 = .ok (.iconst 0, 1) := by decide +kernel
theorem dX8_split_6 : decode cX8_split 6 = .ok (.istore_n 2, 1) := by decide +kernel
theorem dX8_split_7 : decode cX8_split 7 = .ok (.iload_n 2, 1) := by decide +kernel
theorem dX8_split_8 : decode cX8_split 8 = .ok (.aload_n 1, 1) := by decide +kernel
theorem dX8_split_9 : decode cX8_split 9 = .ok (.getfield 25, 3) := by decide +kernel
theorem dX8_split_12 : decode cX8_split 12 = .ok (.if_icmp .ge 19, 3) := by decide +kernel
theorem dX8_split_15 : decode cX8_split 15 = .ok (.iload_n 2, 1) := by decide +kernel
theorem dX8_split_16 : decode cX8_split 16 = .ok (.iconst 1, 1) := by decide +kernel
theorem dX8_split_17 : decode cX8_split 17 = .ok (.aload_n 0, 1) := by decide +kernel
theorem dX8_split_18 : decode cX8_split 18 = .ok (.aload_n 1, 1) := by decide +kernel
theorem dX8_split_19 : decode cX8_split 19 = .ok (.iload_n 2, 1) := by decide +kernel
theorem dX8_split_20 : decode cX8_split 20 = .ok (.invokevirtual 28, 3) := by decide +kernel
theorem dX8_split_23 : decode cX8_split 23 = .ok (.invokestatic 32, 3) := by decide +kernel
theorem dX8_split_26 : decode cX8_split 26 = .ok (.iadd, 1) := by decide +kernel
theorem dX8_split_27 : decode cX8_split 27 = .ok (.istore_n 2, 1) := by decide +kernel
theorem dX8_split_28 : decode cX8_split 28 = .ok (.goto (-21), 3) := by decide +kernel
theorem dX8_split_31 : decode cX8_split 31 = .ok (.aload_n 0, 1) := by decide +kernel
theorem dX8_split_32 : decode cX8_split 32 = .ok (.bipush 20, 2) := by decide +kernel
theorem dX8_split_34 : decode cX8_split 34 = .ok (.iconst 0, 1) := by decide +kernel
theorem dX8_split_35 : decode cX8_split 35 = .ok (.aload_n 1, 1) := by decide +kernel
theorem dX8_split_36 : decode cX8_split 36 = .ok (.getfield 25, 3) := by decide +kernel
theorem dX8_split_39 : decode cX8_split 39 = .ok (.invokevirtual 38, 3) := by decide +kernel
theorem dX8_split_42 : decode cX8_split 42 = .ok (.return_, 1) := by decide +kernel
theorem dX8_kindAt_0 : decode cX8_kindAt 0 = .ok (.iload_n 1, 1) := by decide +kernel
theorem dX8_kindAt_1 : decode cX8_kindAt 1 = .ok (.ifCond .lt 20, 3) := by decide +kernel
theorem dX8_kindAt_4 : decode cX8_kindAt 4 = .ok (.iload_n 1, 1) := by decide +kernel
theorem dX8_kindAt_5 : decode cX8_kindAt 5 = .ok (.aload_n 0, 1) := by decide +kernel
theorem dX8_kindAt_6 : decode cX8_kindAt 6 = .ok (.getfield 21, 3) := by decide +kernel
theorem dX8_kindAt_9 : decode cX8_kindAt 9 = .ok (.if_icmp .ge 12, 3) := by decide +kernel
theorem dX8_kindAt_12 : decode cX8_kindAt 12 = .ok (.aload_n 0, 1) := by decide +kernel
theorem dX8_kindAt_13 : decode cX8_kindAt 13 = .ok (.getfield 9, 3) := by decide +kernel
theorem dX8_kindAt_16 : decode cX8_kindAt 16 = .ok (.iload_n 1, 1) := by decide +kernel
theorem dX8_kindAt_17 : decode cX8_kindAt 17 = .ok (.iaload, 1) := by decide +kernel
theorem dX8_kindAt_18 : decode cX8_kindAt 18 = .ok (.goto 5, 3) := by decide +kernel
theorem dX8_kindAt_21 : decode cX8_kindAt 21 = .ok (.bipush 20, 2) := by decide +kernel
theorem dX8_kindAt_23 : decode cX8_kindAt 23 = .ok (.ireturn, 1) := by decide +kernel
theorem dX8_add_0 : decode cX8_add 0 = .ok (.aload_n 0, 1) := by decide +kernel
theorem dX8_add_1 : decode cX8_add 1 = .ok (.getfield 21, 3) := by decide +kernel
theorem dX8_add_4 : decode cX8_add 4 = .ok (.aload_n 0, 1) := by decide +kernel
theorem dX8_add_5 : decode cX8_add 5 = .ok (.getfield 9, 3) := by decide +kernel
theorem dX8_add_8 : decode cX8_add 8 = .ok (.arraylength, 1) := by decide +kernel
theorem dX8_add_9 : decode cX8_add 9 = .ok (.if_icmp .ge 43, 3) := by decide +kernel
theorem dX8_add_12 : decode cX8_add 12 = .ok (.aload_n 0, 1) := by decide +kernel
theorem dX8_add_13 : decode cX8_add 13 = .ok (.getfield 9, 3) := by decide +kernel
theorem dX8_add_16 : decode cX8_add 16 = .ok (.aload_n 0, 1) := by decide +kernel
theorem dX8_add_17 : decode cX8_add 17 = .ok (.getfield 21, 3) := by decide +kernel
theorem dX8_add_20 : decode cX8_add 20 = .ok (.iload_n 1, 1) := by decide +kernel
theorem dX8_add_21 : decode cX8_add 21 = .ok (.iastore, 1) := by decide +kernel
theorem dX8_add_22 : decode cX8_add 22 = .ok (.aload_n 0, 1) := by decide +kernel
theorem dX8_add_23 : decode cX8_add 23 = .ok (.getfield 15, 3) := by decide +kernel
theorem dX8_add_26 : decode cX8_add 26 = .ok (.aload_n 0, 1) := by decide +kernel
theorem dX8_add_27 : decode cX8_add 27 = .ok (.getfield 21, 3) := by decide +kernel
theorem dX8_add_30 : decode cX8_add 30 = .ok (.iload_n 2, 1) := by decide +kernel
theorem dX8_add_31 : decode cX8_add 31 = .ok (.iastore, 1) := by decide +kernel
theorem dX8_add_32 : decode cX8_add 32 = .ok (.aload_n 0, 1) := by decide +kernel
theorem dX8_add_33 : decode cX8_add 33 = .ok (.getfield 18, 3) := by decide +kernel
theorem dX8_add_36 : decode cX8_add 36 = .ok (.aload_n 0, 1) := by decide +kernel
theorem dX8_add_37 : decode cX8_add 37 = .ok (.getfield 21, 3) := by decide +kernel
theorem dX8_add_40 : decode cX8_add 40 = .ok (.iload_n 3, 1) := by decide +kernel
theorem dX8_add_41 : decode cX8_add 41 = .ok (.iastore, 1) := by decide +kernel
theorem dX8_add_42 : decode cX8_add 42 = .ok (.aload_n 0, 1) := by decide +kernel
theorem dX8_add_43 : decode cX8_add 43 = .ok (.dup, 1) := by decide +kernel
theorem dX8_add_44 : decode cX8_add 44 = .ok (.getfield 21, 3) := by decide +kernel
theorem dX8_add_47 : decode cX8_add 47 = .ok (.iconst 1, 1) := by decide +kernel
theorem dX8_add_48 : decode cX8_add 48 = .ok (.iadd, 1) := by decide +kernel
theorem dX8_add_49 : decode cX8_add 49 = .ok (.putfield 21, 3) := by decide +kernel
theorem dX8_add_52 : decode cX8_add 52 = .ok (.return_, 1) := by decide +kernel
set_option maxRecDepth 20000 in
theorem ggX9_init_X0_init : GoodIn wsX9_init wsX0_init := goodIn_r _ [18, 19, 2, 3, 20, 21, 22, 23, 24, 25, 26, 27, 28, 29, 30, 31, 32, 33, 34, 35, 36, 37, 38, 39, 40, 41, 42, 43, 44, 45, 46, 47, 48, 49, 50, 51, 52, 53, 54, 55, 56, 57, 58, 59, 60, 61, 62, 63, 64, 65, 66, 67, 68, 69, 70, 71, 72, 73, 74, 75, 76, 77, 78, 79, 80, 81, 82, 83, 84, 85, 86, 87, 88, 89, 90, 91, 92, 93, 94, 138, 139, 140, 116, 117, 118, 119, 120, 121, 122, 123, 124, 125, 141, 142, 143, 144, 145, 146, 147, 148, 149, 150, 151, 152, 153, 154, 155, 156, 157, 158, 159, 160, 161, 162, 163, 164, 165, 166, 167] (by decide +kernel) (by decide +kernel)
set_option maxRecDepth 20000 in
theorem gX9_init_X0_init_n9 : GoodIn wsX9_init (wsX0_init) := ggX9_init_X0_init
set_option maxRecDepth 20000 in
theorem ggX9_init_X6_init : GoodIn wsX9_init wsX6_init := goodIn_r _ [96, 97, 2, 3, 40, 98, 130, 131] (by decide +kernel) (by decide +kernel)
set_option maxRecDepth 20000 in
theorem gX9_init_X6_init_n22 : GoodIn wsX9_init (wsX6_init) := ggX9_init_X6_init
set_option maxRecDepth 20000 in
theorem ggX9_init_X3_init : GoodIn wsX9_init wsX3_init := goodIn_r _ [100, 101, 2, 3, 102, 103, 104, 37, 38, 105, 106, 107, 108, 109, 85, 86, 87, 40, 88, 89, 90, 91, 92, 93, 94, 110, 111, 112, 113, 114, 115, 132, 133, 134, 135, 136, 137, 160, 161, 162, 163, 164, 165, 166, 167, 168, 169, 170, 171] (by decide +kernel) (by decide +kernel)
set_option maxRecDepth 20000 in
theorem gX9_init_X3_init_n29 : GoodIn wsX9_init (wsX3_init) := ggX9_init_X3_init
theorem dX9_init_0 : decode cX9_init 0 = .ok (.aload_n 0, 1) := by decide +kernel
theorem dX9_init_1 : decode cX9_init 1 = .ok (.invokespecial 1, 3) := by decide +kernel
theorem dX9_init_4 : decode cX9_init 4 = .ok (.aload_n 0, 1) := by decide +kernel
theorem dX9_init_5 : decode cX9_init 5 = .ok (.new 7, 3) := by decide +kernel
theorem dX9_init_8 : decode cX9_init 8 = .ok (.dup, 1) := by decide +kernel
theorem dX9_init_9 : decode cX9_init 9 = .ok (.invokespecial 9, 3) := by decide +kernel
theorem dX9_init_12 : decode cX9_init 12 = .ok (.putfield 10, 3) := by decide +kernel
theorem dX9_init_15 : decode cX9_init 15 = .ok (.aload_n 0, 1) := by decide +kernel
theorem dX9_init_16 : decode cX9_init 16 = .ok (.iconst 3, 1) := by decide +kernel
theorem dX9_init_17 : decode cX9_init 17 = .ok (.anewarray 7, 3) := by decide +kernel
theorem dX9_init_20 : decode cX9_init 20 = .ok (.putfield 16, 3) := by decide +kernel
theorem dX9_init_23 : decode cX9_init 23 = .ok (.aload_n 0, 1) := by decide +kernel
theorem dX9_init_24 : decode cX9_init 24 = .ok (.new 20, 3) := by decide +kernel
theorem dX9_init_27 : decode cX9_init 27 = .ok (.dup, 1) := by decide +kernel
theorem dX9_init_28 : decode cX9_init 28 = .ok (.invokespecial 22, 3) := by decide +kernel
theorem dX9_init_31 : decode cX9_init 31 = .ok (.putfield 23, 3) := by decide +kernel
theorem dX9_init_34 : decode cX9_init 34 = .ok (.aload_n 0, 1) := by decide +kernel
theorem dX9_init_35 : decode cX9_init 35 = .ok (.new 27, 3) := by decide +kernel
theorem dX9_init_38 : decode cX9_init 38 = .ok (.dup, 1) := by decide +kernel
theorem dX9_init_39 : decode cX9_init 39 = .ok (.invokespecial 29, 3) := by decide +kernel
theorem dX9_init_42 : decode cX9_init 42 = .ok (.putfield 30, 3) := by decide +kernel
theorem dX9_init_45 : decode cX9_init 45 = .ok (.return_, 1) := by decide +kernel
set_option maxRecDepth 20000 in
theorem ggX9_line_X4_lay : GoodIn wsX9_line wsX4_lay := goodIn_r _ [10, 11, 12, 13, 14, 15, 16, 17, 37, 38, 39] (by decide +kernel) (by decide +kernel)
set_option maxRecDepth 20000 in
theorem gX9_line_X4_lay : GoodIn wsX9_line (wsV RX9 48 RX4 yX4_lay wsX4_lay) := goodIn_app (goodIn_of _ (by decide +kernel)) ggX9_line_X4_lay
set_option maxRecDepth 20000 in
theorem ggX9_line_J7_fill_53178 : GoodIn wsX9_line wsJ7_fill_53178 := goodIn_r _ [17] (by decide +kernel) (by decide +kernel)
set_option maxRecDepth 20000 in
theorem gX9_line_J7_fill_53178 : GoodIn wsX9_line (va_wsS RX9 58 yJ7_fill_53178 wsJ7_fill_53178) := goodIn_app (goodIn_of _ (by decide +kernel)) ggX9_line_J7_fill_53178
theorem dX9_line_0 : decode cX9_line 0 = .ok (.aload_n 0, 1) := by decide +kernel
theorem dX9_line_1 : decode cX9_line 1 = .ok (.getfield 10, 3) := by decide +kernel
theorem dX9_line_4 : decode cX9_line 4 = .ok (.getfield 34, 3) := by decide +kernel
theorem dX9_line_7 : decode cX9_line 7 = .ok (.getfield 38, 3) := by decide +kernel
theorem dX9_line_10 : decode cX9_line 10 = .ok (.ifCond .gt 14, 3) := by decide +kernel
theorem dX9_line_13 : decode cX9_line 13 = .ok (.iload_n 1, 1) := by decide +kernel
theorem dX9_line_14 : decode cX9_line 14 = .ok (.iconst 2, 1) := by decide +kernel
theorem dX9_line_15 : decode cX9_line 15 = .ok (.if_icmp .lt 9, 3) := by decide +kernel
theorem dX9_line_18 : decode cX9_line 18 = .ok (.iload_n 1, 1) := by decide +kernel
theorem dX9_line_19 : decode cX9_line 19 = .ok (.bipush 10, 2) := by decide +kernel
theorem dX9_line_21 : decode cX9_line 21 = .ok (.if_icmp .le 5, 3) := by decide +kernel
theorem dX9_line_24 : decode cX9_line 24 = .ok (.iconst 0, 1) := by decide +kernel
theorem dX9_line_25 : decode cX9_line 25 = .ok (.ireturn, 1) := by decide +kernel
theorem dX9_line_26 : decode cX9_line 26 = .ok (.aload_n 0, 1) := by decide +kernel
theorem dX9_line_27 : decode cX9_line 27 = .ok (.getfield 10, 3) := by decide +kernel
theorem dX9_line_30 : decode cX9_line 30 = .ok (.getfield 44, 3) := by decide +kernel
theorem dX9_line_33 : decode cX9_line 33 = .ok (.iload_n 1, 1) := by decide +kernel
theorem dX9_line_34 : decode cX9_line 34 = .ok (.invokevirtual 48, 3) := by decide +kernel
theorem dX9_line_37 : decode cX9_line 37 = .ok (.aload_n 0, 1) := by decide +kernel
theorem dX9_line_38 : decode cX9_line 38 = .ok (.getfield 10, 3) := by decide +kernel
theorem dX9_line_41 : decode cX9_line 41 = .ok (.getfield 54, 3) := by decide +kernel
theorem dX9_line_44 : decode cX9_line 44 = .ok (.iconst 0, 1) := by decide +kernel
theorem dX9_line_45 : decode cX9_line 45 = .ok (.invokestatic 58, 3) := by decide +kernel
theorem dX9_line_48 : decode cX9_line 48 = .ok (.iconst 1, 1) := by decide +kernel
theorem dX9_line_49 : decode cX9_line 49 = .ok (.ireturn, 1) := by decide +kernel
set_option maxRecDepth 20000 in
theorem ggX9_stretch_X4_hasLeg : GoodIn wsX9_stretch wsX4_hasLeg := goodIn_r _ [11, 12, 31, 32, 33] (by decide +kernel) (by decide +kernel)
set_option maxRecDepth 20000 in
theorem gX9_stretch_X4_hasLeg : GoodIn wsX9_stretch (wsV RX9 64 RX4 yX4_hasLeg wsX4_hasLeg) := goodIn_app (goodIn_of _ (by decide +kernel)) ggX9_stretch_X4_hasLeg
theorem dX9_stretch_0 : decode cX9_stretch 0 = .ok (.aload_n 0, 1) := by decide +kernel
theorem dX9_stretch_1 : decode cX9_stretch 1 = .ok (.getfield 10, 3) := by decide +kernel
theorem dX9_stretch_4 : decode cX9_stretch 4 = .ok (.getfield 34, 3) := by decide +kernel
theorem dX9_stretch_7 : decode cX9_stretch 7 = .ok (.getfield 38, 3) := by decide +kernel
theorem dX9_stretch_10 : decode cX9_stretch 10 = .ok (.ifCond .gt 17, 3) := by decide +kernel
theorem dX9_stretch_13 : decode cX9_stretch 13 = .ok (.aload_n 0, 1) := by decide +kernel
theorem dX9_stretch_14 : decode cX9_stretch 14 = .ok (.getfield 10, 3) := by decide +kernel
theorem dX9_stretch_17 : decode cX9_stretch 17 = .ok (.getfield 44, 3) := by decide +kernel
theorem dX9_stretch_20 : decode cX9_stretch 20 = .ok (.iload_n 1, 1) := by decide +kernel
theorem dX9_stretch_21 : decode cX9_stretch 21 = .ok (.invokevirtual 64, 3) := by decide +kernel
theorem dX9_stretch_24 : decode cX9_stretch 24 = .ok (.ifCond .ne 5, 3) := by decide +kernel
theorem dX9_stretch_27 : decode cX9_stretch 27 = .ok (.iconst 0, 1) := by decide +kernel
theorem dX9_stretch_28 : decode cX9_stretch 28 = .ok (.ireturn, 1) := by decide +kernel
theorem dX9_stretch_29 : decode cX9_stretch 29 = .ok (.iload_n 2, 1) := by decide +kernel
theorem dX9_stretch_30 : decode cX9_stretch 30 = .ok (.iconst 1, 1) := by decide +kernel
theorem dX9_stretch_31 : decode cX9_stretch 31 = .ok (.if_icmp .lt 21, 3) := by decide +kernel
theorem dX9_stretch_34 : decode cX9_stretch 34 = .ok (.iload_n 2, 1) := by decide +kernel
theorem dX9_stretch_35 : decode cX9_stretch 35 = .ok (.sipush 500, 3) := by decide +kernel
theorem dX9_stretch_38 : decode cX9_stretch 38 = .ok (.if_icmp .gt 14, 3) := by decide +kernel
theorem dX9_stretch_41 : decode cX9_stretch 41 = .ok (.iload_n 3, 1) := by decide +kernel
theorem dX9_stretch_42 : decode cX9_stretch 42 = .ok (.iconst 1, 1) := by decide +kernel
theorem dX9_stretch_43 : decode cX9_stretch 43 = .ok (.if_icmp .lt 9, 3) := by decide +kernel
theorem dX9_stretch_46 : decode cX9_stretch 46 = .ok (.iload_n 3, 1) := by decide +kernel
theorem dX9_stretch_47 : decode cX9_stretch 47 = .ok (.bipush 24, 2) := by decide +kernel
theorem dX9_stretch_49 : decode cX9_stretch 49 = .ok (.if_icmp .le 5, 3) := by decide +kernel
theorem dX9_stretch_52 : decode cX9_stretch 52 = .ok (.iconst 0, 1) := by decide +kernel
theorem dX9_stretch_53 : decode cX9_stretch 53 = .ok (.ireturn, 1) := by decide +kernel
theorem dX9_stretch_54 : decode cX9_stretch 54 = .ok (.aload_n 0, 1) := by decide +kernel
theorem dX9_stretch_55 : decode cX9_stretch 55 = .ok (.getfield 10, 3) := by decide +kernel
theorem dX9_stretch_58 : decode cX9_stretch 58 = .ok (.getfield 44, 3) := by decide +kernel
theorem dX9_stretch_61 : decode cX9_stretch 61 = .ok (.getfield 68, 3) := by decide +kernel
theorem dX9_stretch_64 : decode cX9_stretch 64 = .ok (.iload_n 1, 1) := by decide +kernel
theorem dX9_stretch_65 : decode cX9_stretch 65 = .ok (.iload_n 2, 1) := by decide +kernel
theorem dX9_stretch_66 : decode cX9_stretch 66 = .ok (.iastore, 1) := by decide +kernel
theorem dX9_stretch_67 : decode cX9_stretch 67 = .ok (.aload_n 0, 1) := by decide +kernel
theorem dX9_stretch_68 : decode cX9_stretch 68 = .ok (.getfield 10, 3) := by decide +kernel
theorem dX9_stretch_71 : decode cX9_stretch 71 = .ok (.getfield 44, 3) := by decide +kernel
theorem dX9_stretch_74 : decode cX9_stretch 74 = .ok (.getfield 71, 3) := by decide +kernel
theorem dX9_stretch_77 : decode cX9_stretch 77 = .ok (.iload_n 1, 1) := by decide +kernel
theorem dX9_stretch_78 : decode cX9_stretch 78 = .ok (.iload_n 3, 1) := by decide +kernel
theorem dX9_stretch_79 : decode cX9_stretch 79 = .ok (.iastore, 1) := by decide +kernel
theorem dX9_stretch_80 : decode cX9_stretch 80 = .ok (.iconst 1, 1) := by decide +kernel
theorem dX9_stretch_81 : decode cX9_stretch 81 = .ok (.ireturn, 1) := by decide +kernel
set_option maxRecDepth 20000 in
theorem ggX9_office_X9_isOffice : GoodIn wsX9_office wsX9_isOffice := goodIn_r _ [9] (by decide +kernel) (by decide +kernel)
set_option maxRecDepth 20000 in
theorem gX9_office_X9_isOffice : GoodIn wsX9_office (va_wsS RX9 74 yX9_isOffice wsX9_isOffice) := goodIn_app (goodIn_of _ (by decide +kernel)) ggX9_office_X9_isOffice
set_option maxRecDepth 20000 in
theorem ggX9_office_X4_isStop : GoodIn wsX9_office wsX4_isStop := goodIn_r _ [14, 15, 34, 35, 36] (by decide +kernel) (by decide +kernel)
set_option maxRecDepth 20000 in
theorem gX9_office_X4_isStop : GoodIn wsX9_office (wsV RX9 77 RX4 yX4_isStop wsX4_isStop) := goodIn_app (goodIn_of _ (by decide +kernel)) ggX9_office_X4_isStop
theorem dX9_office_0 : decode cX9_office 0 = .ok (.aload_n 0, 1) := by decide +kernel
theorem dX9_office_1 : decode cX9_office 1 = .ok (.getfield 10, 3) := by decide +kernel
theorem dX9_office_4 : decode cX9_office 4 = .ok (.getfield 34, 3) := by decide +kernel
theorem dX9_office_7 : decode cX9_office 7 = .ok (.getfield 38, 3) := by decide +kernel
theorem dX9_office_10 : decode cX9_office 10 = .ok (.ifCond .gt 24, 3) := by decide +kernel
theorem dX9_office_13 : decode cX9_office 13 = .ok (.iload_n 1, 1) := by decide +kernel
theorem dX9_office_14 : decode cX9_office 14 = .ok (.invokestatic 74, 3) := by decide +kernel
theorem dX9_office_17 : decode cX9_office 17 = .ok (.ifCond .eq 17, 3) := by decide +kernel
theorem dX9_office_20 : decode cX9_office 20 = .ok (.aload_n 0, 1) := by decide +kernel
theorem dX9_office_21 : decode cX9_office 21 = .ok (.getfield 10, 3) := by decide +kernel
theorem dX9_office_24 : decode cX9_office 24 = .ok (.getfield 44, 3) := by decide +kernel
theorem dX9_office_27 : decode cX9_office 27 = .ok (.iload_n 2, 1) := by decide +kernel
theorem dX9_office_28 : decode cX9_office 28 = .ok (.invokevirtual 77, 3) := by decide +kernel
theorem dX9_office_31 : decode cX9_office 31 = .ok (.ifCond .ne 5, 3) := by decide +kernel
theorem dX9_office_34 : decode cX9_office 34 = .ok (.iconst 0, 1) := by decide +kernel
theorem dX9_office_35 : decode cX9_office 35 = .ok (.ireturn, 1) := by decide +kernel
theorem dX9_office_36 : decode cX9_office 36 = .ok (.aload_n 0, 1) := by decide +kernel
theorem dX9_office_37 : decode cX9_office 37 = .ok (.getfield 10, 3) := by decide +kernel
theorem dX9_office_40 : decode cX9_office 40 = .ok (.getfield 54, 3) := by decide +kernel
theorem dX9_office_43 : decode cX9_office 43 = .ok (.iload_n 1, 1) := by decide +kernel
theorem dX9_office_44 : decode cX9_office 44 = .ok (.iload_n 2, 1) := by decide +kernel
theorem dX9_office_45 : decode cX9_office 45 = .ok (.iastore, 1) := by decide +kernel
theorem dX9_office_46 : decode cX9_office 46 = .ok (.iconst 1, 1) := by decide +kernel
theorem dX9_office_47 : decode cX9_office 47 = .ok (.ireturn, 1) := by decide +kernel
set_option maxRecDepth 20000 in
theorem ggX9_share_X9_isOffice : GoodIn wsX9_share wsX9_isOffice := goodIn_r _ [6] (by decide +kernel) (by decide +kernel)
set_option maxRecDepth 20000 in
theorem gX9_share_X9_isOffice : GoodIn wsX9_share (va_wsS RX9 74 yX9_isOffice wsX9_isOffice) := goodIn_app (goodIn_of _ (by decide +kernel)) ggX9_share_X9_isOffice
theorem dX9_share_0 : decode cX9_share 0 = .ok (.iload_n 1, 1) := by decide +kernel
theorem dX9_share_1 : decode cX9_share 1 = .ok (.ifCond .lt 16, 3) := by decide +kernel
theorem dX9_share_4 : decode cX9_share 4 = .ok (.iload_n 1, 1) := by decide +kernel
theorem dX9_share_5 : decode cX9_share 5 = .ok (.bipush 10, 2) := by decide +kernel
theorem dX9_share_7 : decode cX9_share 7 = .ok (.if_icmp .ge 10, 3) := by decide +kernel
theorem dX9_share_10 : decode cX9_share 10 = .ok (.iload_n 2, 1) := by decide +kernel
theorem dX9_share_11 : decode cX9_share 11 = .ok (.invokestatic 74, 3) := by decide +kernel
theorem dX9_share_14 : decode cX9_share 14 = .ok (.ifCond .ne 5, 3) := by decide +kernel
theorem dX9_share_17 : decode cX9_share 17 = .ok (.iconst 0, 1) := by decide +kernel
theorem dX9_share_18 : decode cX9_share 18 = .ok (.ireturn, 1) := by decide +kernel
theorem dX9_share_19 : decode cX9_share 19 = .ok (.aload_n 0, 1) := by decide +kernel
theorem dX9_share_20 : decode cX9_share 20 = .ok (.getfield 10, 3) := by decide +kernel
theorem dX9_share_23 : decode cX9_share 23 = .ok (.getfield 80, 3) := by decide +kernel
theorem dX9_share_26 : decode cX9_share 26 = .ok (.iload_n 1, 1) := by decide +kernel
theorem dX9_share_27 : decode cX9_share 27 = .ok (.iload_n 2, 1) := by decide +kernel
theorem dX9_share_28 : decode cX9_share 28 = .ok (.iastore, 1) := by decide +kernel
theorem dX9_share_29 : decode cX9_share 29 = .ok (.iconst 1, 1) := by decide +kernel
theorem dX9_share_30 : decode cX9_share 30 = .ok (.ireturn, 1) := by decide +kernel
set_option maxRecDepth 20000 in
theorem ggX9_run_X5_isTold : GoodIn wsX9_run wsX5_isTold := goodIn_r _ [8, 9, 47, 48, 49, 50] (by decide +kernel) (by decide +kernel)
set_option maxRecDepth 20000 in
theorem gX9_run_X5_isTold : GoodIn wsX9_run (wsV RX9 83 RX5 yX5_isTold wsX5_isTold) := goodIn_app (goodIn_of _ (by decide +kernel)) ggX9_run_X5_isTold
set_option maxRecDepth 20000 in
theorem ggX9_run_X0_hasLeft : GoodIn wsX9_run wsX0_hasLeft := goodIn_r _ [14, 15, 16, 17, 18, 19, 20, 21, 22, 37, 38, 39, 40, 41, 42, 43, 44, 45, 46, 51, 52, 53] (by decide +kernel) (by decide +kernel)
set_option maxRecDepth 20000 in
theorem gX9_run_X0_hasLeft : GoodIn wsX9_run (wsV RX9 86 RX0 yX0_hasLeft wsX0_hasLeft) := goodIn_app (goodIn_of _ (by decide +kernel)) ggX9_run_X0_hasLeft
set_option maxRecDepth 20000 in
theorem ggX9_run_X5_add : GoodIn wsX9_run wsX5_add := goodIn_r _ [26, 27, 9, 28, 29, 30, 31, 32, 47, 48, 49, 50] (by decide +kernel) (by decide +kernel)
set_option maxRecDepth 20000 in
theorem gX9_run_X5_add : GoodIn wsX9_run (wsV RX9 90 RX5 yX5_add wsX5_add) := goodIn_app (goodIn_of _ (by decide +kernel)) ggX9_run_X5_add
theorem dX9_run_0 : decode cX9_run 0 = .ok (.iload_n 1, 1) := by decide +kernel
theorem dX9_run_1 : decode cX9_run 1 = .ok (.ifCond .lt 35, 3) := by decide +kernel
theorem dX9_run_4 : decode cX9_run 4 = .ok (.iload_n 1, 1) := by decide +kernel
theorem dX9_run_5 : decode cX9_run 5 = .ok (.bipush 60, 2) := by decide +kernel
theorem dX9_run_7 : decode cX9_run 7 = .ok (.if_icmp .ge 29, 3) := by decide +kernel
theorem dX9_run_10 : decode cX9_run 10 = .ok (.aload_n 0, 1) := by decide +kernel
theorem dX9_run_11 : decode cX9_run 11 = .ok (.getfield 10, 3) := by decide +kernel
theorem dX9_run_14 : decode cX9_run 14 = .ok (.getfield 34, 3) := by decide +kernel
theorem dX9_run_17 : decode cX9_run 17 = .ok (.iload_n 1, 1) := by decide +kernel
theorem dX9_run_18 : decode cX9_run 18 = .ok (.invokevirtual 83, 3) := by decide +kernel
theorem dX9_run_21 : decode cX9_run 21 = .ok (.ifCond .ne 15, 3) := by decide +kernel
theorem dX9_run_24 : decode cX9_run 24 = .ok (.aload_n 0, 1) := by decide +kernel
theorem dX9_run_25 : decode cX9_run 25 = .ok (.getfield 10, 3) := by decide +kernel
theorem dX9_run_28 : decode cX9_run 28 = .ok (.iload_n 1, 1) := by decide +kernel
theorem dX9_run_29 : decode cX9_run 29 = .ok (.iconst 0, 1) := by decide +kernel
theorem dX9_run_30 : decode cX9_run 30 = .ok (.invokevirtual 86, 3) := by decide +kernel
theorem dX9_run_33 : decode cX9_run 33 = .ok (.ifCond .eq 5, 3) := by decide +kernel
theorem dX9_run_36 : decode cX9_run 36 = .ok (.iconst 0, 1) := by decide +kernel
theorem dX9_run_37 : decode cX9_run 37 = .ok (.ireturn, 1) := by decide +kernel
theorem dX9_run_38 : decode cX9_run 38 = .ok (.iload_n 2, 1) := by decide +kernel
theorem dX9_run_39 : decode cX9_run 39 = .ok (.iconst 1, 1) := by decide +kernel
theorem dX9_run_40 : decode cX9_run 40 = .ok (.if_icmp .lt 9, 3) := by decide +kernel
theorem dX9_run_43 : decode cX9_run 43 = .ok (.iload_n 2, 1) := by decide +kernel
theorem dX9_run_44 : decode cX9_run 44 = .ok (.bipush 10, 2) := by decide +kernel
theorem dX9_run_46 : decode cX9_run 46 = .ok (.if_icmp .le 5, 3) := by decide +kernel
theorem dX9_run_49 : decode cX9_run 49 = .ok (.iconst 0, 1) := by decide +kernel
theorem dX9_run_50 : decode cX9_run 50 = .ok (.ireturn, 1) := by decide +kernel
theorem dX9_run_51 : decode cX9_run 51 = .ok (.aload_n 0, 1) := by decide +kernel
theorem dX9_run_52 : decode cX9_run 52 = .ok (.getfield 10, 3) := by decide +kernel
theorem dX9_run_55 : decode cX9_run 55 = .ok (.getfield 34, 3) := by decide +kernel
theorem dX9_run_58 : decode cX9_run 58 = .ok (.iload_n 1, 1) := by decide +kernel
theorem dX9_run_59 : decode cX9_run 59 = .ok (.iload_n 2, 1) := by decide +kernel
theorem dX9_run_60 : decode cX9_run 60 = .ok (.aload_n 0, 1) := by decide +kernel
theorem dX9_run_61 : decode cX9_run 61 = .ok (.getfield 10, 3) := by decide +kernel
theorem dX9_run_64 : decode cX9_run 64 = .ok (.getfield 80, 3) := by decide +kernel
theorem dX9_run_67 : decode cX9_run 67 = .ok (.invokevirtual 90, 3) := by decide +kernel
theorem dX9_run_70 : decode cX9_run 70 = .ok (.iconst 1, 1) := by decide +kernel
theorem dX9_run_71 : decode cX9_run 71 = .ok (.ireturn, 1) := by decide +kernel
set_option maxRecDepth 20000 in
theorem ggX9_sell_X9_isOffice : GoodIn wsX9_sell wsX9_isOffice := goodIn_r _ [5] (by decide +kernel) (by decide +kernel)
set_option maxRecDepth 20000 in
theorem gX9_sell_X9_isOffice : GoodIn wsX9_sell (va_wsS RX9 74 yX9_isOffice wsX9_isOffice) := goodIn_app (goodIn_of _ (by decide +kernel)) ggX9_sell_X9_isOffice
set_option maxRecDepth 20000 in
theorem ggX9_sell_X0_isRunStretch : GoodIn wsX9_sell wsX0_isRunStretch := goodIn_r _ [10, 11, 12, 13, 14, 15, 16, 17, 18, 19, 20, 21, 22, 23, 24, 96, 97, 98, 99, 100, 101, 102, 103, 104, 105, 106, 107, 108, 109, 110, 111, 112] (by decide +kernel) (by decide +kernel)
set_option maxRecDepth 20000 in
theorem gX9_sell_X0_isRunStretch : GoodIn wsX9_sell (wsV RX9 94 RX0 yX0_isRunStretch wsX0_isRunStretch) := goodIn_app (goodIn_of _ (by decide +kernel)) ggX9_sell_X0_isRunStretch
theorem dX9_sell_0 : decode cX9_sell 0 = .ok (.iload_n 1, 1) := by decide +kernel
theorem dX9_sell_1 : decode cX9_sell 1 = .ok (.invokestatic 74, 3) := by decide +kernel
theorem dX9_sell_4 : decode cX9_sell 4 = .ok (.ifCond .eq 17, 3) := by decide +kernel
theorem dX9_sell_7 : decode cX9_sell 7 = .ok (.aload_n 0, 1) := by decide +kernel
theorem dX9_sell_8 : decode cX9_sell 8 = .ok (.getfield 10, 3) := by decide +kernel
theorem dX9_sell_11 : decode cX9_sell 11 = .ok (.iload_n 2, 1) := by decide +kernel
theorem dX9_sell_12 : decode cX9_sell 12 = .ok (.iload_n 3, 1) := by decide +kernel
theorem dX9_sell_13 : decode cX9_sell 13 = .ok (.iload 4, 2) := by decide +kernel
theorem dX9_sell_15 : decode cX9_sell 15 = .ok (.invokevirtual 94, 3) := by decide +kernel
theorem dX9_sell_18 : decode cX9_sell 18 = .ok (.ifCond .ne 5, 3) := by decide +kernel
theorem dX9_sell_21 : decode cX9_sell 21 = .ok (.iconst (-1), 1) := by decide +kernel
theorem dX9_sell_22 : decode cX9_sell 22 = .ok (.ireturn, 1) := by decide +kernel
theorem dX9_sell_23 : decode cX9_sell 23 = .ok (.aload_n 0, 1) := by decide +kernel
theorem dX9_sell_24 : decode cX9_sell 24 = .ok (.getfield 10, 3) := by decide +kernel
theorem dX9_sell_27 : decode cX9_sell 27 = .ok (.iload_n 1, 1) := by decide +kernel
theorem dX9_sell_28 : decode cX9_sell 28 = .ok (.iload_n 2, 1) := by decide +kernel
theorem dX9_sell_29 : decode cX9_sell 29 = .ok (.iload_n 3, 1) := by decide +kernel
theorem dX9_sell_30 : decode cX9_sell 30 = .ok (.iload 4, 2) := by decide +kernel
theorem dX9_sell_32 : decode cX9_sell 32 = .ok (.invokevirtual 98, 3) := by decide +kernel
theorem dX9_sell_35 : decode cX9_sell 35 = .ok (.ireturn, 1) := by decide +kernel
set_option maxRecDepth 20000 in
theorem ggX9_back_X7_has : GoodIn wsX9_back wsX7_has := goodIn_r _ [7, 8, 65, 66, 67, 68, 69, 70, 71] (by decide +kernel) (by decide +kernel)
set_option maxRecDepth 20000 in
theorem gX9_back_X7_has : GoodIn wsX9_back (wsV RX9 106 RX7 yX7_has wsX7_has) := goodIn_app (goodIn_of _ (by decide +kernel)) ggX9_back_X7_has
theorem dX9_back_0 : decode cX9_back 0 = .ok (.aload_n 0, 1) := by decide +kernel
theorem dX9_back_1 : decode cX9_back 1 = .ok (.getfield 10, 3) := by decide +kernel
theorem dX9_back_4 : decode cX9_back 4 = .ok (.getfield 102, 3) := by decide +kernel
theorem dX9_back_7 : decode cX9_back 7 = .ok (.iload_n 1, 1) := by decide +kernel
theorem dX9_back_8 : decode cX9_back 8 = .ok (.invokevirtual 106, 3) := by decide +kernel
theorem dX9_back_11 : decode cX9_back 11 = .ok (.ifCond .eq 18, 3) := by decide +kernel
theorem dX9_back_14 : decode cX9_back 14 = .ok (.aload_n 0, 1) := by decide +kernel
theorem dX9_back_15 : decode cX9_back 15 = .ok (.getfield 10, 3) := by decide +kernel
theorem dX9_back_18 : decode cX9_back 18 = .ok (.iload_n 1, 1) := by decide +kernel
theorem dX9_back_19 : decode cX9_back 19 = .ok (.invokevirtual 111, 3) := by decide +kernel
theorem dX9_back_22 : decode cX9_back 22 = .ok (.ifCond .eq 7, 3) := by decide +kernel
theorem dX9_back_25 : decode cX9_back 25 = .ok (.iconst 1, 1) := by decide +kernel
theorem dX9_back_26 : decode cX9_back 26 = .ok (.goto 4, 3) := by decide +kernel
theorem dX9_back_29 : decode cX9_back 29 = .ok (.iconst 0, 1) := by decide +kernel
theorem dX9_back_30 : decode cX9_back 30 = .ok (.ireturn, 1) := by decide +kernel
set_option maxRecDepth 20000 in
theorem ggX9_letter_X9_isOffice : GoodIn wsX9_letter wsX9_isOffice := goodIn_r _ [8] (by decide +kernel) (by decide +kernel)
set_option maxRecDepth 20000 in
theorem gX9_letter_X9_isOffice : GoodIn wsX9_letter (va_wsS RX9 74 yX9_isOffice wsX9_isOffice) := goodIn_app (goodIn_of _ (by decide +kernel)) ggX9_letter_X9_isOffice
set_option maxRecDepth 20000 in
theorem ggX9_letter_X0_isRunStretch : GoodIn wsX9_letter wsX0_isRunStretch := goodIn_r _ [13, 14, 15, 16, 17, 18, 19, 20, 21, 22, 23, 24, 25, 26, 27, 65, 66, 67, 68, 69, 70, 71, 72, 73, 74, 75, 76, 77, 78, 79, 80, 81] (by decide +kernel) (by decide +kernel)
set_option maxRecDepth 20000 in
theorem gX9_letter_X0_isRunStretch : GoodIn wsX9_letter (wsV RX9 94 RX0 yX0_isRunStretch wsX0_isRunStretch) := goodIn_app (goodIn_of _ (by decide +kernel)) ggX9_letter_X0_isRunStretch
set_option maxRecDepth 20000 in
theorem ggX9_letter_X7_isFull : GoodIn wsX9_letter wsX7_isFull := goodIn_r _ [32, 33, 82, 83, 84, 85, 86, 87, 88] (by decide +kernel) (by decide +kernel)
set_option maxRecDepth 20000 in
theorem gX9_letter_X7_isFull : GoodIn wsX9_letter (wsV RX9 114 RX7 yX7_isFull wsX7_isFull) := goodIn_app (goodIn_of _ (by decide +kernel)) ggX9_letter_X7_isFull
theorem dX9_letter_0 : decode cX9_letter 0 = .ok (.iload_n 1, 1) := by decide +kernel
theorem dX9_letter_1 : decode cX9_letter 1 = .ok (.invokestatic 74, 3) := by decide +kernel
theorem dX9_letter_4 : decode cX9_letter 4 = .ok (.ifCond .eq 15, 3) := by decide +kernel
theorem dX9_letter_7 : decode cX9_letter 7 = .ok (.iload_n 2, 1) := by decide +kernel
theorem dX9_letter_8 : decode cX9_letter 8 = .ok (.invokestatic 74, 3) := by decide +kernel
theorem dX9_letter_11 : decode cX9_letter 11 = .ok (.ifCond .eq 8, 3) := by decide +kernel
theorem dX9_letter_14 : decode cX9_letter 14 = .ok (.iload_n 1, 1) := by decide +kernel
theorem dX9_letter_15 : decode cX9_letter 15 = .ok (.iload_n 2, 1) := by decide +kernel
theorem dX9_letter_16 : decode cX9_letter 16 = .ok (.if_icmp .ne 5, 3) := by decide +kernel
theorem dX9_letter_19 : decode cX9_letter 19 = .ok (.iconst (-1), 1) := by decide +kernel
theorem dX9_letter_20 : decode cX9_letter 20 = .ok (.ireturn, 1) := by decide +kernel
theorem dX9_letter_21 : decode cX9_letter 21 = .ok (.aload_n 0, 1) := by decide +kernel
theorem dX9_letter_22 : decode cX9_letter 22 = .ok (.getfield 10, 3) := by decide +kernel
theorem dX9_letter_25 : decode cX9_letter 25 = .ok (.iload_n 3, 1) := by decide +kernel
theorem dX9_letter_26 : decode cX9_letter 26 = .ok (.iload 4, 2) := by decide +kernel
theorem dX9_letter_28 : decode cX9_letter 28 = .ok (.iload 5, 2) := by decide +kernel
theorem dX9_letter_30 : decode cX9_letter 30 = .ok (.invokevirtual 94, 3) := by decide +kernel
theorem dX9_letter_33 : decode cX9_letter 33 = .ok (.ifCond .eq 16, 3) := by decide +kernel
theorem dX9_letter_36 : decode cX9_letter 36 = .ok (.aload_n 0, 1) := by decide +kernel
theorem dX9_letter_37 : decode cX9_letter 37 = .ok (.getfield 10, 3) := by decide +kernel
theorem dX9_letter_40 : decode cX9_letter 40 = .ok (.getfield 102, 3) := by decide +kernel
theorem dX9_letter_43 : decode cX9_letter 43 = .ok (.invokevirtual 114, 3) := by decide +kernel
theorem dX9_letter_46 : decode cX9_letter 46 = .ok (.ifCond .eq 5, 3) := by decide +kernel
theorem dX9_letter_49 : decode cX9_letter 49 = .ok (.iconst (-1), 1) := by decide +kernel
theorem dX9_letter_50 : decode cX9_letter 50 = .ok (.ireturn, 1) := by decide +kernel
theorem dX9_letter_51 : decode cX9_letter 51 = .ok (.aload_n 0, 1) := by decide +kernel
theorem dX9_letter_52 : decode cX9_letter 52 = .ok (.getfield 10, 3) := by decide +kernel
theorem dX9_letter_55 : decode cX9_letter 55 = .ok (.iload_n 1, 1) := by decide +kernel
theorem dX9_letter_56 : decode cX9_letter 56 = .ok (.iload_n 2, 1) := by decide +kernel
theorem dX9_letter_57 : decode cX9_letter 57 = .ok (.invokevirtual 118, 3) := by decide +kernel
theorem dX9_letter_60 : decode cX9_letter 60 = .ok (.istore 6, 2) := by decide +kernel
theorem dX9_letter_62 : decode cX9_letter 62 = .ok (.aload_n 0, 1) := by decide +kernel
theorem dX9_letter_63 : decode cX9_letter 63 = .ok (.getfield 10, 3) := by decide +kernel
theorem dX9_letter_66 : decode cX9_letter 66 = .ok (.getfield 122, 3) := by decide +kernel
theorem dX9_letter_69 : decode cX9_letter 69 = .ok (.iload_n 2, 1) := by decide +kernel
theorem dX9_letter_70 : decode cX9_letter 70 = .ok (.iload_n 3, 1) := by decide +kernel
theorem dX9_letter_71 : decode cX9_letter 71 = .ok (.iload 4, 2) := by decide +kernel
theorem dX9_letter_73 : decode cX9_letter 73 = .ok (.iload 5, 2) := by decide +kernel
theorem dX9_letter_75 : decode cX9_letter 75 = .ok (.aload_n 0, 1) := by decide +kernel
theorem dX9_letter_76 : decode cX9_letter 76 = .ok (.getfield 10, 3) := by decide +kernel
theorem dX9_letter_79 : decode cX9_letter 79 = .ok (.getfield 126, 3) := by decide +kernel
theorem dX9_letter_82 : decode cX9_letter 82 = .ok (.iload 6, 2) := by decide +kernel
theorem dX9_letter_84 : decode cX9_letter 84 = .ok (.iadd, 1) := by decide +kernel
theorem dX9_letter_85 : decode cX9_letter 85 = .ok (.aload_n 0, 1) := by decide +kernel
theorem dX9_letter_86 : decode cX9_letter 86 = .ok (.getfield 10, 3) := by decide +kernel
theorem dX9_letter_89 : decode cX9_letter 89 = .ok (.getfield 126, 3) := by decide +kernel
theorem dX9_letter_92 : decode cX9_letter 92 = .ok (.iconst 2, 1) := by decide +kernel
theorem dX9_letter_93 : decode cX9_letter 93 = .ok (.iload 6, 2) := by decide +kernel
theorem dX9_letter_95 : decode cX9_letter 95 = .ok (.imul, 1) := by decide +kernel
theorem dX9_letter_96 : decode cX9_letter 96 = .ok (.iadd, 1) := by decide +kernel
theorem dX9_letter_97 : decode cX9_letter 97 = .ok (.invokevirtual 129, 3) := by decide +kernel
theorem dX9_letter_100 : decode cX9_letter 100 = .ok (.ireturn, 1) := by decide +kernel
set_option maxRecDepth 20000 in
theorem ggX9_post_X1_has : GoodIn wsX9_post wsX1_has := goodIn_r _ [11, 12, 33, 34, 35, 36, 37, 38, 39, 40] (by decide +kernel) (by decide +kernel)
set_option maxRecDepth 20000 in
theorem gX9_post_X1_has : GoodIn wsX9_post (wsV RX9 134 RX1 yX1_has wsX1_has) := goodIn_app (goodIn_of _ (by decide +kernel)) ggX9_post_X1_has
theorem dX9_post_0 : decode cX9_post 0 = .ok (.aload_n 0, 1) := by decide +kernel
theorem dX9_post_1 : decode cX9_post 1 = .ok (.getfield 10, 3) := by decide +kernel
theorem dX9_post_4 : decode cX9_post 4 = .ok (.getfield 122, 3) := by decide +kernel
theorem dX9_post_7 : decode cX9_post 7 = .ok (.iload_n 1, 1) := by decide +kernel
theorem dX9_post_8 : decode cX9_post 8 = .ok (.invokevirtual 134, 3) := by decide +kernel
theorem dX9_post_11 : decode cX9_post 11 = .ok (.ifCond .ne 5, 3) := by decide +kernel
theorem dX9_post_14 : decode cX9_post 14 = .ok (.iconst (-1), 1) := by decide +kernel
theorem dX9_post_15 : decode cX9_post 15 = .ok (.ireturn, 1) := by decide +kernel
theorem dX9_post_16 : decode cX9_post 16 = .ok (.iload_n 2, 1) := by decide +kernel
theorem dX9_post_17 : decode cX9_post 17 = .ok (.tableswitch 116 0 3 #[31, 44, 57, 76], 31) := by decide +kernel
theorem dX9_post_48 : decode cX9_post 48 = .ok (.aload_n 0, 1) := by decide +kernel
theorem dX9_post_49 : decode cX9_post 49 = .ok (.getfield 10, 3) := by decide +kernel
theorem dX9_post_52 : decode cX9_post 52 = .ok (.getfield 122, 3) := by decide +kernel
theorem dX9_post_55 : decode cX9_post 55 = .ok (.getfield 135, 3) := by decide +kernel
theorem dX9_post_58 : decode cX9_post 58 = .ok (.iload_n 1, 1) := by decide +kernel
theorem dX9_post_59 : decode cX9_post 59 = .ok (.iaload, 1) := by decide +kernel
theorem dX9_post_60 : decode cX9_post 60 = .ok (.ireturn, 1) := by decide +kernel
theorem dX9_post_61 : decode cX9_post 61 = .ok (.aload_n 0, 1) := by decide +kernel
theorem dX9_post_62 : decode cX9_post 62 = .ok (.getfield 10, 3) := by decide +kernel
theorem dX9_post_65 : decode cX9_post 65 = .ok (.getfield 122, 3) := by decide +kernel
theorem dX9_post_68 : decode cX9_post 68 = .ok (.getfield 138, 3) := by decide +kernel
theorem dX9_post_71 : decode cX9_post 71 = .ok (.iload_n 1, 1) := by decide +kernel
theorem dX9_post_72 : decode cX9_post 72 = .ok (.iaload, 1) := by decide +kernel
theorem dX9_post_73 : decode cX9_post 73 = .ok (.ireturn, 1) := by decide +kernel
theorem dX9_post_74 : decode cX9_post 74 = .ok (.aload_n 0, 1) := by decide +kernel
theorem dX9_post_75 : decode cX9_post 75 = .ok (.getfield 10, 3) := by decide +kernel
theorem dX9_post_78 : decode cX9_post 78 = .ok (.getfield 122, 3) := by decide +kernel
theorem dX9_post_81 : decode cX9_post 81 = .ok (.iload_n 1, 1) := by decide +kernel
theorem dX9_post_82 : decode cX9_post 82 = .ok (.aload_n 0, 1) := by decide +kernel
theorem dX9_post_83 : decode cX9_post 83 = .ok (.getfield 10, 3) := by decide +kernel
theorem dX9_post_86 : decode cX9_post 86 = .ok (.getfield 126, 3) := by decide +kernel
theorem dX9_post_89 : decode cX9_post 89 = .ok (.invokevirtual 141, 3) := by decide +kernel
theorem dX9_post_92 : decode cX9_post 92 = .ok (.ireturn, 1) := by decide +kernel
theorem dX9_post_93 : decode cX9_post 93 = .ok (.aload_n 0, 1) := by decide +kernel
theorem dX9_post_94 : decode cX9_post 94 = .ok (.getfield 10, 3) := by decide +kernel
theorem dX9_post_97 : decode cX9_post 97 = .ok (.getfield 126, 3) := by decide +kernel
theorem dX9_post_100 : decode cX9_post 100 = .ok (.aload_n 0, 1) := by decide +kernel
theorem dX9_post_101 : decode cX9_post 101 = .ok (.getfield 10, 3) := by decide +kernel
theorem dX9_post_104 : decode cX9_post 104 = .ok (.getfield 122, 3) := by decide +kernel
theorem dX9_post_107 : decode cX9_post 107 = .ok (.getfield 138, 3) := by decide +kernel
theorem dX9_post_110 : decode cX9_post 110 = .ok (.iload_n 1, 1) := by decide +kernel
theorem dX9_post_111 : decode cX9_post 111 = .ok (.iaload, 1) := by decide +kernel
theorem dX9_post_112 : decode cX9_post 112 = .ok (.if_icmp .ge 8, 3) := by decide +kernel
theorem dX9_post_115 : decode cX9_post 115 = .ok (.bipush (-2), 2) := by decide +kernel
theorem dX9_post_117 : decode cX9_post 117 = .ok (.goto 15, 3) := by decide +kernel
theorem dX9_post_120 : decode cX9_post 120 = .ok (.aload_n 0, 1) := by decide +kernel
theorem dX9_post_121 : decode cX9_post 121 = .ok (.getfield 10, 3) := by decide +kernel
theorem dX9_post_124 : decode cX9_post 124 = .ok (.getfield 122, 3) := by decide +kernel
theorem dX9_post_127 : decode cX9_post 127 = .ok (.getfield 144, 3) := by decide +kernel
theorem dX9_post_130 : decode cX9_post 130 = .ok (.iload_n 1, 1) := by decide +kernel
theorem dX9_post_131 : decode cX9_post 131 = .ok (.iaload, 1) := by decide +kernel
theorem dX9_post_132 : decode cX9_post 132 = .ok (.ireturn, 1) := by decide +kernel
theorem dX9_post_133 : decode cX9_post 133 = .ok (.iconst (-1), 1) := by decide +kernel
theorem dX9_post_134 : decode cX9_post 134 = .ok (.ireturn, 1) := by decide +kernel
set_option maxRecDepth 20000 in
theorem ggX9_hours_X0_beginNextHour : GoodIn wsX9_hours wsX0_beginNextHour := goodIn_r _ [7, 8, 9, 10, 11, 12, 13, 14, 15, 16, 17, 18, 19, 6, 20, 21, 22, 23, 24, 25, 26, 27, 28, 29, 30, 31, 32, 33, 34, 35, 36, 37, 38, 39, 40, 41, 42, 43, 44, 45, 46, 47, 48, 49, 50, 51, 52, 53, 54, 55, 56, 57, 58, 59, 60, 61, 62, 63, 64, 65, 66, 67, 68, 69, 70, 71, 72, 73, 74, 75, 76, 77, 78, 79, 80, 81, 82, 83, 84, 85, 86, 87, 92, 93, 94, 95, 96, 97, 98, 99, 100, 101, 102, 103, 104, 105, 106, 107, 108, 109, 110, 111, 112, 113, 114, 115, 116, 117, 118, 119, 120, 121, 122, 123] (by decide +kernel) (by decide +kernel)
set_option maxRecDepth 20000 in
theorem gX9_hours_X0_beginNextHour : GoodIn wsX9_hours (wsV RX9 147 RX0 yX0_beginNextHour wsX0_beginNextHour) := goodIn_app (goodIn_of _ (by decide +kernel)) ggX9_hours_X0_beginNextHour
theorem dX9_hours_0 : decode cX9_hours 0 = .ok (.iload_n 1, 1) := by decide +kernel
theorem dX9_hours_1 : decode cX9_hours 1 = .ok (.iconst 1, 1) := by decide +kernel
theorem dX9_hours_2 : decode cX9_hours 2 = .ok (.if_icmp .lt 24, 3) := by decide +kernel
theorem dX9_hours_5 : decode cX9_hours 5 = .ok (.iload_n 1, 1) := by decide +kernel
theorem dX9_hours_6 : decode cX9_hours 6 = .ok (.bipush 100, 2) := by decide +kernel
theorem dX9_hours_8 : decode cX9_hours 8 = .ok (.if_icmp .gt 18, 3) := by decide +kernel
theorem dX9_hours_11 : decode cX9_hours 11 = .ok (.aload_n 0, 1) := by decide +kernel
theorem dX9_hours_12 : decode cX9_hours 12 = .ok (.getfield 10, 3) := by decide +kernel
theorem dX9_hours_15 : decode cX9_hours 15 = .ok (.getfield 126, 3) := by decide +kernel
theorem dX9_hours_18 : decode cX9_hours 18 = .ok (.iload_n 1, 1) := by decide +kernel
theorem dX9_hours_19 : decode cX9_hours 19 = .ok (.iadd, 1) := by decide +kernel
theorem dX9_hours_20 : decode cX9_hours 20 = .ok (.sipush 2000, 3) := by decide +kernel
theorem dX9_hours_23 : decode cX9_hours 23 = .ok (.if_icmp .le 5, 3) := by decide +kernel
theorem dX9_hours_26 : decode cX9_hours 26 = .ok (.iconst (-1), 1) := by decide +kernel
theorem dX9_hours_27 : decode cX9_hours 27 = .ok (.ireturn, 1) := by decide +kernel
theorem dX9_hours_28 : decode cX9_hours 28 = .ok (.iconst 0, 1) := by decide +kernel
theorem dX9_hours_29 : decode cX9_hours 29 = .ok (.istore_n 2, 1) := by decide +kernel
theorem dX9_hours_30 : decode cX9_hours 30 = .ok (.iload_n 2, 1) := by decide +kernel
theorem dX9_hours_31 : decode cX9_hours 31 = .ok (.iload_n 1, 1) := by decide +kernel
theorem dX9_hours_32 : decode cX9_hours 32 = .ok (.if_icmp .ge 16, 3) := by decide +kernel
theorem dX9_hours_35 : decode cX9_hours 35 = .ok (.aload_n 0, 1) := by decide +kernel
theorem dX9_hours_36 : decode cX9_hours 36 = .ok (.getfield 10, 3) := by decide +kernel
theorem dX9_hours_39 : decode cX9_hours 39 = .ok (.invokevirtual 147, 3) := by decide +kernel
theorem dX9_hours_42 : decode cX9_hours 42 = .ok (.iinc 2 1, 3) := by decide +kernel
theorem dX9_hours_45 : decode cX9_hours 45 = .ok (.goto (-15), 3) := by decide +kernel
theorem dX9_hours_48 : decode cX9_hours 48 = .ok (.aload_n 0, 1) := by decide +kernel
theorem dX9_hours_49 : decode cX9_hours 49 = .ok (.getfield 10, 3) := by decide +kernel
theorem dX9_hours_52 : decode cX9_hours 52 = .ok (.getfield 126, 3) := by decide +kernel
theorem dX9_hours_55 : decode cX9_hours 55 = .ok (.ireturn, 1) := by decide +kernel
set_option maxRecDepth 20000 in
theorem ggX9_moved_X5_isTold : GoodIn wsX9_moved wsX5_isTold := goodIn_r _ [7, 8, 86, 87, 88, 89] (by decide +kernel) (by decide +kernel)
set_option maxRecDepth 20000 in
theorem gX9_moved_X5_isTold : GoodIn wsX9_moved (wsV RX9 83 RX5 yX5_isTold wsX5_isTold) := goodIn_app (goodIn_of _ (by decide +kernel)) ggX9_moved_X5_isTold
set_option maxRecDepth 20000 in
theorem ggX9_moved_X0_hasLeft : GoodIn wsX9_moved wsX0_hasLeft := goodIn_r _ [13, 14, 15, 16, 17, 18, 19, 20, 21, 76, 77, 78, 79, 80, 81, 82, 83, 84, 85, 90, 91, 92] (by decide +kernel) (by decide +kernel)
set_option maxRecDepth 20000 in
theorem gX9_moved_X0_hasLeft : GoodIn wsX9_moved (wsV RX9 86 RX0 yX0_hasLeft wsX0_hasLeft) := goodIn_app (goodIn_of _ (by decide +kernel)) ggX9_moved_X0_hasLeft
theorem dX9_moved_0 : decode cX9_moved 0 = .ok (.aload_n 0, 1) := by decide +kernel
theorem dX9_moved_1 : decode cX9_moved 1 = .ok (.getfield 10, 3) := by decide +kernel
theorem dX9_moved_4 : decode cX9_moved 4 = .ok (.getfield 34, 3) := by decide +kernel
theorem dX9_moved_7 : decode cX9_moved 7 = .ok (.iload_n 1, 1) := by decide +kernel
theorem dX9_moved_8 : decode cX9_moved 8 = .ok (.invokevirtual 83, 3) := by decide +kernel
theorem dX9_moved_11 : decode cX9_moved 11 = .ok (.ifCond .eq 15, 3) := by decide +kernel
theorem dX9_moved_14 : decode cX9_moved 14 = .ok (.aload_n 0, 1) := by decide +kernel
theorem dX9_moved_15 : decode cX9_moved 15 = .ok (.getfield 10, 3) := by decide +kernel
theorem dX9_moved_18 : decode cX9_moved 18 = .ok (.iload_n 1, 1) := by decide +kernel
theorem dX9_moved_19 : decode cX9_moved 19 = .ok (.iconst 0, 1) := by decide +kernel
theorem dX9_moved_20 : decode cX9_moved 20 = .ok (.invokevirtual 86, 3) := by decide +kernel
theorem dX9_moved_23 : decode cX9_moved 23 = .ok (.ifCond .eq 5, 3) := by decide +kernel
theorem dX9_moved_26 : decode cX9_moved 26 = .ok (.iconst (-1), 1) := by decide +kernel
theorem dX9_moved_27 : decode cX9_moved 27 = .ok (.ireturn, 1) := by decide +kernel
theorem dX9_moved_28 : decode cX9_moved 28 = .ok (.aload_n 0, 1) := by decide +kernel
theorem dX9_moved_29 : decode cX9_moved 29 = .ok (.getfield 10, 3) := by decide +kernel
theorem dX9_moved_32 : decode cX9_moved 32 = .ok (.iload_n 1, 1) := by decide +kernel
theorem dX9_moved_33 : decode cX9_moved 33 = .ok (.invokevirtual 150, 3) := by decide +kernel
theorem dX9_moved_36 : decode cX9_moved 36 = .ok (.ireturn, 1) := by decide +kernel
set_option maxRecDepth 20000 in
theorem ggX9_wouldFit_X9_isOffice : GoodIn wsX9_wouldFit wsX9_isOffice := goodIn_r _ [5] (by decide +kernel) (by decide +kernel)
set_option maxRecDepth 20000 in
theorem gX9_wouldFit_X9_isOffice : GoodIn wsX9_wouldFit (va_wsS RX9 74 yX9_isOffice wsX9_isOffice) := goodIn_app (goodIn_of _ (by decide +kernel)) ggX9_wouldFit_X9_isOffice
set_option maxRecDepth 20000 in
theorem ggX9_wouldFit_X0_isRunStretch : GoodIn wsX9_wouldFit wsX0_isRunStretch := goodIn_r _ [10, 11, 12, 13, 14, 15, 16, 17, 18, 19, 20, 21, 22, 23, 24, 66, 67, 68, 69, 70, 71, 72, 73, 74, 75, 76, 77, 78, 79, 80, 81, 82] (by decide +kernel) (by decide +kernel)
set_option maxRecDepth 20000 in
theorem gX9_wouldFit_X0_isRunStretch : GoodIn wsX9_wouldFit (wsV RX9 94 RX0 yX0_isRunStretch wsX0_isRunStretch) := goodIn_app (goodIn_of _ (by decide +kernel)) ggX9_wouldFit_X0_isRunStretch
set_option maxRecDepth 20000 in
theorem ggX9_wouldFit_X0_hasLeft : GoodIn wsX9_wouldFit wsX0_hasLeft := goodIn_r _ [28, 29, 12, 30, 31, 32, 22, 33, 34, 66, 67, 68, 69, 70, 71, 72, 73, 74, 75, 80, 81, 82] (by decide +kernel) (by decide +kernel)
set_option maxRecDepth 20000 in
theorem gX9_wouldFit_X0_hasLeft : GoodIn wsX9_wouldFit (wsV RX9 86 RX0 yX0_hasLeft wsX0_hasLeft) := goodIn_app (goodIn_of _ (by decide +kernel)) ggX9_wouldFit_X0_hasLeft
theorem dX9_wouldFit_0 : decode cX9_wouldFit 0 = .ok (.iload_n 1, 1) := by decide +kernel
theorem dX9_wouldFit_1 : decode cX9_wouldFit 1 = .ok (.invokestatic 74, 3) := by decide +kernel
theorem dX9_wouldFit_4 : decode cX9_wouldFit 4 = .ok (.ifCond .eq 29, 3) := by decide +kernel
theorem dX9_wouldFit_7 : decode cX9_wouldFit 7 = .ok (.aload_n 0, 1) := by decide +kernel
theorem dX9_wouldFit_8 : decode cX9_wouldFit 8 = .ok (.getfield 10, 3) := by decide +kernel
theorem dX9_wouldFit_11 : decode cX9_wouldFit 11 = .ok (.iload_n 2, 1) := by decide +kernel
theorem dX9_wouldFit_12 : decode cX9_wouldFit 12 = .ok (.iload_n 3, 1) := by decide +kernel
theorem dX9_wouldFit_13 : decode cX9_wouldFit 13 = .ok (.iload 4, 2) := by decide +kernel
theorem dX9_wouldFit_15 : decode cX9_wouldFit 15 = .ok (.invokevirtual 94, 3) := by decide +kernel
theorem dX9_wouldFit_18 : decode cX9_wouldFit 18 = .ok (.ifCond .eq 15, 3) := by decide +kernel
theorem dX9_wouldFit_21 : decode cX9_wouldFit 21 = .ok (.aload_n 0, 1) := by decide +kernel
theorem dX9_wouldFit_22 : decode cX9_wouldFit 22 = .ok (.getfield 10, 3) := by decide +kernel
theorem dX9_wouldFit_25 : decode cX9_wouldFit 25 = .ok (.iload_n 2, 1) := by decide +kernel
theorem dX9_wouldFit_26 : decode cX9_wouldFit 26 = .ok (.iconst 0, 1) := by decide +kernel
theorem dX9_wouldFit_27 : decode cX9_wouldFit 27 = .ok (.invokevirtual 86, 3) := by decide +kernel
theorem dX9_wouldFit_30 : decode cX9_wouldFit 30 = .ok (.ifCond .eq 5, 3) := by decide +kernel
theorem dX9_wouldFit_33 : decode cX9_wouldFit 33 = .ok (.iconst 0, 1) := by decide +kernel
theorem dX9_wouldFit_34 : decode cX9_wouldFit 34 = .ok (.ireturn, 1) := by decide +kernel
theorem dX9_wouldFit_35 : decode cX9_wouldFit 35 = .ok (.aload_n 0, 1) := by decide +kernel
theorem dX9_wouldFit_36 : decode cX9_wouldFit 36 = .ok (.getfield 10, 3) := by decide +kernel
theorem dX9_wouldFit_39 : decode cX9_wouldFit 39 = .ok (.iload_n 1, 1) := by decide +kernel
theorem dX9_wouldFit_40 : decode cX9_wouldFit 40 = .ok (.iload_n 2, 1) := by decide +kernel
theorem dX9_wouldFit_41 : decode cX9_wouldFit 41 = .ok (.iload_n 3, 1) := by decide +kernel
theorem dX9_wouldFit_42 : decode cX9_wouldFit 42 = .ok (.iload 4, 2) := by decide +kernel
theorem dX9_wouldFit_44 : decode cX9_wouldFit 44 = .ok (.invokevirtual 154, 3) := by decide +kernel
theorem dX9_wouldFit_47 : decode cX9_wouldFit 47 = .ok (.ireturn, 1) := by decide +kernel
set_option maxRecDepth 20000 in
theorem ggX9_ticket_X7_has : GoodIn wsX9_ticket wsX7_has := goodIn_r _ [13, 14, 29, 30, 31, 32, 33, 34, 35] (by decide +kernel) (by decide +kernel)
set_option maxRecDepth 20000 in
theorem gX9_ticket_X7_has : GoodIn wsX9_ticket (wsV RX9 106 RX7 yX7_has wsX7_has) := goodIn_app (goodIn_of _ (by decide +kernel)) ggX9_ticket_X7_has
theorem dX9_ticket_0 : decode cX9_ticket 0 = .ok (.aload_n 0, 1) := by decide +kernel
theorem dX9_ticket_1 : decode cX9_ticket 1 = .ok (.getfield 10, 3) := by decide +kernel
theorem dX9_ticket_4 : decode cX9_ticket 4 = .ok (.getfield 102, 3) := by decide +kernel
theorem dX9_ticket_7 : decode cX9_ticket 7 = .ok (.iload_n 1, 1) := by decide +kernel
theorem dX9_ticket_8 : decode cX9_ticket 8 = .ok (.invokevirtual 106, 3) := by decide +kernel
theorem dX9_ticket_11 : decode cX9_ticket 11 = .ok (.ifCond .ne 5, 3) := by decide +kernel
theorem dX9_ticket_14 : decode cX9_ticket 14 = .ok (.iconst (-1), 1) := by decide +kernel
theorem dX9_ticket_15 : decode cX9_ticket 15 = .ok (.ireturn, 1) := by decide +kernel
theorem dX9_ticket_16 : decode cX9_ticket 16 = .ok (.iload_n 2, 1) := by decide +kernel
theorem dX9_ticket_17 : decode cX9_ticket 17 = .ok (.tableswitch 117 0 5 #[39, 52, 65, 78, 91, 104], 39) := by decide +kernel
theorem dX9_ticket_56 : decode cX9_ticket 56 = .ok (.aload_n 0, 1) := by decide +kernel
theorem dX9_ticket_57 : decode cX9_ticket 57 = .ok (.getfield 10, 3) := by decide +kernel
theorem dX9_ticket_60 : decode cX9_ticket 60 = .ok (.getfield 102, 3) := by decide +kernel
theorem dX9_ticket_63 : decode cX9_ticket 63 = .ok (.getfield 158, 3) := by decide +kernel
theorem dX9_ticket_66 : decode cX9_ticket 66 = .ok (.iload_n 1, 1) := by decide +kernel
theorem dX9_ticket_67 : decode cX9_ticket 67 = .ok (.iaload, 1) := by decide +kernel
theorem dX9_ticket_68 : decode cX9_ticket 68 = .ok (.ireturn, 1) := by decide +kernel
theorem dX9_ticket_69 : decode cX9_ticket 69 = .ok (.aload_n 0, 1) := by decide +kernel
theorem dX9_ticket_70 : decode cX9_ticket 70 = .ok (.getfield 10, 3) := by decide +kernel
theorem dX9_ticket_73 : decode cX9_ticket 73 = .ok (.getfield 102, 3) := by decide +kernel
theorem dX9_ticket_76 : decode cX9_ticket 76 = .ok (.getfield 161, 3) := by decide +kernel
theorem dX9_ticket_79 : decode cX9_ticket 79 = .ok (.iload_n 1, 1) := by decide +kernel
theorem dX9_ticket_80 : decode cX9_ticket 80 = .ok (.iaload, 1) := by decide +kernel
theorem dX9_ticket_81 : decode cX9_ticket 81 = .ok (.ireturn, 1) := by decide +kernel
theorem dX9_ticket_82 : decode cX9_ticket 82 = .ok (.aload_n 0, 1) := by decide +kernel
theorem dX9_ticket_83 : decode cX9_ticket 83 = .ok (.getfield 10, 3) := by decide +kernel
theorem dX9_ticket_86 : decode cX9_ticket 86 = .ok (.getfield 102, 3) := by decide +kernel
theorem dX9_ticket_89 : decode cX9_ticket 89 = .ok (.getfield 164, 3) := by decide +kernel
theorem dX9_ticket_92 : decode cX9_ticket 92 = .ok (.iload_n 1, 1) := by decide +kernel
theorem dX9_ticket_93 : decode cX9_ticket 93 = .ok (.iaload, 1) := by decide +kernel
theorem dX9_ticket_94 : decode cX9_ticket 94 = .ok (.ireturn, 1) := by decide +kernel
theorem dX9_ticket_95 : decode cX9_ticket 95 = .ok (.aload_n 0, 1) := by decide +kernel
theorem dX9_ticket_96 : decode cX9_ticket 96 = .ok (.getfield 10, 3) := by decide +kernel
theorem dX9_ticket_99 : decode cX9_ticket 99 = .ok (.getfield 102, 3) := by decide +kernel
theorem dX9_ticket_102 : decode cX9_ticket 102 = .ok (.getfield 167, 3) := by decide +kernel
theorem dX9_ticket_105 : decode cX9_ticket 105 = .ok (.iload_n 1, 1) := by decide +kernel
theorem dX9_ticket_106 : decode cX9_ticket 106 = .ok (.iaload, 1) := by decide +kernel
theorem dX9_ticket_107 : decode cX9_ticket 107 = .ok (.ireturn, 1) := by decide +kernel
theorem dX9_ticket_108 : decode cX9_ticket 108 = .ok (.aload_n 0, 1) := by decide +kernel
theorem dX9_ticket_109 : decode cX9_ticket 109 = .ok (.getfield 10, 3) := by decide +kernel
theorem dX9_ticket_112 : decode cX9_ticket 112 = .ok (.getfield 102, 3) := by decide +kernel
theorem dX9_ticket_115 : decode cX9_ticket 115 = .ok (.getfield 170, 3) := by decide +kernel
theorem dX9_ticket_118 : decode cX9_ticket 118 = .ok (.iload_n 1, 1) := by decide +kernel
theorem dX9_ticket_119 : decode cX9_ticket 119 = .ok (.iaload, 1) := by decide +kernel
theorem dX9_ticket_120 : decode cX9_ticket 120 = .ok (.ireturn, 1) := by decide +kernel
theorem dX9_ticket_121 : decode cX9_ticket 121 = .ok (.aload_n 0, 1) := by decide +kernel
theorem dX9_ticket_122 : decode cX9_ticket 122 = .ok (.getfield 10, 3) := by decide +kernel
theorem dX9_ticket_125 : decode cX9_ticket 125 = .ok (.getfield 102, 3) := by decide +kernel
theorem dX9_ticket_128 : decode cX9_ticket 128 = .ok (.getfield 173, 3) := by decide +kernel
theorem dX9_ticket_131 : decode cX9_ticket 131 = .ok (.iload_n 1, 1) := by decide +kernel
theorem dX9_ticket_132 : decode cX9_ticket 132 = .ok (.iaload, 1) := by decide +kernel
theorem dX9_ticket_133 : decode cX9_ticket 133 = .ok (.ireturn, 1) := by decide +kernel
theorem dX9_ticket_134 : decode cX9_ticket 134 = .ok (.iconst (-1), 1) := by decide +kernel
theorem dX9_ticket_135 : decode cX9_ticket 135 = .ok (.ireturn, 1) := by decide +kernel
set_option maxRecDepth 20000 in
theorem ggX9_lies_X5_hasBerth : GoodIn wsX9_lies wsX5_hasBerth := goodIn_r _ [9, 10, 11, 12, 13, 8, 14, 50, 51, 52, 53] (by decide +kernel) (by decide +kernel)
set_option maxRecDepth 20000 in
theorem gX9_lies_X5_hasBerth : GoodIn wsX9_lies (wsV RX9 176 RX5 yX5_hasBerth wsX5_hasBerth) := goodIn_app (goodIn_of _ (by decide +kernel)) ggX9_lies_X5_hasBerth
set_option maxRecDepth 20000 in
theorem ggX9_lies_X4_hasLeg : GoodIn wsX9_lies wsX4_hasLeg := goodIn_r _ [19, 20, 54, 55, 56] (by decide +kernel) (by decide +kernel)
set_option maxRecDepth 20000 in
theorem gX9_lies_X4_hasLeg : GoodIn wsX9_lies (wsV RX9 64 RX4 yX4_hasLeg wsX4_hasLeg) := goodIn_app (goodIn_of _ (by decide +kernel)) ggX9_lies_X4_hasLeg
theorem dX9_lies_0 : decode cX9_lies 0 = .ok (.aload_n 0, 1) := by decide +kernel
theorem dX9_lies_1 : decode cX9_lies 1 = .ok (.getfield 10, 3) := by decide +kernel
theorem dX9_lies_4 : decode cX9_lies 4 = .ok (.getfield 34, 3) := by decide +kernel
theorem dX9_lies_7 : decode cX9_lies 7 = .ok (.iload_n 1, 1) := by decide +kernel
theorem dX9_lies_8 : decode cX9_lies 8 = .ok (.iload_n 2, 1) := by decide +kernel
theorem dX9_lies_9 : decode cX9_lies 9 = .ok (.invokevirtual 176, 3) := by decide +kernel
theorem dX9_lies_12 : decode cX9_lies 12 = .ok (.ifCond .eq 17, 3) := by decide +kernel
theorem dX9_lies_15 : decode cX9_lies 15 = .ok (.aload_n 0, 1) := by decide +kernel
theorem dX9_lies_16 : decode cX9_lies 16 = .ok (.getfield 10, 3) := by decide +kernel
theorem dX9_lies_19 : decode cX9_lies 19 = .ok (.getfield 44, 3) := by decide +kernel
theorem dX9_lies_22 : decode cX9_lies 22 = .ok (.iload_n 3, 1) := by decide +kernel
theorem dX9_lies_23 : decode cX9_lies 23 = .ok (.invokevirtual 64, 3) := by decide +kernel
theorem dX9_lies_26 : decode cX9_lies 26 = .ok (.ifCond .ne 6, 3) := by decide +kernel
theorem dX9_lies_29 : decode cX9_lies 29 = .ok (.bipush (-2), 2) := by decide +kernel
theorem dX9_lies_31 : decode cX9_lies 31 = .ok (.ireturn, 1) := by decide +kernel
theorem dX9_lies_32 : decode cX9_lies 32 = .ok (.aload_n 0, 1) := by decide +kernel
theorem dX9_lies_33 : decode cX9_lies 33 = .ok (.getfield 10, 3) := by decide +kernel
theorem dX9_lies_36 : decode cX9_lies 36 = .ok (.getfield 102, 3) := by decide +kernel
theorem dX9_lies_39 : decode cX9_lies 39 = .ok (.iload_n 1, 1) := by decide +kernel
theorem dX9_lies_40 : decode cX9_lies 40 = .ok (.iload_n 2, 1) := by decide +kernel
theorem dX9_lies_41 : decode cX9_lies 41 = .ok (.iload_n 3, 1) := by decide +kernel
theorem dX9_lies_42 : decode cX9_lies 42 = .ok (.invokevirtual 179, 3) := by decide +kernel
theorem dX9_lies_45 : decode cX9_lies 45 = .ok (.ireturn, 1) := by decide +kernel
set_option maxRecDepth 20000 in
theorem ggX9_told_X5_isTold : GoodIn wsX9_told wsX5_isTold := goodIn_r _ [9, 10, 92, 93, 94, 95] (by decide +kernel) (by decide +kernel)
set_option maxRecDepth 20000 in
theorem gX9_told_X5_isTold : GoodIn wsX9_told (wsV RX9 83 RX5 yX5_isTold wsX5_isTold) := goodIn_app (goodIn_of _ (by decide +kernel)) ggX9_told_X5_isTold
set_option maxRecDepth 20000 in
theorem ggX9_told_X0_hasLeft : GoodIn wsX9_told wsX0_hasLeft := goodIn_r _ [55, 56, 28, 57, 58, 59, 60, 61, 62, 82, 83, 84, 85, 86, 87, 88, 89, 90, 91, 103, 104, 105] (by decide +kernel) (by decide +kernel)
set_option maxRecDepth 20000 in
theorem gX9_told_X0_hasLeft : GoodIn wsX9_told (wsV RX9 86 RX0 yX0_hasLeft wsX0_hasLeft) := goodIn_app (goodIn_of _ (by decide +kernel)) ggX9_told_X0_hasLeft
theorem dX9_told_0 : decode cX9_told 0 = .ok (.aload_n 0, 1) := by decide +kernel
theorem dX9_told_1 : decode cX9_told 1 = .ok (.getfield 10, 3) := by decide +kernel
theorem dX9_told_4 : decode cX9_told 4 = .ok (.getfield 34, 3) := by decide +kernel
theorem dX9_told_7 : decode cX9_told 7 = .ok (.iload_n 1, 1) := by decide +kernel
theorem dX9_told_8 : decode cX9_told 8 = .ok (.invokevirtual 83, 3) := by decide +kernel
theorem dX9_told_11 : decode cX9_told 11 = .ok (.ifCond .ne 5, 3) := by decide +kernel
theorem dX9_told_14 : decode cX9_told 14 = .ok (.iconst (-1), 1) := by decide +kernel
theorem dX9_told_15 : decode cX9_told 15 = .ok (.ireturn, 1) := by decide +kernel
theorem dX9_told_16 : decode cX9_told 16 = .ok (.iload_n 2, 1) := by decide +kernel
theorem dX9_told_17 : decode cX9_told 17 = .ok (.tableswitch 100 0 5 #[39, 52, 64, 73, 52, 82], 39) := by decide +kernel
theorem dX9_told_56 : decode cX9_told 56 = .ok (.aload_n 0, 1) := by decide +kernel
theorem dX9_told_57 : decode cX9_told 57 = .ok (.getfield 10, 3) := by decide +kernel
theorem dX9_told_60 : decode cX9_told 60 = .ok (.getfield 34, 3) := by decide +kernel
theorem dX9_told_63 : decode cX9_told 63 = .ok (.getfield 183, 3) := by decide +kernel
theorem dX9_told_66 : decode cX9_told 66 = .ok (.iload_n 1, 1) := by decide +kernel
theorem dX9_told_67 : decode cX9_told 67 = .ok (.iaload, 1) := by decide +kernel
theorem dX9_told_68 : decode cX9_told 68 = .ok (.ireturn, 1) := by decide +kernel
theorem dX9_told_69 : decode cX9_told 69 = .ok (.aload_n 0, 1) := by decide +kernel
theorem dX9_told_70 : decode cX9_told 70 = .ok (.getfield 10, 3) := by decide +kernel
theorem dX9_told_73 : decode cX9_told 73 = .ok (.getfield 102, 3) := by decide +kernel
theorem dX9_told_76 : decode cX9_told 76 = .ok (.iload_n 1, 1) := by decide +kernel
theorem dX9_told_77 : decode cX9_told 77 = .ok (.invokevirtual 184, 3) := by decide +kernel
theorem dX9_told_80 : decode cX9_told 80 = .ok (.ireturn, 1) := by decide +kernel
theorem dX9_told_81 : decode cX9_told 81 = .ok (.aload_n 0, 1) := by decide +kernel
theorem dX9_told_82 : decode cX9_told 82 = .ok (.getfield 10, 3) := by decide +kernel
theorem dX9_told_85 : decode cX9_told 85 = .ok (.iload_n 1, 1) := by decide +kernel
theorem dX9_told_86 : decode cX9_told 86 = .ok (.invokevirtual 187, 3) := by decide +kernel
theorem dX9_told_89 : decode cX9_told 89 = .ok (.ireturn, 1) := by decide +kernel
theorem dX9_told_90 : decode cX9_told 90 = .ok (.aload_n 0, 1) := by decide +kernel
theorem dX9_told_91 : decode cX9_told 91 = .ok (.getfield 10, 3) := by decide +kernel
theorem dX9_told_94 : decode cX9_told 94 = .ok (.iload_n 1, 1) := by decide +kernel
theorem dX9_told_95 : decode cX9_told 95 = .ok (.invokevirtual 190, 3) := by decide +kernel
theorem dX9_told_98 : decode cX9_told 98 = .ok (.ireturn, 1) := by decide +kernel
theorem dX9_told_99 : decode cX9_told 99 = .ok (.aload_n 0, 1) := by decide +kernel
theorem dX9_told_100 : decode cX9_told 100 = .ok (.getfield 10, 3) := by decide +kernel
theorem dX9_told_103 : decode cX9_told 103 = .ok (.iload_n 1, 1) := by decide +kernel
theorem dX9_told_104 : decode cX9_told 104 = .ok (.iconst 0, 1) := by decide +kernel
theorem dX9_told_105 : decode cX9_told 105 = .ok (.invokevirtual 86, 3) := by decide +kernel
theorem dX9_told_108 : decode cX9_told 108 = .ok (.ifCond .eq 7, 3) := by decide +kernel
theorem dX9_told_111 : decode cX9_told 111 = .ok (.iconst 1, 1) := by decide +kernel
theorem dX9_told_112 : decode cX9_told 112 = .ok (.goto 4, 3) := by decide +kernel
theorem dX9_told_115 : decode cX9_told 115 = .ok (.iconst 0, 1) := by decide +kernel
theorem dX9_told_116 : decode cX9_told 116 = .ok (.ireturn, 1) := by decide +kernel
theorem dX9_told_117 : decode cX9_told 117 = .ok (.aload_n 0, 1) := by decide +kernel
theorem dX9_told_118 : decode cX9_told 118 = .ok (.iload_n 1, 1) := by decide +kernel
theorem dX9_told_119 : decode cX9_told 119 = .ok (.iload_n 2, 1) := by decide +kernel
theorem dX9_told_120 : decode cX9_told 120 = .ok (.invokevirtual 193, 3) := by decide +kernel
theorem dX9_told_123 : decode cX9_told 123 = .ok (.ireturn, 1) := by decide +kernel
set_option maxRecDepth 20000 in
theorem ggX9_feed_X6_append : GoodIn wsX9_feed wsX6_append := goodIn_r _ [7, 8, 9, 14, 15] (by decide +kernel) (by decide +kernel)
set_option maxRecDepth 20000 in
theorem gX9_feed_X6_append : GoodIn wsX9_feed (wsV RX9 197 RX6 yX6_append wsX6_append) := goodIn_app (goodIn_of _ (by decide +kernel)) ggX9_feed_X6_append
theorem dX9_feed_0 : decode cX9_feed 0 = .ok (.aload_n 0, 1) := by decide +kernel
theorem dX9_feed_1 : decode cX9_feed 1 = .ok (.getfield 23, 3) := by decide +kernel
theorem dX9_feed_4 : decode cX9_feed 4 = .ok (.getfield 196, 3) := by decide +kernel
theorem dX9_feed_7 : decode cX9_feed 7 = .ok (.bipush 20, 2) := by decide +kernel
theorem dX9_feed_9 : decode cX9_feed 9 = .ok (.iadd, 1) := by decide +kernel
theorem dX9_feed_10 : decode cX9_feed 10 = .ok (.sipush 400, 3) := by decide +kernel
theorem dX9_feed_13 : decode cX9_feed 13 = .ok (.if_icmp .le 5, 3) := by decide +kernel
theorem dX9_feed_16 : decode cX9_feed 16 = .ok (.iconst (-1), 1) := by decide +kernel
theorem dX9_feed_17 : decode cX9_feed 17 = .ok (.ireturn, 1) := by decide +kernel
theorem dX9_feed_18 : decode cX9_feed 18 = .ok (.aload_n 0, 1) := by decide +kernel
theorem dX9_feed_19 : decode cX9_feed 19 = .ok (.getfield 23, 3) := by decide +kernel
theorem dX9_feed_22 : decode cX9_feed 22 = .ok (.iload_n 1, 1) := by decide +kernel
theorem dX9_feed_23 : decode cX9_feed 23 = .ok (.invokevirtual 197, 3) := by decide +kernel
theorem dX9_feed_26 : decode cX9_feed 26 = .ok (.aload_n 0, 1) := by decide +kernel
theorem dX9_feed_27 : decode cX9_feed 27 = .ok (.getfield 23, 3) := by decide +kernel
theorem dX9_feed_30 : decode cX9_feed 30 = .ok (.iload_n 2, 1) := by decide +kernel
theorem dX9_feed_31 : decode cX9_feed 31 = .ok (.invokevirtual 197, 3) := by decide +kernel
theorem dX9_feed_34 : decode cX9_feed 34 = .ok (.aload_n 0, 1) := by decide +kernel
theorem dX9_feed_35 : decode cX9_feed 35 = .ok (.getfield 23, 3) := by decide +kernel
theorem dX9_feed_38 : decode cX9_feed 38 = .ok (.iload_n 3, 1) := by decide +kernel
theorem dX9_feed_39 : decode cX9_feed 39 = .ok (.invokevirtual 197, 3) := by decide +kernel
theorem dX9_feed_42 : decode cX9_feed 42 = .ok (.aload_n 0, 1) := by decide +kernel
theorem dX9_feed_43 : decode cX9_feed 43 = .ok (.getfield 23, 3) := by decide +kernel
theorem dX9_feed_46 : decode cX9_feed 46 = .ok (.iload 4, 2) := by decide +kernel
theorem dX9_feed_48 : decode cX9_feed 48 = .ok (.invokevirtual 197, 3) := by decide +kernel
theorem dX9_feed_51 : decode cX9_feed 51 = .ok (.aload_n 0, 1) := by decide +kernel
theorem dX9_feed_52 : decode cX9_feed 52 = .ok (.getfield 23, 3) := by decide +kernel
theorem dX9_feed_55 : decode cX9_feed 55 = .ok (.iload 5, 2) := by decide +kernel
theorem dX9_feed_57 : decode cX9_feed 57 = .ok (.invokevirtual 197, 3) := by decide +kernel
theorem dX9_feed_60 : decode cX9_feed 60 = .ok (.aload_n 0, 1) := by decide +kernel
theorem dX9_feed_61 : decode cX9_feed 61 = .ok (.getfield 23, 3) := by decide +kernel
theorem dX9_feed_64 : decode cX9_feed 64 = .ok (.getfield 196, 3) := by decide +kernel
theorem dX9_feed_67 : decode cX9_feed 67 = .ok (.ireturn, 1) := by decide +kernel
theorem dX9_end_0 : decode cX9_end 0 = .ok (.iload_n 1, 1) := by decide +kernel
theorem dX9_end_1 : decode cX9_end 1 = .ok (.ifCond .lt 14, 3) := by decide +kernel
theorem dX9_end_4 : decode cX9_end 4 = .ok (.iload_n 1, 1) := by decide +kernel
theorem dX9_end_5 : decode cX9_end 5 = .ok (.aload_n 0, 1) := by decide +kernel
theorem dX9_end_6 : decode cX9_end 6 = .ok (.getfield 23, 3) := by decide +kernel
theorem dX9_end_9 : decode cX9_end 9 = .ok (.getfield 196, 3) := by decide +kernel
theorem dX9_end_12 : decode cX9_end 12 = .ok (.if_icmp .le 5, 3) := by decide +kernel
theorem dX9_end_15 : decode cX9_end 15 = .ok (.iconst (-1), 1) := by decide +kernel
theorem dX9_end_16 : decode cX9_end 16 = .ok (.ireturn, 1) := by decide +kernel
theorem dX9_end_17 : decode cX9_end 17 = .ok (.aload_n 0, 1) := by decide +kernel
theorem dX9_end_18 : decode cX9_end 18 = .ok (.getfield 23, 3) := by decide +kernel
theorem dX9_end_21 : decode cX9_end 21 = .ok (.iload_n 1, 1) := by decide +kernel
theorem dX9_end_22 : decode cX9_end 22 = .ok (.putfield 196, 3) := by decide +kernel
theorem dX9_end_25 : decode cX9_end 25 = .ok (.iload_n 1, 1) := by decide +kernel
theorem dX9_end_26 : decode cX9_end 26 = .ok (.ireturn, 1) := by decide +kernel
set_option maxRecDepth 20000 in
theorem ggX9_contract_X3_read : GoodIn wsX9_contract wsX3_read := goodIn_r _ [13, 14, 15, 16, 17, 18, 19, 20, 21, 22, 23, 24, 25, 26, 27, 28, 29, 30, 31, 32, 33, 34, 35, 36, 37, 38, 39, 40, 41, 42, 43, 44, 45, 46, 47, 48, 49, 50, 51, 52, 53, 54, 55, 56, 57, 58, 59, 60, 61, 62, 63, 64, 65, 66, 67, 68, 69, 70, 71, 72, 73, 74, 75, 76, 77, 78, 79, 80, 81, 82, 83, 84, 85, 86, 87, 88, 89, 90, 91, 92, 93, 94, 95, 96, 97, 98, 99, 100, 101, 102, 103, 104, 105, 106, 107, 108, 109, 110, 111, 112, 113, 114, 115, 116, 117, 118, 119, 120, 121, 122, 123, 124, 125, 126, 12, 127, 128, 129, 130, 131, 132, 133, 134, 135, 136, 137, 138, 139, 140, 141, 142, 143, 144, 145, 146, 147, 148, 149, 150, 151, 152, 153, 154, 155, 156, 157, 158, 159, 160, 161, 162, 163, 164, 165, 166, 167, 168, 169, 170, 171, 172, 173, 174, 175, 176, 177, 192, 193, 194, 195, 196, 197, 208, 209, 210, 211, 212, 213, 214, 215, 216, 217, 218, 219, 190, 191] (by decide +kernel) (by decide +kernel)
set_option maxRecDepth 20000 in
theorem gX9_contract_X3_read : GoodIn wsX9_contract (wsV RX9 200 RX3 yX3_read wsX3_read) := goodIn_app (goodIn_of _ (by decide +kernel)) ggX9_contract_X3_read
set_option maxRecDepth 20000 in
theorem ggX9_contract_X2_copyFrom : GoodIn wsX9_contract wsX2_copyFrom := goodIn_r _ [181, 25, 176, 182, 183, 184, 185, 177, 26, 164, 165, 166, 167, 208, 209, 210, 211, 212, 213, 214, 215] (by decide +kernel) (by decide +kernel)
set_option maxRecDepth 20000 in
theorem gX9_contract_X2_copyFrom : GoodIn wsX9_contract (wsV RX9 214 RX2 yX2_copyFrom wsX2_copyFrom) := goodIn_app (goodIn_of _ (by decide +kernel)) ggX9_contract_X2_copyFrom
theorem dX9_contract_0 : decode cX9_contract 0 = .ok (.aload_n 0, 1) := by decide +kernel
theorem dX9_contract_1 : decode cX9_contract 1 = .ok (.getfield 30, 3) := by decide +kernel
theorem dX9_contract_4 : decode cX9_contract 4 = .ok (.aload_n 0, 1) := by decide +kernel
theorem dX9_contract_5 : decode cX9_contract 5 = .ok (.getfield 23, 3) := by decide +kernel
theorem dX9_contract_8 : decode cX9_contract 8 = .ok (.invokevirtual 200, 3) := by decide +kernel
theorem dX9_contract_11 : decode cX9_contract 11 = .ok (.aload_n 0, 1) := by decide +kernel
theorem dX9_contract_12 : decode cX9_contract 12 = .ok (.getfield 23, 3) := by decide +kernel
theorem dX9_contract_15 : decode cX9_contract 15 = .ok (.iconst 0, 1) := by decide +kernel
theorem dX9_contract_16 : decode cX9_contract 16 = .ok (.putfield 196, 3) := by decide +kernel
theorem dX9_contract_19 : decode cX9_contract 19 = .ok (.aload_n 0, 1) := by decide +kernel
theorem dX9_contract_20 : decode cX9_contract 20 = .ok (.getfield 30, 3) := by decide +kernel
theorem dX9_contract_23 : decode cX9_contract 23 = .ok (.getfield 204, 3) := by decide +kernel
theorem dX9_contract_26 : decode cX9_contract 26 = .ok (.ifCond .eq 5, 3) := by decide +kernel
theorem dX9_contract_29 : decode cX9_contract 29 = .ok (.iconst (-1), 1) := by decide +kernel
theorem dX9_contract_30 : decode cX9_contract 30 = .ok (.ireturn, 1) := by decide +kernel
theorem dX9_contract_31 : decode cX9_contract 31 = .ok (.aload_n 0, 1) := by decide +kernel
theorem dX9_contract_32 : decode cX9_contract 32 = .ok (.getfield 10, 3) := by decide +kernel
theorem dX9_contract_35 : decode cX9_contract 35 = .ok (.getfield 207, 3) := by decide +kernel
theorem dX9_contract_38 : decode cX9_contract 38 = .ok (.aload_n 0, 1) := by decide +kernel
theorem dX9_contract_39 : decode cX9_contract 39 = .ok (.getfield 30, 3) := by decide +kernel
theorem dX9_contract_42 : decode cX9_contract 42 = .ok (.getfield 211, 3) := by decide +kernel
theorem dX9_contract_45 : decode cX9_contract 45 = .ok (.invokevirtual 214, 3) := by decide +kernel
theorem dX9_contract_48 : decode cX9_contract 48 = .ok (.aload_n 0, 1) := by decide +kernel
theorem dX9_contract_49 : decode cX9_contract 49 = .ok (.getfield 10, 3) := by decide +kernel
theorem dX9_contract_52 : decode cX9_contract 52 = .ok (.getfield 207, 3) := by decide +kernel
theorem dX9_contract_55 : decode cX9_contract 55 = .ok (.getfield 220, 3) := by decide +kernel
theorem dX9_contract_58 : decode cX9_contract 58 = .ok (.ireturn, 1) := by decide +kernel
theorem dX9_fault_0 : decode cX9_fault 0 = .ok (.iload_n 1, 1) := by decide +kernel
theorem dX9_fault_1 : decode cX9_fault 1 = .ok (.lookupswitch 43 #[(0, 27), (1, 35)], 27) := by decide +kernel
theorem dX9_fault_28 : decode cX9_fault 28 = .ok (.aload_n 0, 1) := by decide +kernel
theorem dX9_fault_29 : decode cX9_fault 29 = .ok (.getfield 30, 3) := by decide +kernel
theorem dX9_fault_32 : decode cX9_fault 32 = .ok (.getfield 204, 3) := by decide +kernel
theorem dX9_fault_35 : decode cX9_fault 35 = .ok (.ireturn, 1) := by decide +kernel
theorem dX9_fault_36 : decode cX9_fault 36 = .ok (.aload_n 0, 1) := by decide +kernel
theorem dX9_fault_37 : decode cX9_fault 37 = .ok (.getfield 30, 3) := by decide +kernel
theorem dX9_fault_40 : decode cX9_fault 40 = .ok (.getfield 223, 3) := by decide +kernel
theorem dX9_fault_43 : decode cX9_fault 43 = .ok (.ireturn, 1) := by decide +kernel
theorem dX9_fault_44 : decode cX9_fault 44 = .ok (.iconst (-1), 1) := by decide +kernel
theorem dX9_fault_45 : decode cX9_fault 45 = .ok (.ireturn, 1) := by decide +kernel
set_option maxRecDepth 20000 in
theorem ggX9_cost_X5_isTold : GoodIn wsX9_cost wsX5_isTold := goodIn_r _ [8, 9, 93, 94, 95, 96] (by decide +kernel) (by decide +kernel)
set_option maxRecDepth 20000 in
theorem gX9_cost_X5_isTold : GoodIn wsX9_cost (wsV RX9 83 RX5 yX5_isTold wsX5_isTold) := goodIn_app (goodIn_of _ (by decide +kernel)) ggX9_cost_X5_isTold
set_option maxRecDepth 20000 in
theorem ggX9_cost_X4_hasLeg : GoodIn wsX9_cost wsX4_hasLeg := goodIn_r _ [76, 77, 97, 98, 99] (by decide +kernel) (by decide +kernel)
set_option maxRecDepth 20000 in
theorem gX9_cost_X4_hasLeg : GoodIn wsX9_cost (wsV RX9 64 RX4 yX4_hasLeg wsX4_hasLeg) := goodIn_app (goodIn_of _ (by decide +kernel)) ggX9_cost_X4_hasLeg
theorem dX9_cost_0 : decode cX9_cost 0 = .ok (.aload_n 0, 1) := by decide +kernel
theorem dX9_cost_1 : decode cX9_cost 1 = .ok (.getfield 10, 3) := by decide +kernel
theorem dX9_cost_4 : decode cX9_cost 4 = .ok (.getfield 34, 3) := by decide +kernel
theorem dX9_cost_7 : decode cX9_cost 7 = .ok (.iload_n 1, 1) := by decide +kernel
theorem dX9_cost_8 : decode cX9_cost 8 = .ok (.invokevirtual 83, 3) := by decide +kernel
theorem dX9_cost_11 : decode cX9_cost 11 = .ok (.ifCond .ne 5, 3) := by decide +kernel
theorem dX9_cost_14 : decode cX9_cost 14 = .ok (.lconst 0, 1) := by decide +kernel
theorem dX9_cost_15 : decode cX9_cost 15 = .ok (.lreturn, 1) := by decide +kernel
theorem dX9_cost_16 : decode cX9_cost 16 = .ok (.iload_n 2, 1) := by decide +kernel
theorem dX9_cost_17 : decode cX9_cost 17 = .ok (.iconst (-1), 1) := by decide +kernel
theorem dX9_cost_18 : decode cX9_cost 18 = .ok (.if_icmp .ne 12, 3) := by decide +kernel
theorem dX9_cost_21 : decode cX9_cost 21 = .ok (.aload_n 0, 1) := by decide +kernel
theorem dX9_cost_22 : decode cX9_cost 22 = .ok (.getfield 10, 3) := by decide +kernel
theorem dX9_cost_25 : decode cX9_cost 25 = .ok (.iload_n 1, 1) := by decide +kernel
theorem dX9_cost_26 : decode cX9_cost 26 = .ok (.invokevirtual 226, 3) := by decide +kernel
theorem dX9_cost_29 : decode cX9_cost 29 = .ok (.lreturn, 1) := by decide +kernel
theorem dX9_cost_30 : decode cX9_cost 30 = .ok (.aload_n 0, 1) := by decide +kernel
theorem dX9_cost_31 : decode cX9_cost 31 = .ok (.getfield 10, 3) := by decide +kernel
theorem dX9_cost_34 : decode cX9_cost 34 = .ok (.getfield 44, 3) := by decide +kernel
theorem dX9_cost_37 : decode cX9_cost 37 = .ok (.iload_n 2, 1) := by decide +kernel
theorem dX9_cost_38 : decode cX9_cost 38 = .ok (.invokevirtual 64, 3) := by decide +kernel
theorem dX9_cost_41 : decode cX9_cost 41 = .ok (.ifCond .eq 15, 3) := by decide +kernel
theorem dX9_cost_44 : decode cX9_cost 44 = .ok (.aload_n 0, 1) := by decide +kernel
theorem dX9_cost_45 : decode cX9_cost 45 = .ok (.getfield 10, 3) := by decide +kernel
theorem dX9_cost_48 : decode cX9_cost 48 = .ok (.iload_n 1, 1) := by decide +kernel
theorem dX9_cost_49 : decode cX9_cost 49 = .ok (.iload_n 2, 1) := by decide +kernel
theorem dX9_cost_50 : decode cX9_cost 50 = .ok (.invokevirtual 230, 3) := by decide +kernel
theorem dX9_cost_53 : decode cX9_cost 53 = .ok (.goto 4, 3) := by decide +kernel
theorem dX9_cost_56 : decode cX9_cost 56 = .ok (.lconst 0, 1) := by decide +kernel
theorem dX9_cost_57 : decode cX9_cost 57 = .ok (.lreturn, 1) := by decide +kernel
set_option maxRecDepth 20000 in
theorem ggX9_cars_X4_allHours : GoodIn wsX9_cars wsX4_allHours := goodIn_r _ [11, 12, 13, 14, 15, 10, 16, 17, 39, 40, 41] (by decide +kernel) (by decide +kernel)
set_option maxRecDepth 20000 in
theorem gX9_cars_X4_allHours : GoodIn wsX9_cars (wsV RX9 234 RX4 yX4_allHours wsX4_allHours) := goodIn_app (goodIn_of _ (by decide +kernel)) ggX9_cars_X4_allHours
set_option maxRecDepth 20000 in
theorem ggX9_cars_X9_isInSet : GoodIn wsX9_cars wsX9_isInSet := goodIn_r _ [21] (by decide +kernel) (by decide +kernel)
set_option maxRecDepth 20000 in
theorem gX9_cars_X9_isInSet : GoodIn wsX9_cars (va_wsS RX9 238 yX9_isInSet wsX9_isInSet) := goodIn_app (goodIn_of _ (by decide +kernel)) ggX9_cars_X9_isInSet
set_option maxRecDepth 20000 in
theorem ggX9_cars_X9_carsOut : GoodIn wsX9_cars wsX9_carsOut := goodIn_r _ [24, 18, 19, 20, 21] (by decide +kernel) (by decide +kernel)
set_option maxRecDepth 20000 in
theorem gX9_cars_X9_carsOut : GoodIn wsX9_cars (va_wsS RX9 241 yX9_carsOut wsX9_carsOut) := goodIn_app (goodIn_of _ (by decide +kernel)) ggX9_cars_X9_carsOut
theorem dX9_cars_0 : decode cX9_cars 0 = .ok (.iload_n 1, 1) := by decide +kernel
theorem dX9_cars_1 : decode cX9_cars 1 = .ok (.ifCond .lt 13, 3) := by decide +kernel
theorem dX9_cars_4 : decode cX9_cars 4 = .ok (.iload_n 2, 1) := by decide +kernel
theorem dX9_cars_5 : decode cX9_cars 5 = .ok (.ifCond .lt 9, 3) := by decide +kernel
theorem dX9_cars_8 : decode cX9_cars 8 = .ok (.iload_n 2, 1) := by decide +kernel
theorem dX9_cars_9 : decode cX9_cars 9 = .ok (.bipush 48, 2) := by decide +kernel
theorem dX9_cars_11 : decode cX9_cars 11 = .ok (.if_icmp .le 5, 3) := by decide +kernel
theorem dX9_cars_14 : decode cX9_cars 14 = .ok (.iconst (-1), 1) := by decide +kernel
theorem dX9_cars_15 : decode cX9_cars 15 = .ok (.ireturn, 1) := by decide +kernel
theorem dX9_cars_16 : decode cX9_cars 16 = .ok (.iconst 2, 1) := by decide +kernel
theorem dX9_cars_17 : decode cX9_cars 17 = .ok (.aload_n 0, 1) := by decide +kernel
theorem dX9_cars_18 : decode cX9_cars 18 = .ok (.getfield 10, 3) := by decide +kernel
theorem dX9_cars_21 : decode cX9_cars 21 = .ok (.getfield 44, 3) := by decide +kernel
theorem dX9_cars_24 : decode cX9_cars 24 = .ok (.invokevirtual 234, 3) := by decide +kernel
theorem dX9_cars_27 : decode cX9_cars 27 = .ok (.iload_n 2, 1) := by decide +kernel
theorem dX9_cars_28 : decode cX9_cars 28 = .ok (.iadd, 1) := by decide +kernel
theorem dX9_cars_29 : decode cX9_cars 29 = .ok (.imul, 1) := by decide +kernel
theorem dX9_cars_30 : decode cX9_cars 30 = .ok (.istore_n 3, 1) := by decide +kernel
theorem dX9_cars_31 : decode cX9_cars 31 = .ok (.iconst 0, 1) := by decide +kernel
theorem dX9_cars_32 : decode cX9_cars 32 = .ok (.istore 4, 2) := by decide +kernel
theorem dX9_cars_34 : decode cX9_cars 34 = .ok (.iconst 0, 1) := by decide +kernel
theorem dX9_cars_35 : decode cX9_cars 35 = .ok (.istore 5, 2) := by decide +kernel
theorem dX9_cars_37 : decode cX9_cars 37 = .ok (.iload 5, 2) := by decide +kernel
theorem dX9_cars_39 : decode cX9_cars 39 = .ok (.bipush 30, 2) := by decide +kernel
theorem dX9_cars_41 : decode cX9_cars 41 = .ok (.if_icmp .ge 32, 3) := by decide +kernel
theorem dX9_cars_44 : decode cX9_cars 44 = .ok (.iload_n 1, 1) := by decide +kernel
theorem dX9_cars_45 : decode cX9_cars 45 = .ok (.iload 5, 2) := by decide +kernel
theorem dX9_cars_47 : decode cX9_cars 47 = .ok (.invokestatic 238, 3) := by decide +kernel
theorem dX9_cars_50 : decode cX9_cars 50 = .ok (.ifCond .eq 17, 3) := by decide +kernel
theorem dX9_cars_53 : decode cX9_cars 53 = .ok (.iload 4, 2) := by decide +kernel
theorem dX9_cars_55 : decode cX9_cars 55 = .ok (.iload_n 1, 1) := by decide +kernel
theorem dX9_cars_56 : decode cX9_cars 56 = .ok (.iload 5, 2) := by decide +kernel
theorem dX9_cars_58 : decode cX9_cars 58 = .ok (.iload_n 3, 1) := by decide +kernel
theorem dX9_cars_59 : decode cX9_cars 59 = .ok (.invokestatic 241, 3) := by decide +kernel
theorem dX9_cars_62 : decode cX9_cars 62 = .ok (.invokestatic 244, 3) := by decide +kernel
theorem dX9_cars_65 : decode cX9_cars 65 = .ok (.istore 4, 2) := by decide +kernel
theorem dX9_cars_67 : decode cX9_cars 67 = .ok (.iinc 5 1, 3) := by decide +kernel
theorem dX9_cars_70 : decode cX9_cars 70 = .ok (.goto (-33), 3) := by decide +kernel
theorem dX9_cars_73 : decode cX9_cars 73 = .ok (.iload 4, 2) := by decide +kernel
theorem dX9_cars_75 : decode cX9_cars 75 = .ok (.ireturn, 1) := by decide +kernel
set_option maxRecDepth 20000 in
theorem ggX9_count_X4_allHours : GoodIn wsX9_count wsX4_allHours := goodIn_r _ [17, 18, 19, 20, 21, 16, 22, 23, 43, 44, 45] (by decide +kernel) (by decide +kernel)
set_option maxRecDepth 20000 in
theorem gX9_count_X4_allHours : GoodIn wsX9_count (wsV RX9 234 RX4 yX4_allHours wsX4_allHours) := goodIn_app (goodIn_of _ (by decide +kernel)) ggX9_count_X4_allHours
set_option maxRecDepth 20000 in
theorem ggX9_count_X4_allKm : GoodIn wsX9_count wsX4_allKm := goodIn_r _ [27, 18, 28, 43, 44, 45] (by decide +kernel) (by decide +kernel)
set_option maxRecDepth 20000 in
theorem gX9_count_X4_allKm : GoodIn wsX9_count (wsV RX9 254 RX4 yX4_allKm wsX4_allKm) := goodIn_app (goodIn_of _ (by decide +kernel)) ggX9_count_X4_allKm
theorem dX9_count_0 : decode cX9_count 0 = .ok (.iload_n 1, 1) := by decide +kernel
theorem dX9_count_1 : decode cX9_count 1 = .ok (.tableswitch 132 0 7 #[47, 58, 69, 80, 91, 99, 110, 121], 47) := by decide +kernel
theorem dX9_count_48 : decode cX9_count 48 = .ok (.aload_n 0, 1) := by decide +kernel
theorem dX9_count_49 : decode cX9_count 49 = .ok (.getfield 10, 3) := by decide +kernel
theorem dX9_count_52 : decode cX9_count 52 = .ok (.getfield 44, 3) := by decide +kernel
theorem dX9_count_55 : decode cX9_count 55 = .ok (.getfield 249, 3) := by decide +kernel
theorem dX9_count_58 : decode cX9_count 58 = .ok (.ireturn, 1) := by decide +kernel
theorem dX9_count_59 : decode cX9_count 59 = .ok (.aload_n 0, 1) := by decide +kernel
theorem dX9_count_60 : decode cX9_count 60 = .ok (.getfield 10, 3) := by decide +kernel
theorem dX9_count_63 : decode cX9_count 63 = .ok (.getfield 34, 3) := by decide +kernel
theorem dX9_count_66 : decode cX9_count 66 = .ok (.getfield 38, 3) := by decide +kernel
theorem dX9_count_69 : decode cX9_count 69 = .ok (.ireturn, 1) := by decide +kernel
theorem dX9_count_70 : decode cX9_count 70 = .ok (.aload_n 0, 1) := by decide +kernel
theorem dX9_count_71 : decode cX9_count 71 = .ok (.getfield 10, 3) := by decide +kernel
theorem dX9_count_74 : decode cX9_count 74 = .ok (.getfield 102, 3) := by decide +kernel
theorem dX9_count_77 : decode cX9_count 77 = .ok (.getfield 252, 3) := by decide +kernel
theorem dX9_count_80 : decode cX9_count 80 = .ok (.ireturn, 1) := by decide +kernel
theorem dX9_count_81 : decode cX9_count 81 = .ok (.aload_n 0, 1) := by decide +kernel
theorem dX9_count_82 : decode cX9_count 82 = .ok (.getfield 10, 3) := by decide +kernel
theorem dX9_count_85 : decode cX9_count 85 = .ok (.getfield 122, 3) := by decide +kernel
theorem dX9_count_88 : decode cX9_count 88 = .ok (.getfield 253, 3) := by decide +kernel
theorem dX9_count_91 : decode cX9_count 91 = .ok (.ireturn, 1) := by decide +kernel
theorem dX9_count_92 : decode cX9_count 92 = .ok (.aload_n 0, 1) := by decide +kernel
theorem dX9_count_93 : decode cX9_count 93 = .ok (.getfield 10, 3) := by decide +kernel
theorem dX9_count_96 : decode cX9_count 96 = .ok (.getfield 126, 3) := by decide +kernel
theorem dX9_count_99 : decode cX9_count 99 = .ok (.ireturn, 1) := by decide +kernel
theorem dX9_count_100 : decode cX9_count 100 = .ok (.aload_n 0, 1) := by decide +kernel
theorem dX9_count_101 : decode cX9_count 101 = .ok (.getfield 10, 3) := by decide +kernel
theorem dX9_count_104 : decode cX9_count 104 = .ok (.getfield 207, 3) := by decide +kernel
theorem dX9_count_107 : decode cX9_count 107 = .ok (.getfield 220, 3) := by decide +kernel
theorem dX9_count_110 : decode cX9_count 110 = .ok (.ireturn, 1) := by decide +kernel
theorem dX9_count_111 : decode cX9_count 111 = .ok (.aload_n 0, 1) := by decide +kernel
theorem dX9_count_112 : decode cX9_count 112 = .ok (.getfield 10, 3) := by decide +kernel
theorem dX9_count_115 : decode cX9_count 115 = .ok (.getfield 44, 3) := by decide +kernel
theorem dX9_count_118 : decode cX9_count 118 = .ok (.invokevirtual 234, 3) := by decide +kernel
theorem dX9_count_121 : decode cX9_count 121 = .ok (.ireturn, 1) := by decide +kernel
theorem dX9_count_122 : decode cX9_count 122 = .ok (.aload_n 0, 1) := by decide +kernel
theorem dX9_count_123 : decode cX9_count 123 = .ok (.getfield 10, 3) := by decide +kernel
theorem dX9_count_126 : decode cX9_count 126 = .ok (.getfield 44, 3) := by decide +kernel
theorem dX9_count_129 : decode cX9_count 129 = .ok (.invokevirtual 254, 3) := by decide +kernel
theorem dX9_count_132 : decode cX9_count 132 = .ok (.ireturn, 1) := by decide +kernel
theorem dX9_count_133 : decode cX9_count 133 = .ok (.iconst (-1), 1) := by decide +kernel
theorem dX9_count_134 : decode cX9_count 134 = .ok (.ireturn, 1) := by decide +kernel
set_option maxRecDepth 20000 in
theorem ggX9_image_X0_init : GoodIn wsX9_image wsX0_init := goodIn_r _ [7, 8, 9, 10, 11, 12, 13, 14, 15, 16, 17, 18, 19, 20, 21, 22, 23, 24, 25, 26, 27, 28, 29, 30, 31, 32, 33, 34, 35, 36, 37, 38, 39, 40, 41, 42, 43, 44, 45, 46, 47, 48, 49, 50, 51, 52, 53, 54, 55, 56, 57, 58, 59, 60, 61, 62, 63, 64, 65, 66, 67, 68, 69, 70, 71, 72, 73, 74, 75, 76, 77, 78, 79, 80, 81, 82, 83, 84, 85, 138, 139, 140, 128, 129, 130, 131, 132, 133, 134, 135, 136, 137, 141, 142, 143, 144, 145, 146, 147, 148, 149, 150, 151, 152, 153, 154, 155, 156, 157, 158, 159, 160, 161, 162, 163, 164, 165, 166, 167] (by decide +kernel) (by decide +kernel)
set_option maxRecDepth 20000 in
theorem gX9_image_X0_init_n9 : GoodIn wsX9_image (wsX0_init) := ggX9_image_X0_init
set_option maxRecDepth 20000 in
theorem ggX9_image_X0_copyFrom : GoodIn wsX9_image wsX0_copyFrom := goodIn_r _ [89, 90, 14, 18, 22, 26, 30, 32, 91, 92, 93, 94, 33, 95, 96, 97, 13, 98, 46, 40, 99, 41, 100, 101, 102, 17, 103, 104, 54, 105, 55, 56, 106, 107, 108, 21, 109, 110, 60, 111, 61, 62, 63, 64, 65, 112, 113, 114, 25, 115, 116, 69, 117, 70, 71, 72, 73, 74, 75, 118, 119, 120, 29, 121, 122, 79, 123, 80, 81, 82, 83, 84, 85, 128, 129, 130, 131, 132, 133, 134, 135, 136, 137, 138, 139, 140, 141, 142, 143, 144, 145, 146, 147, 148, 149, 150, 151, 152, 153, 154, 155, 156, 157, 158, 159, 160, 161, 162, 163, 164, 165, 166, 167] (by decide +kernel) (by decide +kernel)
set_option maxRecDepth 20000 in
theorem gX9_image_X0_copyFrom : GoodIn wsX9_image (wsV RX9 257 RX0 yX0_copyFrom wsX0_copyFrom) := goodIn_app (goodIn_of _ (by decide +kernel)) ggX9_image_X0_copyFrom
theorem dX9_image_0 : decode cX9_image 0 = .ok (.iload_n 1, 1) := by decide +kernel
theorem dX9_image_1 : decode cX9_image 1 = .ok (.ifCond .lt 8, 3) := by decide +kernel
end
section
theorem dX9_image_4 : decode cX9_image 4 = .ok (.iload_n 1, 1) := by decide +kernel
theorem dX9_image_5 : decode cX9_image 5 = .ok (.iconst 3, 1) := by decide +kernel
theorem dX9_image_6 : decode cX9_image 6 = .ok (.if_icmp .lt 5, 3) := by decide +kernel
theorem dX9_image_9 : decode cX9_image 9 = .ok (.iconst 0, 1) := by decide +kernel
theorem dX9_image_10 : decode cX9_image 10 = .ok (.ireturn, 1) := by decide +kernel
theorem dX9_image_11 : decode cX9_image 11 = .ok (.aload_n 0, 1) := by decide +kernel
theorem dX9_image_12 : decode cX9_image 12 = .ok (.getfield 16, 3) := by decide +kernel
theorem dX9_image_15 : decode cX9_image 15 = .ok (.iload_n 1, 1) := by decide +kernel
theorem dX9_image_16 : decode cX9_image 16 = .ok (.aaload, 1) := by decide +kernel
theorem dX9_image_17 : decode cX9_image 17 = .ok (.ifnonnull 16, 3) := by decide +kernel
theorem dX9_image_20 : decode cX9_image 20 = .ok (.aload_n 0, 1) := by decide +kernel
theorem dX9_image_21 : decode cX9_image 21 = .ok (.getfield 16, 3) := by decide +kernel
theorem dX9_image_24 : decode cX9_image 24 = .ok (.iload_n 1, 1) := by decide +kernel
theorem dX9_image_25 : decode cX9_image 25 = .ok (.new 7, 3) := by decide +kernel
theorem dX9_image_28 : decode cX9_image 28 = .ok (.dup, 1) := by decide +kernel
theorem dX9_image_29 : decode cX9_image 29 = .ok (.invokespecial 9, 3) := by decide +kernel
theorem dX9_image_32 : decode cX9_image 32 = .ok (.aastore, 1) := by decide +kernel
theorem dX9_image_33 : decode cX9_image 33 = .ok (.aload_n 0, 1) := by decide +kernel
theorem dX9_image_34 : decode cX9_image 34 = .ok (.getfield 16, 3) := by decide +kernel
theorem dX9_image_37 : decode cX9_image 37 = .ok (.iload_n 1, 1) := by decide +kernel
theorem dX9_image_38 : decode cX9_image 38 = .ok (.aaload, 1) := by decide +kernel
theorem dX9_image_39 : decode cX9_image 39 = .ok (.aload_n 0, 1) := by decide +kernel
theorem dX9_image_40 : decode cX9_image 40 = .ok (.getfield 10, 3) := by decide +kernel
theorem dX9_image_43 : decode cX9_image 43 = .ok (.invokevirtual 257, 3) := by decide +kernel
theorem dX9_image_46 : decode cX9_image 46 = .ok (.iconst 1, 1) := by decide +kernel
theorem dX9_image_47 : decode cX9_image 47 = .ok (.ireturn, 1) := by decide +kernel
set_option maxRecDepth 20000 in
theorem ggX9_again_X0_copyFrom : GoodIn wsX9_again wsX0_copyFrom := goodIn_r _ [7, 8, 9, 10, 11, 12, 13, 14, 15, 16, 17, 18, 19, 20, 21, 22, 23, 24, 25, 26, 27, 28, 29, 30, 31, 32, 33, 34, 35, 36, 37, 38, 39, 40, 41, 42, 43, 44, 45, 46, 47, 48, 49, 50, 51, 52, 53, 54, 55, 56, 57, 58, 59, 60, 61, 62, 63, 64, 65, 66, 67, 68, 69, 70, 71, 72, 73, 74, 75, 76, 77, 78, 79, 84, 85, 86, 87, 88, 89, 90, 91, 92, 93, 94, 95, 96, 97, 98, 99, 100, 101, 102, 103, 104, 105, 106, 107, 108, 109, 110, 111, 112, 113, 114, 115, 116, 117, 118, 119, 120, 121, 122, 123] (by decide +kernel) (by decide +kernel)
set_option maxRecDepth 20000 in
theorem gX9_again_X0_copyFrom : GoodIn wsX9_again (wsV RX9 257 RX0 yX0_copyFrom wsX0_copyFrom) := goodIn_app (goodIn_of _ (by decide +kernel)) ggX9_again_X0_copyFrom
theorem dX9_again_0 : decode cX9_again 0 = .ok (.iload_n 1, 1) := by decide +kernel
theorem dX9_again_1 : decode cX9_again 1 = .ok (.ifCond .lt 17, 3) := by decide +kernel
theorem dX9_again_4 : decode cX9_again 4 = .ok (.iload_n 1, 1) := by decide +kernel
theorem dX9_again_5 : decode cX9_again 5 = .ok (.iconst 3, 1) := by decide +kernel
theorem dX9_again_6 : decode cX9_again 6 = .ok (.if_icmp .ge 12, 3) := by decide +kernel
theorem dX9_again_9 : decode cX9_again 9 = .ok (.aload_n 0, 1) := by decide +kernel
theorem dX9_again_10 : decode cX9_again 10 = .ok (.getfield 16, 3) := by decide +kernel
theorem dX9_again_13 : decode cX9_again 13 = .ok (.iload_n 1, 1) := by decide +kernel
theorem dX9_again_14 : decode cX9_again 14 = .ok (.aaload, 1) := by decide +kernel
theorem dX9_again_15 : decode cX9_again 15 = .ok (.ifnonnull 5, 3) := by decide +kernel
theorem dX9_again_18 : decode cX9_again 18 = .ok (.iconst 0, 1) := by decide +kernel
theorem dX9_again_19 : decode cX9_again 19 = .ok (.ireturn, 1) := by decide +kernel
theorem dX9_again_20 : decode cX9_again 20 = .ok (.aload_n 0, 1) := by decide +kernel
theorem dX9_again_21 : decode cX9_again 21 = .ok (.getfield 10, 3) := by decide +kernel
theorem dX9_again_24 : decode cX9_again 24 = .ok (.aload_n 0, 1) := by decide +kernel
theorem dX9_again_25 : decode cX9_again 25 = .ok (.getfield 16, 3) := by decide +kernel
theorem dX9_again_28 : decode cX9_again 28 = .ok (.iload_n 1, 1) := by decide +kernel
theorem dX9_again_29 : decode cX9_again 29 = .ok (.aaload, 1) := by decide +kernel
theorem dX9_again_30 : decode cX9_again 30 = .ok (.invokevirtual 257, 3) := by decide +kernel
theorem dX9_again_33 : decode cX9_again 33 = .ok (.iconst 1, 1) := by decide +kernel
theorem dX9_again_34 : decode cX9_again 34 = .ok (.ireturn, 1) := by decide +kernel
theorem dX9_isOffice_0 : decode cX9_isOffice 0 = .ok (.iload_n 0, 1) := by decide +kernel
theorem dX9_isOffice_1 : decode cX9_isOffice 1 = .ok (.ifCond .lt 13, 3) := by decide +kernel
theorem dX9_isOffice_4 : decode cX9_isOffice 4 = .ok (.iload_n 0, 1) := by decide +kernel
theorem dX9_isOffice_5 : decode cX9_isOffice 5 = .ok (.bipush 6, 2) := by decide +kernel
theorem dX9_isOffice_7 : decode cX9_isOffice 7 = .ok (.if_icmp .ge 7, 3) := by decide +kernel
theorem dX9_isOffice_10 : decode cX9_isOffice 10 = .ok (.iconst 1, 1) := by decide +kernel
theorem dX9_isOffice_11 : decode cX9_isOffice 11 = .ok (.goto 4, 3) := by decide +kernel
theorem dX9_isOffice_14 : decode cX9_isOffice 14 = .ok (.iconst 0, 1) := by decide +kernel
theorem dX9_isOffice_15 : decode cX9_isOffice 15 = .ok (.ireturn, 1) := by decide +kernel
theorem dX9_isInSet_0 : decode cX9_isInSet 0 = .ok (.iload_n 0, 1) := by decide +kernel
theorem dX9_isInSet_1 : decode cX9_isInSet 1 = .ok (.iload_n 1, 1) := by decide +kernel
theorem dX9_isInSet_2 : decode cX9_isInSet 2 = .ok (.ishr, 1) := by decide +kernel
theorem dX9_isInSet_3 : decode cX9_isInSet 3 = .ok (.iconst 1, 1) := by decide +kernel
theorem dX9_isInSet_4 : decode cX9_isInSet 4 = .ok (.iand, 1) := by decide +kernel
theorem dX9_isInSet_5 : decode cX9_isInSet 5 = .ok (.iconst 1, 1) := by decide +kernel
theorem dX9_isInSet_6 : decode cX9_isInSet 6 = .ok (.if_icmp .ne 7, 3) := by decide +kernel
theorem dX9_isInSet_9 : decode cX9_isInSet 9 = .ok (.iconst 1, 1) := by decide +kernel
theorem dX9_isInSet_10 : decode cX9_isInSet 10 = .ok (.goto 4, 3) := by decide +kernel
theorem dX9_isInSet_13 : decode cX9_isInSet 13 = .ok (.iconst 0, 1) := by decide +kernel
theorem dX9_isInSet_14 : decode cX9_isInSet 14 = .ok (.ireturn, 1) := by decide +kernel
set_option maxRecDepth 20000 in
theorem ggX9_carsOut_X9_isInSet : GoodIn wsX9_carsOut wsX9_isInSet := goodIn_r _ [4] (by decide +kernel) (by decide +kernel)
set_option maxRecDepth 20000 in
theorem gX9_carsOut_X9_isInSet : GoodIn wsX9_carsOut (va_wsS RX9 238 yX9_isInSet wsX9_isInSet) := goodIn_app (goodIn_of _ (by decide +kernel)) ggX9_carsOut_X9_isInSet
theorem dX9_carsOut_0 : decode cX9_carsOut 0 = .ok (.iconst 0, 1) := by decide +kernel
theorem dX9_carsOut_1 : decode cX9_carsOut 1 = .ok (.istore_n 3, 1) := by decide +kernel
theorem dX9_carsOut_2 : decode cX9_carsOut 2 = .ok (.iconst 0, 1) := by decide +kernel
theorem dX9_carsOut_3 : decode cX9_carsOut 3 = .ok (.istore 4, 2) := by decide +kernel
theorem dX9_carsOut_5 : decode cX9_carsOut 5 = .ok (.iload 4, 2) := by decide +kernel
theorem dX9_carsOut_7 : decode cX9_carsOut 7 = .ok (.iload_n 1, 1) := by decide +kernel
theorem dX9_carsOut_8 : decode cX9_carsOut 8 = .ok (.if_icmp .gt 32, 3) := by decide +kernel
theorem dX9_carsOut_11 : decode cX9_carsOut 11 = .ok (.iload_n 0, 1) := by decide +kernel
theorem dX9_carsOut_12 : decode cX9_carsOut 12 = .ok (.iload 4, 2) := by decide +kernel
theorem dX9_carsOut_14 : decode cX9_carsOut 14 = .ok (.invokestatic 238, 3) := by decide +kernel
theorem dX9_carsOut_17 : decode cX9_carsOut 17 = .ok (.ifCond .eq 17, 3) := by decide +kernel
theorem dX9_carsOut_20 : decode cX9_carsOut 20 = .ok (.bipush 24, 2) := by decide +kernel
theorem dX9_carsOut_22 : decode cX9_carsOut 22 = .ok (.iload_n 1, 1) := by decide +kernel
theorem dX9_carsOut_23 : decode cX9_carsOut 23 = .ok (.iload 4, 2) := by decide +kernel
theorem dX9_carsOut_25 : decode cX9_carsOut 25 = .ok (.isub, 1) := by decide +kernel
theorem dX9_carsOut_26 : decode cX9_carsOut 26 = .ok (.imul, 1) := by decide +kernel
theorem dX9_carsOut_27 : decode cX9_carsOut 27 = .ok (.iload_n 2, 1) := by decide +kernel
theorem dX9_carsOut_28 : decode cX9_carsOut 28 = .ok (.if_icmp .ge 6, 3) := by decide +kernel
theorem dX9_carsOut_31 : decode cX9_carsOut 31 = .ok (.iinc 3 1, 3) := by decide +kernel
theorem dX9_carsOut_34 : decode cX9_carsOut 34 = .ok (.iinc 4 1, 3) := by decide +kernel
theorem dX9_carsOut_37 : decode cX9_carsOut 37 = .ok (.goto (-32), 3) := by decide +kernel
theorem dX9_carsOut_40 : decode cX9_carsOut 40 = .ok (.iload_n 3, 1) := by decide +kernel
theorem dX9_carsOut_41 : decode cX9_carsOut 41 = .ok (.ireturn, 1) := by decide +kernel
theorem dJ7_fill_53178_0 : decode cJ7_fill_53178 0 = .ok (.iconst 0, 1) := by decide +kernel
theorem dJ7_fill_53178_1 : decode cJ7_fill_53178 1 = .ok (.istore_n 2, 1) := by decide +kernel
theorem dJ7_fill_53178_2 : decode cJ7_fill_53178 2 = .ok (.aload_n 0, 1) := by decide +kernel
theorem dJ7_fill_53178_3 : decode cJ7_fill_53178 3 = .ok (.arraylength, 1) := by decide +kernel
theorem dJ7_fill_53178_4 : decode cJ7_fill_53178 4 = .ok (.istore_n 3, 1) := by decide +kernel
theorem dJ7_fill_53178_5 : decode cJ7_fill_53178 5 = .ok (.iload_n 2, 1) := by decide +kernel
theorem dJ7_fill_53178_6 : decode cJ7_fill_53178 6 = .ok (.iload_n 3, 1) := by decide +kernel
theorem dJ7_fill_53178_7 : decode cJ7_fill_53178 7 = .ok (.if_icmp .ge 13, 3) := by decide +kernel
theorem dJ7_fill_53178_10 : decode cJ7_fill_53178 10 = .ok (.aload_n 0, 1) := by decide +kernel
theorem dJ7_fill_53178_11 : decode cJ7_fill_53178 11 = .ok (.iload_n 2, 1) := by decide +kernel
theorem dJ7_fill_53178_12 : decode cJ7_fill_53178 12 = .ok (.iload_n 1, 1) := by decide +kernel
theorem dJ7_fill_53178_13 : decode cJ7_fill_53178 13 = .ok (.iastore, 1) := by decide +kernel
theorem dJ7_fill_53178_14 : decode cJ7_fill_53178 14 = .ok (.iinc 2 1, 3) := by decide +kernel
theorem dJ7_fill_53178_17 : decode cJ7_fill_53178 17 = .ok (.goto (-12), 3) := by decide +kernel
theorem dJ7_fill_53178_20 : decode cJ7_fill_53178 20 = .ok (.return_, 1) := by decide +kernel
end
section
theorem dX10_init_0 : decode cX10_init 0 = .ok (.aload_n 0, 1) := by decide +kernel
theorem dX10_init_1 : decode cX10_init 1 = .ok (.invokespecial 1, 3) := by decide +kernel
theorem dX10_init_4 : decode cX10_init 4 = .ok (.aload_n 0, 1) := by decide +kernel
theorem dX10_init_5 : decode cX10_init 5 = .ok (.sipush 400, 3) := by decide +kernel
theorem dX10_init_8 : decode cX10_init 8 = .ok (.newarray .byte, 2) := by decide +kernel
theorem dX10_init_10 : decode cX10_init 10 = .ok (.putfield 7, 3) := by decide +kernel
theorem dX10_init_13 : decode cX10_init 13 = .ok (.aload_n 0, 1) := by decide +kernel
theorem dX10_init_14 : decode cX10_init 14 = .ok (.iconst 4, 1) := by decide +kernel
theorem dX10_init_15 : decode cX10_init 15 = .ok (.newarray .int, 2) := by decide +kernel
theorem dX10_init_17 : decode cX10_init 17 = .ok (.putfield 13, 3) := by decide +kernel
theorem dX10_init_20 : decode cX10_init 20 = .ok (.aload_n 0, 1) := by decide +kernel
theorem dX10_init_21 : decode cX10_init 21 = .ok (.bipush 36, 2) := by decide +kernel
theorem dX10_init_23 : decode cX10_init 23 = .ok (.newarray .int, 2) := by decide +kernel
theorem dX10_init_25 : decode cX10_init 25 = .ok (.putfield 17, 3) := by decide +kernel
theorem dX10_init_28 : decode cX10_init 28 = .ok (.aload_n 0, 1) := by decide +kernel
theorem dX10_init_29 : decode cX10_init 29 = .ok (.bipush 36, 2) := by decide +kernel
theorem dX10_init_31 : decode cX10_init 31 = .ok (.newarray .int, 2) := by decide +kernel
theorem dX10_init_33 : decode cX10_init 33 = .ok (.putfield 20, 3) := by decide +kernel
theorem dX10_init_36 : decode cX10_init 36 = .ok (.aload_n 0, 1) := by decide +kernel
theorem dX10_init_37 : decode cX10_init 37 = .ok (.bipush 24, 2) := by decide +kernel
theorem dX10_init_39 : decode cX10_init 39 = .ok (.newarray .int, 2) := by decide +kernel
theorem dX10_init_41 : decode cX10_init 41 = .ok (.putfield 23, 3) := by decide +kernel
theorem dX10_init_44 : decode cX10_init 44 = .ok (.aload_n 0, 1) := by decide +kernel
theorem dX10_init_45 : decode cX10_init 45 = .ok (.bipush 40, 2) := by decide +kernel
theorem dX10_init_47 : decode cX10_init 47 = .ok (.newarray .int, 2) := by decide +kernel
theorem dX10_init_49 : decode cX10_init 49 = .ok (.putfield 26, 3) := by decide +kernel
theorem dX10_init_52 : decode cX10_init 52 = .ok (.aload_n 0, 1) := by decide +kernel
theorem dX10_init_53 : decode cX10_init 53 = .ok (.sipush 240, 3) := by decide +kernel
theorem dX10_init_56 : decode cX10_init 56 = .ok (.newarray .int, 2) := by decide +kernel
theorem dX10_init_58 : decode cX10_init 58 = .ok (.putfield 29, 3) := by decide +kernel
theorem dX10_init_61 : decode cX10_init 61 = .ok (.aload_n 0, 1) := by decide +kernel
theorem dX10_init_62 : decode cX10_init 62 = .ok (.sipush 2400, 3) := by decide +kernel
theorem dX10_init_65 : decode cX10_init 65 = .ok (.newarray .int, 2) := by decide +kernel
theorem dX10_init_67 : decode cX10_init 67 = .ok (.putfield 32, 3) := by decide +kernel
theorem dX10_init_70 : decode cX10_init 70 = .ok (.aload_n 0, 1) := by decide +kernel
theorem dX10_init_71 : decode cX10_init 71 = .ok (.sipush 21600, 3) := by decide +kernel
theorem dX10_init_74 : decode cX10_init 74 = .ok (.newarray .int, 2) := by decide +kernel
theorem dX10_init_76 : decode cX10_init 76 = .ok (.putfield 35, 3) := by decide +kernel
theorem dX10_init_79 : decode cX10_init 79 = .ok (.aload_n 0, 1) := by decide +kernel
theorem dX10_init_80 : decode cX10_init 80 = .ok (.iconst 4, 1) := by decide +kernel
theorem dX10_init_81 : decode cX10_init 81 = .ok (.newarray .int, 2) := by decide +kernel
theorem dX10_init_83 : decode cX10_init 83 = .ok (.putfield 38, 3) := by decide +kernel
theorem dX10_init_86 : decode cX10_init 86 = .ok (.aload_n 0, 1) := by decide +kernel
theorem dX10_init_87 : decode cX10_init 87 = .ok (.sipush 1200, 3) := by decide +kernel
theorem dX10_init_90 : decode cX10_init 90 = .ok (.newarray .int, 2) := by decide +kernel
theorem dX10_init_92 : decode cX10_init 92 = .ok (.putfield 41, 3) := by decide +kernel
theorem dX10_init_95 : decode cX10_init 95 = .ok (.aload_n 0, 1) := by decide +kernel
theorem dX10_init_96 : decode cX10_init 96 = .ok (.sipush 1200, 3) := by decide +kernel
theorem dX10_init_99 : decode cX10_init 99 = .ok (.newarray .int, 2) := by decide +kernel
theorem dX10_init_101 : decode cX10_init 101 = .ok (.putfield 44, 3) := by decide +kernel
theorem dX10_init_104 : decode cX10_init 104 = .ok (.aload_n 0, 1) := by decide +kernel
theorem dX10_init_105 : decode cX10_init 105 = .ok (.sipush 1200, 3) := by decide +kernel
theorem dX10_init_108 : decode cX10_init 108 = .ok (.newarray .int, 2) := by decide +kernel
theorem dX10_init_110 : decode cX10_init 110 = .ok (.putfield 47, 3) := by decide +kernel
theorem dX10_init_113 : decode cX10_init 113 = .ok (.aload_n 0, 1) := by decide +kernel
theorem dX10_init_114 : decode cX10_init 114 = .ok (.sipush 1200, 3) := by decide +kernel
theorem dX10_init_117 : decode cX10_init 117 = .ok (.newarray .int, 2) := by decide +kernel
theorem dX10_init_119 : decode cX10_init 119 = .ok (.putfield 50, 3) := by decide +kernel
theorem dX10_init_122 : decode cX10_init 122 = .ok (.aload_n 0, 1) := by decide +kernel
theorem dX10_init_123 : decode cX10_init 123 = .ok (.sipush 1200, 3) := by decide +kernel
theorem dX10_init_126 : decode cX10_init 126 = .ok (.newarray .int, 2) := by decide +kernel
theorem dX10_init_128 : decode cX10_init 128 = .ok (.putfield 53, 3) := by decide +kernel
theorem dX10_init_131 : decode cX10_init 131 = .ok (.aload_n 0, 1) := by decide +kernel
theorem dX10_init_132 : decode cX10_init 132 = .ok (.sipush 1200, 3) := by decide +kernel
theorem dX10_init_135 : decode cX10_init 135 = .ok (.newarray .int, 2) := by decide +kernel
theorem dX10_init_137 : decode cX10_init 137 = .ok (.putfield 56, 3) := by decide +kernel
theorem dX10_init_140 : decode cX10_init 140 = .ok (.aload_n 0, 1) := by decide +kernel
theorem dX10_init_141 : decode cX10_init 141 = .ok (.iconst 4, 1) := by decide +kernel
theorem dX10_init_142 : decode cX10_init 142 = .ok (.newarray .int, 2) := by decide +kernel
theorem dX10_init_144 : decode cX10_init 144 = .ok (.putfield 59, 3) := by decide +kernel
theorem dX10_init_147 : decode cX10_init 147 = .ok (.aload_n 0, 1) := by decide +kernel
theorem dX10_init_148 : decode cX10_init 148 = .ok (.sipush 400, 3) := by decide +kernel
theorem dX10_init_151 : decode cX10_init 151 = .ok (.newarray .int, 2) := by decide +kernel
theorem dX10_init_153 : decode cX10_init 153 = .ok (.putfield 62, 3) := by decide +kernel
theorem dX10_init_156 : decode cX10_init 156 = .ok (.aload_n 0, 1) := by decide +kernel
theorem dX10_init_157 : decode cX10_init 157 = .ok (.sipush 400, 3) := by decide +kernel
theorem dX10_init_160 : decode cX10_init 160 = .ok (.newarray .int, 2) := by decide +kernel
theorem dX10_init_162 : decode cX10_init 162 = .ok (.putfield 65, 3) := by decide +kernel
theorem dX10_init_165 : decode cX10_init 165 = .ok (.aload_n 0, 1) := by decide +kernel
theorem dX10_init_166 : decode cX10_init 166 = .ok (.sipush 400, 3) := by decide +kernel
theorem dX10_init_169 : decode cX10_init 169 = .ok (.newarray .int, 2) := by decide +kernel
theorem dX10_init_171 : decode cX10_init 171 = .ok (.putfield 68, 3) := by decide +kernel
theorem dX10_init_174 : decode cX10_init 174 = .ok (.aload_n 0, 1) := by decide +kernel
theorem dX10_init_175 : decode cX10_init 175 = .ok (.sipush 400, 3) := by decide +kernel
theorem dX10_init_178 : decode cX10_init 178 = .ok (.newarray .int, 2) := by decide +kernel
theorem dX10_init_180 : decode cX10_init 180 = .ok (.putfield 71, 3) := by decide +kernel
theorem dX10_init_183 : decode cX10_init 183 = .ok (.aload_n 0, 1) := by decide +kernel
theorem dX10_init_184 : decode cX10_init 184 = .ok (.sipush 400, 3) := by decide +kernel
theorem dX10_init_187 : decode cX10_init 187 = .ok (.newarray .int, 2) := by decide +kernel
theorem dX10_init_189 : decode cX10_init 189 = .ok (.putfield 74, 3) := by decide +kernel
theorem dX10_init_192 : decode cX10_init 192 = .ok (.aload_n 0, 1) := by decide +kernel
theorem dX10_init_193 : decode cX10_init 193 = .ok (.sipush 400, 3) := by decide +kernel
theorem dX10_init_196 : decode cX10_init 196 = .ok (.newarray .int, 2) := by decide +kernel
theorem dX10_init_198 : decode cX10_init 198 = .ok (.putfield 77, 3) := by decide +kernel
theorem dX10_init_201 : decode cX10_init 201 = .ok (.aload_n 0, 1) := by decide +kernel
theorem dX10_init_202 : decode cX10_init 202 = .ok (.sipush 400, 3) := by decide +kernel
theorem dX10_init_205 : decode cX10_init 205 = .ok (.newarray .int, 2) := by decide +kernel
theorem dX10_init_207 : decode cX10_init 207 = .ok (.putfield 80, 3) := by decide +kernel
theorem dX10_init_210 : decode cX10_init 210 = .ok (.aload_n 0, 1) := by decide +kernel
theorem dX10_init_211 : decode cX10_init 211 = .ok (.iconst 4, 1) := by decide +kernel
theorem dX10_init_212 : decode cX10_init 212 = .ok (.newarray .int, 2) := by decide +kernel
theorem dX10_init_214 : decode cX10_init 214 = .ok (.putfield 83, 3) := by decide +kernel
theorem dX10_init_217 : decode cX10_init 217 = .ok (.aload_n 0, 1) := by decide +kernel
theorem dX10_init_218 : decode cX10_init 218 = .ok (.iconst 4, 1) := by decide +kernel
theorem dX10_init_219 : decode cX10_init 219 = .ok (.newarray .int, 2) := by decide +kernel
theorem dX10_init_221 : decode cX10_init 221 = .ok (.putfield 86, 3) := by decide +kernel
theorem dX10_init_224 : decode cX10_init 224 = .ok (.aload_n 0, 1) := by decide +kernel
theorem dX10_init_225 : decode cX10_init 225 = .ok (.bipush 64, 2) := by decide +kernel
theorem dX10_init_227 : decode cX10_init 227 = .ok (.newarray .int, 2) := by decide +kernel
theorem dX10_init_229 : decode cX10_init 229 = .ok (.putfield 89, 3) := by decide +kernel
theorem dX10_init_232 : decode cX10_init 232 = .ok (.aload_n 0, 1) := by decide +kernel
theorem dX10_init_233 : decode cX10_init 233 = .ok (.sipush 256, 3) := by decide +kernel
theorem dX10_init_236 : decode cX10_init 236 = .ok (.newarray .int, 2) := by decide +kernel
theorem dX10_init_238 : decode cX10_init 238 = .ok (.putfield 92, 3) := by decide +kernel
theorem dX10_init_241 : decode cX10_init 241 = .ok (.aload_n 0, 1) := by decide +kernel
theorem dX10_init_242 : decode cX10_init 242 = .ok (.sipush 256, 3) := by decide +kernel
theorem dX10_init_245 : decode cX10_init 245 = .ok (.newarray .int, 2) := by decide +kernel
theorem dX10_init_247 : decode cX10_init 247 = .ok (.putfield 95, 3) := by decide +kernel
theorem dX10_init_250 : decode cX10_init 250 = .ok (.aload_n 0, 1) := by decide +kernel
theorem dX10_init_251 : decode cX10_init 251 = .ok (.sipush 256, 3) := by decide +kernel
theorem dX10_init_254 : decode cX10_init 254 = .ok (.newarray .int, 2) := by decide +kernel
theorem dX10_init_256 : decode cX10_init 256 = .ok (.putfield 98, 3) := by decide +kernel
theorem dX10_init_259 : decode cX10_init 259 = .ok (.aload_n 0, 1) := by decide +kernel
theorem dX10_init_260 : decode cX10_init 260 = .ok (.bipush 64, 2) := by decide +kernel
theorem dX10_init_262 : decode cX10_init 262 = .ok (.newarray .int, 2) := by decide +kernel
theorem dX10_init_264 : decode cX10_init 264 = .ok (.putfield 101, 3) := by decide +kernel
theorem dX10_init_267 : decode cX10_init 267 = .ok (.aload_n 0, 1) := by decide +kernel
theorem dX10_init_268 : decode cX10_init 268 = .ok (.bipush 64, 2) := by decide +kernel
theorem dX10_init_270 : decode cX10_init 270 = .ok (.newarray .int, 2) := by decide +kernel
theorem dX10_init_272 : decode cX10_init 272 = .ok (.putfield 104, 3) := by decide +kernel
theorem dX10_init_275 : decode cX10_init 275 = .ok (.aload_n 0, 1) := by decide +kernel
theorem dX10_init_276 : decode cX10_init 276 = .ok (.bipush 10, 2) := by decide +kernel
theorem dX10_init_278 : decode cX10_init 278 = .ok (.newarray .int, 2) := by decide +kernel
theorem dX10_init_280 : decode cX10_init 280 = .ok (.putfield 107, 3) := by decide +kernel
theorem dX10_init_283 : decode cX10_init 283 = .ok (.aload_n 0, 1) := by decide +kernel
theorem dX10_init_284 : decode cX10_init 284 = .ok (.sipush 300, 3) := by decide +kernel
theorem dX10_init_287 : decode cX10_init 287 = .ok (.newarray .int, 2) := by decide +kernel
theorem dX10_init_289 : decode cX10_init 289 = .ok (.putfield 110, 3) := by decide +kernel
theorem dX10_init_292 : decode cX10_init 292 = .ok (.aload_n 0, 1) := by decide +kernel
theorem dX10_init_293 : decode cX10_init 293 = .ok (.iconst (-1), 1) := by decide +kernel
theorem dX10_init_294 : decode cX10_init 294 = .ok (.putfield 113, 3) := by decide +kernel
theorem dX10_init_297 : decode cX10_init 297 = .ok (.aload_n 0, 1) := by decide +kernel
theorem dX10_init_298 : decode cX10_init 298 = .ok (.bipush 17, 2) := by decide +kernel
theorem dX10_init_300 : decode cX10_init 300 = .ok (.newarray .int, 2) := by decide +kernel
theorem dX10_init_302 : decode cX10_init 302 = .ok (.putfield 117, 3) := by decide +kernel
theorem dX10_init_305 : decode cX10_init 305 = .ok (.aload_n 0, 1) := by decide +kernel
theorem dX10_init_306 : decode cX10_init 306 = .ok (.bipush 64, 2) := by decide +kernel
theorem dX10_init_308 : decode cX10_init 308 = .ok (.newarray .int, 2) := by decide +kernel
theorem dX10_init_310 : decode cX10_init 310 = .ok (.putfield 120, 3) := by decide +kernel
theorem dX10_init_313 : decode cX10_init 313 = .ok (.aload_n 0, 1) := by decide +kernel
theorem dX10_init_314 : decode cX10_init 314 = .ok (.bipush 64, 2) := by decide +kernel
theorem dX10_init_316 : decode cX10_init 316 = .ok (.newarray .int, 2) := by decide +kernel
theorem dX10_init_318 : decode cX10_init 318 = .ok (.putfield 123, 3) := by decide +kernel
theorem dX10_init_321 : decode cX10_init 321 = .ok (.aload_n 0, 1) := by decide +kernel
theorem dX10_init_322 : decode cX10_init 322 = .ok (.bipush 64, 2) := by decide +kernel
theorem dX10_init_324 : decode cX10_init 324 = .ok (.newarray .int, 2) := by decide +kernel
theorem dX10_init_326 : decode cX10_init 326 = .ok (.putfield 126, 3) := by decide +kernel
theorem dX10_init_329 : decode cX10_init 329 = .ok (.aload_n 0, 1) := by decide +kernel
theorem dX10_init_330 : decode cX10_init 330 = .ok (.bipush 17, 2) := by decide +kernel
theorem dX10_init_332 : decode cX10_init 332 = .ok (.newarray .int, 2) := by decide +kernel
theorem dX10_init_334 : decode cX10_init 334 = .ok (.putfield 129, 3) := by decide +kernel
theorem dX10_init_337 : decode cX10_init 337 = .ok (.aload_n 0, 1) := by decide +kernel
theorem dX10_init_338 : decode cX10_init 338 = .ok (.bipush 17, 2) := by decide +kernel
theorem dX10_init_340 : decode cX10_init 340 = .ok (.newarray .int, 2) := by decide +kernel
theorem dX10_init_342 : decode cX10_init 342 = .ok (.putfield 132, 3) := by decide +kernel
theorem dX10_init_345 : decode cX10_init 345 = .ok (.aload_n 0, 1) := by decide +kernel
theorem dX10_init_346 : decode cX10_init 346 = .ok (.iconst 3, 1) := by decide +kernel
theorem dX10_init_347 : decode cX10_init 347 = .ok (.newarray .boolean, 2) := by decide +kernel
theorem dX10_init_349 : decode cX10_init 349 = .ok (.putfield 135, 3) := by decide +kernel
theorem dX10_init_352 : decode cX10_init 352 = .ok (.aload_n 0, 1) := by decide +kernel
theorem dX10_init_353 : decode cX10_init 353 = .ok (.getfield 13, 3) := by decide +kernel
theorem dX10_init_356 : decode cX10_init 356 = .ok (.iconst 0, 1) := by decide +kernel
theorem dX10_init_357 : decode cX10_init 357 = .ok (.iconst 2, 1) := by decide +kernel
theorem dX10_init_358 : decode cX10_init 358 = .ok (.iastore, 1) := by decide +kernel
theorem dX10_init_359 : decode cX10_init 359 = .ok (.iconst 0, 1) := by decide +kernel
theorem dX10_init_360 : decode cX10_init 360 = .ok (.istore_n 1, 1) := by decide +kernel
theorem dX10_init_361 : decode cX10_init 361 = .ok (.iload_n 1, 1) := by decide +kernel
theorem dX10_init_362 : decode cX10_init 362 = .ok (.bipush 9, 2) := by decide +kernel
theorem dX10_init_364 : decode cX10_init 364 = .ok (.if_icmp .ge 23, 3) := by decide +kernel
theorem dX10_init_367 : decode cX10_init 367 = .ok (.aload_n 0, 1) := by decide +kernel
theorem dX10_init_368 : decode cX10_init 368 = .ok (.getfield 17, 3) := by decide +kernel
theorem dX10_init_371 : decode cX10_init 371 = .ok (.iload_n 1, 1) := by decide +kernel
theorem dX10_init_372 : decode cX10_init 372 = .ok (.iconst 1, 1) := by decide +kernel
theorem dX10_init_373 : decode cX10_init 373 = .ok (.iastore, 1) := by decide +kernel
theorem dX10_init_374 : decode cX10_init 374 = .ok (.aload_n 0, 1) := by decide +kernel
theorem dX10_init_375 : decode cX10_init 375 = .ok (.getfield 20, 3) := by decide +kernel
theorem dX10_init_378 : decode cX10_init 378 = .ok (.iload_n 1, 1) := by decide +kernel
theorem dX10_init_379 : decode cX10_init 379 = .ok (.iconst 1, 1) := by decide +kernel
theorem dX10_init_380 : decode cX10_init 380 = .ok (.iastore, 1) := by decide +kernel
theorem dX10_init_381 : decode cX10_init 381 = .ok (.iinc 1 1, 3) := by decide +kernel
theorem dX10_init_384 : decode cX10_init 384 = .ok (.goto (-23), 3) := by decide +kernel
theorem dX10_init_387 : decode cX10_init 387 = .ok (.iconst 0, 1) := by decide +kernel
theorem dX10_init_388 : decode cX10_init 388 = .ok (.istore_n 1, 1) := by decide +kernel
theorem dX10_init_389 : decode cX10_init 389 = .ok (.iload_n 1, 1) := by decide +kernel
theorem dX10_init_390 : decode cX10_init 390 = .ok (.sipush 5400, 3) := by decide +kernel
theorem dX10_init_393 : decode cX10_init 393 = .ok (.if_icmp .ge 16, 3) := by decide +kernel
theorem dX10_init_396 : decode cX10_init 396 = .ok (.aload_n 0, 1) := by decide +kernel
theorem dX10_init_397 : decode cX10_init 397 = .ok (.getfield 35, 3) := by decide +kernel
theorem dX10_init_400 : decode cX10_init 400 = .ok (.iload_n 1, 1) := by decide +kernel
theorem dX10_init_401 : decode cX10_init 401 = .ok (.iconst (-1), 1) := by decide +kernel
theorem dX10_init_402 : decode cX10_init 402 = .ok (.iastore, 1) := by decide +kernel
theorem dX10_init_403 : decode cX10_init 403 = .ok (.iinc 1 1, 3) := by decide +kernel
theorem dX10_init_406 : decode cX10_init 406 = .ok (.goto (-17), 3) := by decide +kernel
theorem dX10_init_409 : decode cX10_init 409 = .ok (.return_, 1) := by decide +kernel
theorem dX10_in_0 : decode cX10_in 0 = .ok (.iload_n 0, 1) := by decide +kernel
theorem dX10_in_1 : decode cX10_in 1 = .ok (.iload_n 1, 1) := by decide +kernel
theorem dX10_in_2 : decode cX10_in 2 = .ok (.if_icmp .lt 12, 3) := by decide +kernel
theorem dX10_in_5 : decode cX10_in 5 = .ok (.iload_n 0, 1) := by decide +kernel
theorem dX10_in_6 : decode cX10_in 6 = .ok (.iload_n 2, 1) := by decide +kernel
theorem dX10_in_7 : decode cX10_in 7 = .ok (.if_icmp .gt 7, 3) := by decide +kernel
theorem dX10_in_10 : decode cX10_in 10 = .ok (.iconst 1, 1) := by decide +kernel
theorem dX10_in_11 : decode cX10_in 11 = .ok (.goto 4, 3) := by decide +kernel
theorem dX10_in_14 : decode cX10_in 14 = .ok (.iconst 0, 1) := by decide +kernel
theorem dX10_in_15 : decode cX10_in 15 = .ok (.ireturn, 1) := by decide +kernel
theorem dX10_move_0 : decode cX10_move 0 = .ok (.iconst 0, 1) := by decide +kernel
theorem dX10_move_1 : decode cX10_move 1 = .ok (.istore 4, 2) := by decide +kernel
theorem dX10_move_3 : decode cX10_move 3 = .ok (.iload 4, 2) := by decide +kernel
theorem dX10_move_5 : decode cX10_move 5 = .ok (.iload_n 1, 1) := by decide +kernel
theorem dX10_move_6 : decode cX10_move 6 = .ok (.if_icmp .ge 25, 3) := by decide +kernel
theorem dX10_move_9 : decode cX10_move 9 = .ok (.aload_n 0, 1) := by decide +kernel
theorem dX10_move_10 : decode cX10_move 10 = .ok (.iload_n 1, 1) := by decide +kernel
theorem dX10_move_11 : decode cX10_move 11 = .ok (.iload_n 3, 1) := by decide +kernel
theorem dX10_move_12 : decode cX10_move 12 = .ok (.imul, 1) := by decide +kernel
theorem dX10_move_13 : decode cX10_move 13 = .ok (.iload 4, 2) := by decide +kernel
theorem dX10_move_15 : decode cX10_move 15 = .ok (.iadd, 1) := by decide +kernel
theorem dX10_move_16 : decode cX10_move 16 = .ok (.aload_n 0, 1) := by decide +kernel
theorem dX10_move_17 : decode cX10_move 17 = .ok (.iload_n 1, 1) := by decide +kernel
theorem dX10_move_18 : decode cX10_move 18 = .ok (.iload_n 2, 1) := by decide +kernel
theorem dX10_move_19 : decode cX10_move 19 = .ok (.imul, 1) := by decide +kernel
theorem dX10_move_20 : decode cX10_move 20 = .ok (.iload 4, 2) := by decide +kernel
theorem dX10_move_22 : decode cX10_move 22 = .ok (.iadd, 1) := by decide +kernel
theorem dX10_move_23 : decode cX10_move 23 = .ok (.iaload, 1) := by decide +kernel
theorem dX10_move_24 : decode cX10_move 24 = .ok (.iastore, 1) := by decide +kernel
theorem dX10_move_25 : decode cX10_move 25 = .ok (.iinc 4 1, 3) := by decide +kernel
theorem dX10_move_28 : decode cX10_move 28 = .ok (.goto (-25), 3) := by decide +kernel
theorem dX10_move_31 : decode cX10_move 31 = .ok (.return_, 1) := by decide +kernel
set_option maxRecDepth 20000 in
theorem ggX10_copy_X10_move : GoodIn wsX10_copy wsX10_move := goodIn_r _ [35] (by decide +kernel) (by decide +kernel)
set_option maxRecDepth 20000 in
theorem gX10_copy_X10_move : GoodIn wsX10_copy (va_wsS RX10 142 yX10_move wsX10_move) := goodIn_app (goodIn_of _ (by decide +kernel)) ggX10_copy_X10_move
theorem dX10_copy_0 : decode cX10_copy 0 = .ok (.aload_n 0, 1) := by decide +kernel
theorem dX10_copy_1 : decode cX10_copy 1 = .ok (.getfield 13, 3) := by decide +kernel
theorem dX10_copy_4 : decode cX10_copy 4 = .ok (.iconst 1, 1) := by decide +kernel
theorem dX10_copy_5 : decode cX10_copy 5 = .ok (.iload_n 1, 1) := by decide +kernel
theorem dX10_copy_6 : decode cX10_copy 6 = .ok (.iload_n 2, 1) := by decide +kernel
theorem dX10_copy_7 : decode cX10_copy 7 = .ok (.invokestatic 142, 3) := by decide +kernel
theorem dX10_copy_10 : decode cX10_copy 10 = .ok (.aload_n 0, 1) := by decide +kernel
theorem dX10_copy_11 : decode cX10_copy 11 = .ok (.getfield 17, 3) := by decide +kernel
theorem dX10_copy_14 : decode cX10_copy 14 = .ok (.bipush 9, 2) := by decide +kernel
theorem dX10_copy_16 : decode cX10_copy 16 = .ok (.iload_n 1, 1) := by decide +kernel
theorem dX10_copy_17 : decode cX10_copy 17 = .ok (.iload_n 2, 1) := by decide +kernel
theorem dX10_copy_18 : decode cX10_copy 18 = .ok (.invokestatic 142, 3) := by decide +kernel
theorem dX10_copy_21 : decode cX10_copy 21 = .ok (.aload_n 0, 1) := by decide +kernel
theorem dX10_copy_22 : decode cX10_copy 22 = .ok (.getfield 20, 3) := by decide +kernel
theorem dX10_copy_25 : decode cX10_copy 25 = .ok (.bipush 9, 2) := by decide +kernel
theorem dX10_copy_27 : decode cX10_copy 27 = .ok (.iload_n 1, 1) := by decide +kernel
theorem dX10_copy_28 : decode cX10_copy 28 = .ok (.iload_n 2, 1) := by decide +kernel
theorem dX10_copy_29 : decode cX10_copy 29 = .ok (.invokestatic 142, 3) := by decide +kernel
theorem dX10_copy_32 : decode cX10_copy 32 = .ok (.aload_n 0, 1) := by decide +kernel
theorem dX10_copy_33 : decode cX10_copy 33 = .ok (.getfield 23, 3) := by decide +kernel
theorem dX10_copy_36 : decode cX10_copy 36 = .ok (.bipush 6, 2) := by decide +kernel
theorem dX10_copy_38 : decode cX10_copy 38 = .ok (.iload_n 1, 1) := by decide +kernel
theorem dX10_copy_39 : decode cX10_copy 39 = .ok (.iload_n 2, 1) := by decide +kernel
theorem dX10_copy_40 : decode cX10_copy 40 = .ok (.invokestatic 142, 3) := by decide +kernel
theorem dX10_copy_43 : decode cX10_copy 43 = .ok (.aload_n 0, 1) := by decide +kernel
theorem dX10_copy_44 : decode cX10_copy 44 = .ok (.getfield 26, 3) := by decide +kernel
theorem dX10_copy_47 : decode cX10_copy 47 = .ok (.bipush 10, 2) := by decide +kernel
theorem dX10_copy_49 : decode cX10_copy 49 = .ok (.iload_n 1, 1) := by decide +kernel
theorem dX10_copy_50 : decode cX10_copy 50 = .ok (.iload_n 2, 1) := by decide +kernel
theorem dX10_copy_51 : decode cX10_copy 51 = .ok (.invokestatic 142, 3) := by decide +kernel
theorem dX10_copy_54 : decode cX10_copy 54 = .ok (.aload_n 0, 1) := by decide +kernel
theorem dX10_copy_55 : decode cX10_copy 55 = .ok (.getfield 29, 3) := by decide +kernel
theorem dX10_copy_58 : decode cX10_copy 58 = .ok (.bipush 60, 2) := by decide +kernel
theorem dX10_copy_60 : decode cX10_copy 60 = .ok (.iload_n 1, 1) := by decide +kernel
theorem dX10_copy_61 : decode cX10_copy 61 = .ok (.iload_n 2, 1) := by decide +kernel
theorem dX10_copy_62 : decode cX10_copy 62 = .ok (.invokestatic 142, 3) := by decide +kernel
theorem dX10_copy_65 : decode cX10_copy 65 = .ok (.aload_n 0, 1) := by decide +kernel
theorem dX10_copy_66 : decode cX10_copy 66 = .ok (.getfield 32, 3) := by decide +kernel
theorem dX10_copy_69 : decode cX10_copy 69 = .ok (.sipush 600, 3) := by decide +kernel
theorem dX10_copy_72 : decode cX10_copy 72 = .ok (.iload_n 1, 1) := by decide +kernel
theorem dX10_copy_73 : decode cX10_copy 73 = .ok (.iload_n 2, 1) := by decide +kernel
theorem dX10_copy_74 : decode cX10_copy 74 = .ok (.invokestatic 142, 3) := by decide +kernel
theorem dX10_copy_77 : decode cX10_copy 77 = .ok (.aload_n 0, 1) := by decide +kernel
theorem dX10_copy_78 : decode cX10_copy 78 = .ok (.getfield 35, 3) := by decide +kernel
theorem dX10_copy_81 : decode cX10_copy 81 = .ok (.sipush 5400, 3) := by decide +kernel
theorem dX10_copy_84 : decode cX10_copy 84 = .ok (.iload_n 1, 1) := by decide +kernel
theorem dX10_copy_85 : decode cX10_copy 85 = .ok (.iload_n 2, 1) := by decide +kernel
theorem dX10_copy_86 : decode cX10_copy 86 = .ok (.invokestatic 142, 3) := by decide +kernel
theorem dX10_copy_89 : decode cX10_copy 89 = .ok (.aload_n 0, 1) := by decide +kernel
theorem dX10_copy_90 : decode cX10_copy 90 = .ok (.getfield 38, 3) := by decide +kernel
theorem dX10_copy_93 : decode cX10_copy 93 = .ok (.iconst 1, 1) := by decide +kernel
theorem dX10_copy_94 : decode cX10_copy 94 = .ok (.iload_n 1, 1) := by decide +kernel
theorem dX10_copy_95 : decode cX10_copy 95 = .ok (.iload_n 2, 1) := by decide +kernel
theorem dX10_copy_96 : decode cX10_copy 96 = .ok (.invokestatic 142, 3) := by decide +kernel
theorem dX10_copy_99 : decode cX10_copy 99 = .ok (.aload_n 0, 1) := by decide +kernel
theorem dX10_copy_100 : decode cX10_copy 100 = .ok (.getfield 41, 3) := by decide +kernel
theorem dX10_copy_103 : decode cX10_copy 103 = .ok (.sipush 300, 3) := by decide +kernel
theorem dX10_copy_106 : decode cX10_copy 106 = .ok (.iload_n 1, 1) := by decide +kernel
theorem dX10_copy_107 : decode cX10_copy 107 = .ok (.iload_n 2, 1) := by decide +kernel
theorem dX10_copy_108 : decode cX10_copy 108 = .ok (.invokestatic 142, 3) := by decide +kernel
theorem dX10_copy_111 : decode cX10_copy 111 = .ok (.aload_n 0, 1) := by decide +kernel
theorem dX10_copy_112 : decode cX10_copy 112 = .ok (.getfield 44, 3) := by decide +kernel
theorem dX10_copy_115 : decode cX10_copy 115 = .ok (.sipush 300, 3) := by decide +kernel
theorem dX10_copy_118 : decode cX10_copy 118 = .ok (.iload_n 1, 1) := by decide +kernel
theorem dX10_copy_119 : decode cX10_copy 119 = .ok (.iload_n 2, 1) := by decide +kernel
theorem dX10_copy_120 : decode cX10_copy 120 = .ok (.invokestatic 142, 3) := by decide +kernel
theorem dX10_copy_123 : decode cX10_copy 123 = .ok (.aload_n 0, 1) := by decide +kernel
theorem dX10_copy_124 : decode cX10_copy 124 = .ok (.getfield 47, 3) := by decide +kernel
theorem dX10_copy_127 : decode cX10_copy 127 = .ok (.sipush 300, 3) := by decide +kernel
theorem dX10_copy_130 : decode cX10_copy 130 = .ok (.iload_n 1, 1) := by decide +kernel
theorem dX10_copy_131 : decode cX10_copy 131 = .ok (.iload_n 2, 1) := by decide +kernel
theorem dX10_copy_132 : decode cX10_copy 132 = .ok (.invokestatic 142, 3) := by decide +kernel
theorem dX10_copy_135 : decode cX10_copy 135 = .ok (.aload_n 0, 1) := by decide +kernel
theorem dX10_copy_136 : decode cX10_copy 136 = .ok (.getfield 50, 3) := by decide +kernel
theorem dX10_copy_139 : decode cX10_copy 139 = .ok (.sipush 300, 3) := by decide +kernel
theorem dX10_copy_142 : decode cX10_copy 142 = .ok (.iload_n 1, 1) := by decide +kernel
theorem dX10_copy_143 : decode cX10_copy 143 = .ok (.iload_n 2, 1) := by decide +kernel
theorem dX10_copy_144 : decode cX10_copy 144 = .ok (.invokestatic 142, 3) := by decide +kernel
theorem dX10_copy_147 : decode cX10_copy 147 = .ok (.aload_n 0, 1) := by decide +kernel
theorem dX10_copy_148 : decode cX10_copy 148 = .ok (.getfield 53, 3) := by decide +kernel
theorem dX10_copy_151 : decode cX10_copy 151 = .ok (.sipush 300, 3) := by decide +kernel
theorem dX10_copy_154 : decode cX10_copy 154 = .ok (.iload_n 1, 1) := by decide +kernel
theorem dX10_copy_155 : decode cX10_copy 155 = .ok (.iload_n 2, 1) := by decide +kernel
theorem dX10_copy_156 : decode cX10_copy 156 = .ok (.invokestatic 142, 3) := by decide +kernel
theorem dX10_copy_159 : decode cX10_copy 159 = .ok (.aload_n 0, 1) := by decide +kernel
theorem dX10_copy_160 : decode cX10_copy 160 = .ok (.getfield 56, 3) := by decide +kernel
theorem dX10_copy_163 : decode cX10_copy 163 = .ok (.sipush 300, 3) := by decide +kernel
theorem dX10_copy_166 : decode cX10_copy 166 = .ok (.iload_n 1, 1) := by decide +kernel
theorem dX10_copy_167 : decode cX10_copy 167 = .ok (.iload_n 2, 1) := by decide +kernel
theorem dX10_copy_168 : decode cX10_copy 168 = .ok (.invokestatic 142, 3) := by decide +kernel
theorem dX10_copy_171 : decode cX10_copy 171 = .ok (.aload_n 0, 1) := by decide +kernel
theorem dX10_copy_172 : decode cX10_copy 172 = .ok (.getfield 59, 3) := by decide +kernel
theorem dX10_copy_175 : decode cX10_copy 175 = .ok (.iconst 1, 1) := by decide +kernel
theorem dX10_copy_176 : decode cX10_copy 176 = .ok (.iload_n 1, 1) := by decide +kernel
theorem dX10_copy_177 : decode cX10_copy 177 = .ok (.iload_n 2, 1) := by decide +kernel
theorem dX10_copy_178 : decode cX10_copy 178 = .ok (.invokestatic 142, 3) := by decide +kernel
theorem dX10_copy_181 : decode cX10_copy 181 = .ok (.aload_n 0, 1) := by decide +kernel
theorem dX10_copy_182 : decode cX10_copy 182 = .ok (.getfield 62, 3) := by decide +kernel
theorem dX10_copy_185 : decode cX10_copy 185 = .ok (.bipush 100, 2) := by decide +kernel
theorem dX10_copy_187 : decode cX10_copy 187 = .ok (.iload_n 1, 1) := by decide +kernel
theorem dX10_copy_188 : decode cX10_copy 188 = .ok (.iload_n 2, 1) := by decide +kernel
theorem dX10_copy_189 : decode cX10_copy 189 = .ok (.invokestatic 142, 3) := by decide +kernel
theorem dX10_copy_192 : decode cX10_copy 192 = .ok (.aload_n 0, 1) := by decide +kernel
theorem dX10_copy_193 : decode cX10_copy 193 = .ok (.getfield 65, 3) := by decide +kernel
theorem dX10_copy_196 : decode cX10_copy 196 = .ok (.bipush 100, 2) := by decide +kernel
theorem dX10_copy_198 : decode cX10_copy 198 = .ok (.iload_n 1, 1) := by decide +kernel
theorem dX10_copy_199 : decode cX10_copy 199 = .ok (.iload_n 2, 1) := by decide +kernel
theorem dX10_copy_200 : decode cX10_copy 200 = .ok (.invokestatic 142, 3) := by decide +kernel
theorem dX10_copy_203 : decode cX10_copy 203 = .ok (.aload_n 0, 1) := by decide +kernel
theorem dX10_copy_204 : decode cX10_copy 204 = .ok (.getfield 68, 3) := by decide +kernel
theorem dX10_copy_207 : decode cX10_copy 207 = .ok (.bipush 100, 2) := by decide +kernel
theorem dX10_copy_209 : decode cX10_copy 209 = .ok (.iload_n 1, 1) := by decide +kernel
theorem dX10_copy_210 : decode cX10_copy 210 = .ok (.iload_n 2, 1) := by decide +kernel
theorem dX10_copy_211 : decode cX10_copy 211 = .ok (.invokestatic 142, 3) := by decide +kernel
theorem dX10_copy_214 : decode cX10_copy 214 = .ok (.aload_n 0, 1) := by decide +kernel
theorem dX10_copy_215 : decode cX10_copy 215 = .ok (.getfield 71, 3) := by decide +kernel
theorem dX10_copy_218 : decode cX10_copy 218 = .ok (.bipush 100, 2) := by decide +kernel
theorem dX10_copy_220 : decode cX10_copy 220 = .ok (.iload_n 1, 1) := by decide +kernel
theorem dX10_copy_221 : decode cX10_copy 221 = .ok (.iload_n 2, 1) := by decide +kernel
theorem dX10_copy_222 : decode cX10_copy 222 = .ok (.invokestatic 142, 3) := by decide +kernel
theorem dX10_copy_225 : decode cX10_copy 225 = .ok (.aload_n 0, 1) := by decide +kernel
theorem dX10_copy_226 : decode cX10_copy 226 = .ok (.getfield 74, 3) := by decide +kernel
theorem dX10_copy_229 : decode cX10_copy 229 = .ok (.bipush 100, 2) := by decide +kernel
theorem dX10_copy_231 : decode cX10_copy 231 = .ok (.iload_n 1, 1) := by decide +kernel
theorem dX10_copy_232 : decode cX10_copy 232 = .ok (.iload_n 2, 1) := by decide +kernel
theorem dX10_copy_233 : decode cX10_copy 233 = .ok (.invokestatic 142, 3) := by decide +kernel
theorem dX10_copy_236 : decode cX10_copy 236 = .ok (.aload_n 0, 1) := by decide +kernel
theorem dX10_copy_237 : decode cX10_copy 237 = .ok (.getfield 77, 3) := by decide +kernel
theorem dX10_copy_240 : decode cX10_copy 240 = .ok (.bipush 100, 2) := by decide +kernel
theorem dX10_copy_242 : decode cX10_copy 242 = .ok (.iload_n 1, 1) := by decide +kernel
theorem dX10_copy_243 : decode cX10_copy 243 = .ok (.iload_n 2, 1) := by decide +kernel
theorem dX10_copy_244 : decode cX10_copy 244 = .ok (.invokestatic 142, 3) := by decide +kernel
theorem dX10_copy_247 : decode cX10_copy 247 = .ok (.aload_n 0, 1) := by decide +kernel
theorem dX10_copy_248 : decode cX10_copy 248 = .ok (.getfield 80, 3) := by decide +kernel
theorem dX10_copy_251 : decode cX10_copy 251 = .ok (.bipush 100, 2) := by decide +kernel
theorem dX10_copy_253 : decode cX10_copy 253 = .ok (.iload_n 1, 1) := by decide +kernel
theorem dX10_copy_254 : decode cX10_copy 254 = .ok (.iload_n 2, 1) := by decide +kernel
theorem dX10_copy_255 : decode cX10_copy 255 = .ok (.invokestatic 142, 3) := by decide +kernel
theorem dX10_copy_258 : decode cX10_copy 258 = .ok (.aload_n 0, 1) := by decide +kernel
theorem dX10_copy_259 : decode cX10_copy 259 = .ok (.getfield 83, 3) := by decide +kernel
theorem dX10_copy_262 : decode cX10_copy 262 = .ok (.iconst 1, 1) := by decide +kernel
theorem dX10_copy_263 : decode cX10_copy 263 = .ok (.iload_n 1, 1) := by decide +kernel
theorem dX10_copy_264 : decode cX10_copy 264 = .ok (.iload_n 2, 1) := by decide +kernel
theorem dX10_copy_265 : decode cX10_copy 265 = .ok (.invokestatic 142, 3) := by decide +kernel
theorem dX10_copy_268 : decode cX10_copy 268 = .ok (.aload_n 0, 1) := by decide +kernel
theorem dX10_copy_269 : decode cX10_copy 269 = .ok (.getfield 86, 3) := by decide +kernel
theorem dX10_copy_272 : decode cX10_copy 272 = .ok (.iconst 1, 1) := by decide +kernel
theorem dX10_copy_273 : decode cX10_copy 273 = .ok (.iload_n 1, 1) := by decide +kernel
theorem dX10_copy_274 : decode cX10_copy 274 = .ok (.iload_n 2, 1) := by decide +kernel
theorem dX10_copy_275 : decode cX10_copy 275 = .ok (.invokestatic 142, 3) := by decide +kernel
theorem dX10_copy_278 : decode cX10_copy 278 = .ok (.aload_n 0, 1) := by decide +kernel
theorem dX10_copy_279 : decode cX10_copy 279 = .ok (.getfield 89, 3) := by decide +kernel
theorem dX10_copy_282 : decode cX10_copy 282 = .ok (.bipush 16, 2) := by decide +kernel
theorem dX10_copy_284 : decode cX10_copy 284 = .ok (.iload_n 1, 1) := by decide +kernel
theorem dX10_copy_285 : decode cX10_copy 285 = .ok (.iload_n 2, 1) := by decide +kernel
theorem dX10_copy_286 : decode cX10_copy 286 = .ok (.invokestatic 142, 3) := by decide +kernel
theorem dX10_copy_289 : decode cX10_copy 289 = .ok (.aload_n 0, 1) := by decide +kernel
theorem dX10_copy_290 : decode cX10_copy 290 = .ok (.getfield 92, 3) := by decide +kernel
theorem dX10_copy_293 : decode cX10_copy 293 = .ok (.bipush 64, 2) := by decide +kernel
theorem dX10_copy_295 : decode cX10_copy 295 = .ok (.iload_n 1, 1) := by decide +kernel
theorem dX10_copy_296 : decode cX10_copy 296 = .ok (.iload_n 2, 1) := by decide +kernel
theorem dX10_copy_297 : decode cX10_copy 297 = .ok (.invokestatic 142, 3) := by decide +kernel
theorem dX10_copy_300 : decode cX10_copy 300 = .ok (.aload_n 0, 1) := by decide +kernel
theorem dX10_copy_301 : decode cX10_copy 301 = .ok (.getfield 95, 3) := by decide +kernel
theorem dX10_copy_304 : decode cX10_copy 304 = .ok (.bipush 64, 2) := by decide +kernel
theorem dX10_copy_306 : decode cX10_copy 306 = .ok (.iload_n 1, 1) := by decide +kernel
theorem dX10_copy_307 : decode cX10_copy 307 = .ok (.iload_n 2, 1) := by decide +kernel
theorem dX10_copy_308 : decode cX10_copy 308 = .ok (.invokestatic 142, 3) := by decide +kernel
theorem dX10_copy_311 : decode cX10_copy 311 = .ok (.aload_n 0, 1) := by decide +kernel
theorem dX10_copy_312 : decode cX10_copy 312 = .ok (.getfield 98, 3) := by decide +kernel
theorem dX10_copy_315 : decode cX10_copy 315 = .ok (.bipush 64, 2) := by decide +kernel
theorem dX10_copy_317 : decode cX10_copy 317 = .ok (.iload_n 1, 1) := by decide +kernel
theorem dX10_copy_318 : decode cX10_copy 318 = .ok (.iload_n 2, 1) := by decide +kernel
theorem dX10_copy_319 : decode cX10_copy 319 = .ok (.invokestatic 142, 3) := by decide +kernel
theorem dX10_copy_322 : decode cX10_copy 322 = .ok (.aload_n 0, 1) := by decide +kernel
theorem dX10_copy_323 : decode cX10_copy 323 = .ok (.getfield 101, 3) := by decide +kernel
theorem dX10_copy_326 : decode cX10_copy 326 = .ok (.bipush 16, 2) := by decide +kernel
theorem dX10_copy_328 : decode cX10_copy 328 = .ok (.iload_n 1, 1) := by decide +kernel
theorem dX10_copy_329 : decode cX10_copy 329 = .ok (.iload_n 2, 1) := by decide +kernel
theorem dX10_copy_330 : decode cX10_copy 330 = .ok (.invokestatic 142, 3) := by decide +kernel
theorem dX10_copy_333 : decode cX10_copy 333 = .ok (.aload_n 0, 1) := by decide +kernel
theorem dX10_copy_334 : decode cX10_copy 334 = .ok (.getfield 104, 3) := by decide +kernel
theorem dX10_copy_337 : decode cX10_copy 337 = .ok (.bipush 16, 2) := by decide +kernel
theorem dX10_copy_339 : decode cX10_copy 339 = .ok (.iload_n 1, 1) := by decide +kernel
theorem dX10_copy_340 : decode cX10_copy 340 = .ok (.iload_n 2, 1) := by decide +kernel
theorem dX10_copy_341 : decode cX10_copy 341 = .ok (.invokestatic 142, 3) := by decide +kernel
theorem dX10_copy_344 : decode cX10_copy 344 = .ok (.return_, 1) := by decide +kernel
theorem dX10_runs_0 : decode cX10_runs 0 = .ok (.iconst 0, 1) := by decide +kernel
theorem dX10_runs_1 : decode cX10_runs 1 = .ok (.istore_n 1, 1) := by decide +kernel
theorem dX10_runs_2 : decode cX10_runs 2 = .ok (.iconst 0, 1) := by decide +kernel
theorem dX10_runs_3 : decode cX10_runs 3 = .ok (.istore_n 2, 1) := by decide +kernel
theorem dX10_runs_4 : decode cX10_runs 4 = .ok (.iload_n 2, 1) := by decide +kernel
theorem dX10_runs_5 : decode cX10_runs 5 = .ok (.bipush 60, 2) := by decide +kernel
theorem dX10_runs_7 : decode cX10_runs 7 = .ok (.if_icmp .ge 26, 3) := by decide +kernel
theorem dX10_runs_10 : decode cX10_runs 10 = .ok (.iload_n 1, 1) := by decide +kernel
theorem dX10_runs_11 : decode cX10_runs 11 = .ok (.aload_n 0, 1) := by decide +kernel
theorem dX10_runs_12 : decode cX10_runs 12 = .ok (.getfield 29, 3) := by decide +kernel
theorem dX10_runs_15 : decode cX10_runs 15 = .ok (.iload_n 2, 1) := by decide +kernel
theorem dX10_runs_16 : decode cX10_runs 16 = .ok (.iaload, 1) := by decide +kernel
theorem dX10_runs_17 : decode cX10_runs 17 = .ok (.ifCond .le 7, 3) := by decide +kernel
theorem dX10_runs_20 : decode cX10_runs 20 = .ok (.iconst 1, 1) := by decide +kernel
theorem dX10_runs_21 : decode cX10_runs 21 = .ok (.goto 4, 3) := by decide +kernel
theorem dX10_runs_24 : decode cX10_runs 24 = .ok (.iconst 0, 1) := by decide +kernel
theorem dX10_runs_25 : decode cX10_runs 25 = .ok (.iadd, 1) := by decide +kernel
theorem dX10_runs_26 : decode cX10_runs 26 = .ok (.istore_n 1, 1) := by decide +kernel
theorem dX10_runs_27 : decode cX10_runs 27 = .ok (.iinc 2 1, 3) := by decide +kernel
theorem dX10_runs_30 : decode cX10_runs 30 = .ok (.goto (-26), 3) := by decide +kernel
theorem dX10_runs_33 : decode cX10_runs 33 = .ok (.iload_n 1, 1) := by decide +kernel
theorem dX10_runs_34 : decode cX10_runs 34 = .ok (.ireturn, 1) := by decide +kernel
set_option maxRecDepth 20000 in
theorem ggX10_isRun_X10_in : GoodIn wsX10_isRun wsX10_in := goodIn_r _ [5] (by decide +kernel) (by decide +kernel)
set_option maxRecDepth 20000 in
theorem gX10_isRun_X10_in : GoodIn wsX10_isRun (va_wsS RX10 146 yX10_in wsX10_in) := goodIn_app (goodIn_of _ (by decide +kernel)) ggX10_isRun_X10_in
theorem dX10_isRun_0 : decode cX10_isRun 0 = .ok (.iload_n 1, 1) := by decide +kernel
theorem dX10_isRun_1 : decode cX10_isRun 1 = .ok (.iconst 0, 1) := by decide +kernel
theorem dX10_isRun_2 : decode cX10_isRun 2 = .ok (.bipush 59, 2) := by decide +kernel
theorem dX10_isRun_4 : decode cX10_isRun 4 = .ok (.invokestatic 146, 3) := by decide +kernel
theorem dX10_isRun_7 : decode cX10_isRun 7 = .ok (.ifCond .eq 16, 3) := by decide +kernel
theorem dX10_isRun_10 : decode cX10_isRun 10 = .ok (.aload_n 0, 1) := by decide +kernel
theorem dX10_isRun_11 : decode cX10_isRun 11 = .ok (.getfield 29, 3) := by decide +kernel
theorem dX10_isRun_14 : decode cX10_isRun 14 = .ok (.iload_n 1, 1) := by decide +kernel
theorem dX10_isRun_15 : decode cX10_isRun 15 = .ok (.iaload, 1) := by decide +kernel
theorem dX10_isRun_16 : decode cX10_isRun 16 = .ok (.ifCond .le 7, 3) := by decide +kernel
theorem dX10_isRun_19 : decode cX10_isRun 19 = .ok (.iconst 1, 1) := by decide +kernel
theorem dX10_isRun_20 : decode cX10_isRun 20 = .ok (.goto 4, 3) := by decide +kernel
theorem dX10_isRun_23 : decode cX10_isRun 23 = .ok (.iconst 0, 1) := by decide +kernel
theorem dX10_isRun_24 : decode cX10_isRun 24 = .ok (.ireturn, 1) := by decide +kernel
set_option maxRecDepth 20000 in
theorem ggX10_isOffice_X10_in : GoodIn wsX10_isOffice wsX10_in := goodIn_r _ [4] (by decide +kernel) (by decide +kernel)
set_option maxRecDepth 20000 in
theorem gX10_isOffice_X10_in : GoodIn wsX10_isOffice (va_wsS RX10 146 yX10_in wsX10_in) := goodIn_app (goodIn_of _ (by decide +kernel)) ggX10_isOffice_X10_in
theorem dX10_isOffice_0 : decode cX10_isOffice 0 = .ok (.iload_n 1, 1) := by decide +kernel
theorem dX10_isOffice_1 : decode cX10_isOffice 1 = .ok (.iconst 0, 1) := by decide +kernel
theorem dX10_isOffice_2 : decode cX10_isOffice 2 = .ok (.iconst 5, 1) := by decide +kernel
theorem dX10_isOffice_3 : decode cX10_isOffice 3 = .ok (.invokestatic 146, 3) := by decide +kernel
theorem dX10_isOffice_6 : decode cX10_isOffice 6 = .ok (.ireturn, 1) := by decide +kernel
theorem dX10_upTo_0 : decode cX10_upTo 0 = .ok (.iconst 0, 1) := by decide +kernel
theorem dX10_upTo_1 : decode cX10_upTo 1 = .ok (.istore_n 2, 1) := by decide +kernel
theorem dX10_upTo_2 : decode cX10_upTo 2 = .ok (.iconst 0, 1) := by decide +kernel
theorem dX10_upTo_3 : decode cX10_upTo 3 = .ok (.istore_n 3, 1) := by decide +kernel
theorem dX10_upTo_4 : decode cX10_upTo 4 = .ok (.iload_n 3, 1) := by decide +kernel
theorem dX10_upTo_5 : decode cX10_upTo 5 = .ok (.iload_n 1, 1) := by decide +kernel
theorem dX10_upTo_6 : decode cX10_upTo 6 = .ok (.if_icmp .ge 18, 3) := by decide +kernel
theorem dX10_upTo_9 : decode cX10_upTo 9 = .ok (.iload_n 2, 1) := by decide +kernel
theorem dX10_upTo_10 : decode cX10_upTo 10 = .ok (.aload_n 0, 1) := by decide +kernel
theorem dX10_upTo_11 : decode cX10_upTo 11 = .ok (.getfield 20, 3) := by decide +kernel
theorem dX10_upTo_14 : decode cX10_upTo 14 = .ok (.iload_n 3, 1) := by decide +kernel
theorem dX10_upTo_15 : decode cX10_upTo 15 = .ok (.iaload, 1) := by decide +kernel
theorem dX10_upTo_16 : decode cX10_upTo 16 = .ok (.iadd, 1) := by decide +kernel
theorem dX10_upTo_17 : decode cX10_upTo 17 = .ok (.istore_n 2, 1) := by decide +kernel
theorem dX10_upTo_18 : decode cX10_upTo 18 = .ok (.iinc 3 1, 3) := by decide +kernel
theorem dX10_upTo_21 : decode cX10_upTo 21 = .ok (.goto (-17), 3) := by decide +kernel
theorem dX10_upTo_24 : decode cX10_upTo 24 = .ok (.iload_n 2, 1) := by decide +kernel
theorem dX10_upTo_25 : decode cX10_upTo 25 = .ok (.ireturn, 1) := by decide +kernel
set_option maxRecDepth 20000 in
theorem ggX10_leaves_X10_upTo : GoodIn wsX10_leaves wsX10_upTo := goodIn_r _ [5, 6, 7, 8, 9, 10, 11, 12, 13, 14, 15, 16, 17, 18, 19, 20, 21, 22, 23, 24, 25, 26, 27, 28, 29, 30, 31, 32, 33, 34, 35, 36, 37, 38, 39, 40, 41, 42, 43, 44, 45, 46, 47, 48, 49, 50, 51, 52, 53, 54, 55, 56, 57, 58, 59] (by decide +kernel) (by decide +kernel)
set_option maxRecDepth 20000 in
theorem gX10_leaves_X10_upTo : GoodIn wsX10_leaves (wsV RX10 150 RX10 yX10_upTo wsX10_upTo) := goodIn_app (goodIn_of _ (by decide +kernel)) ggX10_leaves_X10_upTo
theorem dX10_leaves_0 : decode cX10_leaves 0 = .ok (.bipush 24, 2) := by decide +kernel
theorem dX10_leaves_2 : decode cX10_leaves 2 = .ok (.iload_n 1, 1) := by decide +kernel
theorem dX10_leaves_3 : decode cX10_leaves 3 = .ok (.imul, 1) := by decide +kernel
theorem dX10_leaves_4 : decode cX10_leaves 4 = .ok (.aload_n 0, 1) := by decide +kernel
theorem dX10_leaves_5 : decode cX10_leaves 5 = .ok (.iload_n 2, 1) := by decide +kernel
theorem dX10_leaves_6 : decode cX10_leaves 6 = .ok (.invokevirtual 150, 3) := by decide +kernel
theorem dX10_leaves_9 : decode cX10_leaves 9 = .ok (.iadd, 1) := by decide +kernel
theorem dX10_leaves_10 : decode cX10_leaves 10 = .ok (.ireturn, 1) := by decide +kernel
set_option maxRecDepth 20000 in
theorem ggX10_line_X10_runs : GoodIn wsX10_line wsX10_runs := goodIn_r _ [10, 11, 15, 16, 17, 18, 19, 20, 21, 22, 23, 24, 25, 26, 27, 28, 29, 30, 31, 32, 33, 34, 35, 36, 37, 38, 39, 40, 41, 42, 43, 44, 45, 46, 47, 48, 49, 50, 51, 52, 53, 54, 55, 56, 57, 58, 59, 60, 61, 62, 63, 64, 65, 66, 67] (by decide +kernel) (by decide +kernel)
set_option maxRecDepth 20000 in
theorem gX10_line_X10_runs : GoodIn wsX10_line (wsV RX10 154 RX10 yX10_runs wsX10_runs) := goodIn_app (goodIn_of _ (by decide +kernel)) ggX10_line_X10_runs
set_option maxRecDepth 20000 in
theorem ggX10_line_X10_in : GoodIn wsX10_line wsX10_in := goodIn_r _ [14] (by decide +kernel) (by decide +kernel)
set_option maxRecDepth 20000 in
theorem gX10_line_X10_in : GoodIn wsX10_line (va_wsS RX10 146 yX10_in wsX10_in) := goodIn_app (goodIn_of _ (by decide +kernel)) ggX10_line_X10_in
theorem dX10_line_0 : decode cX10_line 0 = .ok (.aload_n 0, 1) := by decide +kernel
theorem dX10_line_1 : decode cX10_line 1 = .ok (.iconst 0, 1) := by decide +kernel
theorem dX10_line_2 : decode cX10_line 2 = .ok (.putfield 139, 3) := by decide +kernel
theorem dX10_line_5 : decode cX10_line 5 = .ok (.aload_n 0, 1) := by decide +kernel
theorem dX10_line_6 : decode cX10_line 6 = .ok (.invokevirtual 154, 3) := by decide +kernel
theorem dX10_line_9 : decode cX10_line 9 = .ok (.ifCond .gt 13, 3) := by decide +kernel
theorem dX10_line_12 : decode cX10_line 12 = .ok (.iload_n 1, 1) := by decide +kernel
theorem dX10_line_13 : decode cX10_line 13 = .ok (.iconst 2, 1) := by decide +kernel
theorem dX10_line_14 : decode cX10_line 14 = .ok (.bipush 10, 2) := by decide +kernel
theorem dX10_line_16 : decode cX10_line 16 = .ok (.invokestatic 146, 3) := by decide +kernel
theorem dX10_line_19 : decode cX10_line 19 = .ok (.ifCond .ne 5, 3) := by decide +kernel
theorem dX10_line_22 : decode cX10_line 22 = .ok (.iconst 0, 1) := by decide +kernel
theorem dX10_line_23 : decode cX10_line 23 = .ok (.ireturn, 1) := by decide +kernel
theorem dX10_line_24 : decode cX10_line 24 = .ok (.aload_n 0, 1) := by decide +kernel
theorem dX10_line_25 : decode cX10_line 25 = .ok (.getfield 13, 3) := by decide +kernel
theorem dX10_line_28 : decode cX10_line 28 = .ok (.iconst 0, 1) := by decide +kernel
theorem dX10_line_29 : decode cX10_line 29 = .ok (.iload_n 1, 1) := by decide +kernel
theorem dX10_line_30 : decode cX10_line 30 = .ok (.iastore, 1) := by decide +kernel
theorem dX10_line_31 : decode cX10_line 31 = .ok (.iconst 0, 1) := by decide +kernel
theorem dX10_line_32 : decode cX10_line 32 = .ok (.istore_n 2, 1) := by decide +kernel
theorem dX10_line_33 : decode cX10_line 33 = .ok (.iload_n 2, 1) := by decide +kernel
theorem dX10_line_34 : decode cX10_line 34 = .ok (.bipush 9, 2) := by decide +kernel
theorem dX10_line_36 : decode cX10_line 36 = .ok (.if_icmp .ge 23, 3) := by decide +kernel
theorem dX10_line_39 : decode cX10_line 39 = .ok (.aload_n 0, 1) := by decide +kernel
theorem dX10_line_40 : decode cX10_line 40 = .ok (.getfield 17, 3) := by decide +kernel
theorem dX10_line_43 : decode cX10_line 43 = .ok (.iload_n 2, 1) := by decide +kernel
theorem dX10_line_44 : decode cX10_line 44 = .ok (.iconst 1, 1) := by decide +kernel
theorem dX10_line_45 : decode cX10_line 45 = .ok (.iastore, 1) := by decide +kernel
theorem dX10_line_46 : decode cX10_line 46 = .ok (.aload_n 0, 1) := by decide +kernel
theorem dX10_line_47 : decode cX10_line 47 = .ok (.getfield 20, 3) := by decide +kernel
theorem dX10_line_50 : decode cX10_line 50 = .ok (.iload_n 2, 1) := by decide +kernel
theorem dX10_line_51 : decode cX10_line 51 = .ok (.iconst 1, 1) := by decide +kernel
theorem dX10_line_52 : decode cX10_line 52 = .ok (.iastore, 1) := by decide +kernel
theorem dX10_line_53 : decode cX10_line 53 = .ok (.iinc 2 1, 3) := by decide +kernel
theorem dX10_line_56 : decode cX10_line 56 = .ok (.goto (-23), 3) := by decide +kernel
theorem dX10_line_59 : decode cX10_line 59 = .ok (.iconst 0, 1) := by decide +kernel
theorem dX10_line_60 : decode cX10_line 60 = .ok (.istore_n 2, 1) := by decide +kernel
theorem dX10_line_61 : decode cX10_line 61 = .ok (.iload_n 2, 1) := by decide +kernel
theorem dX10_line_62 : decode cX10_line 62 = .ok (.bipush 6, 2) := by decide +kernel
theorem dX10_line_64 : decode cX10_line 64 = .ok (.if_icmp .ge 16, 3) := by decide +kernel
theorem dX10_line_67 : decode cX10_line 67 = .ok (.aload_n 0, 1) := by decide +kernel
theorem dX10_line_68 : decode cX10_line 68 = .ok (.getfield 23, 3) := by decide +kernel
theorem dX10_line_71 : decode cX10_line 71 = .ok (.iload_n 2, 1) := by decide +kernel
theorem dX10_line_72 : decode cX10_line 72 = .ok (.iconst 0, 1) := by decide +kernel
theorem dX10_line_73 : decode cX10_line 73 = .ok (.iastore, 1) := by decide +kernel
theorem dX10_line_74 : decode cX10_line 74 = .ok (.iinc 2 1, 3) := by decide +kernel
theorem dX10_line_77 : decode cX10_line 77 = .ok (.goto (-16), 3) := by decide +kernel
theorem dX10_line_80 : decode cX10_line 80 = .ok (.iconst 1, 1) := by decide +kernel
theorem dX10_line_81 : decode cX10_line 81 = .ok (.ireturn, 1) := by decide +kernel
set_option maxRecDepth 20000 in
theorem ggX10_stretch_X10_runs : GoodIn wsX10_stretch wsX10_runs := goodIn_r _ [9, 10, 14, 15, 16, 17, 18, 19, 20, 21, 22, 23, 24, 25, 26, 27, 28, 29, 30, 31, 32, 33, 34, 35, 36, 37, 38, 39, 40, 41, 42, 43, 44, 45, 46, 47, 48, 49, 50, 51, 52, 53, 54, 55, 56, 57, 58, 59, 60, 61, 62, 63, 64, 65, 66] (by decide +kernel) (by decide +kernel)
set_option maxRecDepth 20000 in
theorem gX10_stretch_X10_runs : GoodIn wsX10_stretch (wsV RX10 154 RX10 yX10_runs wsX10_runs) := goodIn_app (goodIn_of _ (by decide +kernel)) ggX10_stretch_X10_runs
set_option maxRecDepth 20000 in
theorem ggX10_stretch_X10_in : GoodIn wsX10_stretch wsX10_in := goodIn_r _ [13] (by decide +kernel) (by decide +kernel)
set_option maxRecDepth 20000 in
theorem gX10_stretch_X10_in : GoodIn wsX10_stretch (va_wsS RX10 146 yX10_in wsX10_in) := goodIn_app (goodIn_of _ (by decide +kernel)) ggX10_stretch_X10_in
theorem dX10_stretch_0 : decode cX10_stretch 0 = .ok (.aload_n 0, 1) := by decide +kernel
theorem dX10_stretch_1 : decode cX10_stretch 1 = .ok (.iconst 0, 1) := by decide +kernel
theorem dX10_stretch_2 : decode cX10_stretch 2 = .ok (.putfield 139, 3) := by decide +kernel
theorem dX10_stretch_5 : decode cX10_stretch 5 = .ok (.aload_n 0, 1) := by decide +kernel
theorem dX10_stretch_6 : decode cX10_stretch 6 = .ok (.invokevirtual 154, 3) := by decide +kernel
theorem dX10_stretch_9 : decode cX10_stretch 9 = .ok (.ifCond .gt 40, 3) := by decide +kernel
theorem dX10_stretch_12 : decode cX10_stretch 12 = .ok (.iload_n 1, 1) := by decide +kernel
theorem dX10_stretch_13 : decode cX10_stretch 13 = .ok (.iconst 0, 1) := by decide +kernel
theorem dX10_stretch_14 : decode cX10_stretch 14 = .ok (.aload_n 0, 1) := by decide +kernel
theorem dX10_stretch_15 : decode cX10_stretch 15 = .ok (.getfield 13, 3) := by decide +kernel
theorem dX10_stretch_18 : decode cX10_stretch 18 = .ok (.iconst 0, 1) := by decide +kernel
theorem dX10_stretch_19 : decode cX10_stretch 19 = .ok (.iaload, 1) := by decide +kernel
theorem dX10_stretch_20 : decode cX10_stretch 20 = .ok (.iconst 2, 1) := by decide +kernel
theorem dX10_stretch_21 : decode cX10_stretch 21 = .ok (.isub, 1) := by decide +kernel
theorem dX10_stretch_22 : decode cX10_stretch 22 = .ok (.invokestatic 146, 3) := by decide +kernel
theorem dX10_stretch_25 : decode cX10_stretch 25 = .ok (.ifCond .eq 24, 3) := by decide +kernel
theorem dX10_stretch_28 : decode cX10_stretch 28 = .ok (.iload_n 2, 1) := by decide +kernel
theorem dX10_stretch_29 : decode cX10_stretch 29 = .ok (.iconst 1, 1) := by decide +kernel
theorem dX10_stretch_30 : decode cX10_stretch 30 = .ok (.sipush 500, 3) := by decide +kernel
theorem dX10_stretch_33 : decode cX10_stretch 33 = .ok (.invokestatic 146, 3) := by decide +kernel
theorem dX10_stretch_36 : decode cX10_stretch 36 = .ok (.ifCond .eq 13, 3) := by decide +kernel
theorem dX10_stretch_39 : decode cX10_stretch 39 = .ok (.iload_n 3, 1) := by decide +kernel
theorem dX10_stretch_40 : decode cX10_stretch 40 = .ok (.iconst 1, 1) := by decide +kernel
theorem dX10_stretch_41 : decode cX10_stretch 41 = .ok (.bipush 24, 2) := by decide +kernel
theorem dX10_stretch_43 : decode cX10_stretch 43 = .ok (.invokestatic 146, 3) := by decide +kernel
theorem dX10_stretch_46 : decode cX10_stretch 46 = .ok (.ifCond .ne 5, 3) := by decide +kernel
theorem dX10_stretch_49 : decode cX10_stretch 49 = .ok (.iconst 0, 1) := by decide +kernel
theorem dX10_stretch_50 : decode cX10_stretch 50 = .ok (.ireturn, 1) := by decide +kernel
theorem dX10_stretch_51 : decode cX10_stretch 51 = .ok (.aload_n 0, 1) := by decide +kernel
theorem dX10_stretch_52 : decode cX10_stretch 52 = .ok (.getfield 17, 3) := by decide +kernel
theorem dX10_stretch_55 : decode cX10_stretch 55 = .ok (.iload_n 1, 1) := by decide +kernel
theorem dX10_stretch_56 : decode cX10_stretch 56 = .ok (.iload_n 2, 1) := by decide +kernel
theorem dX10_stretch_57 : decode cX10_stretch 57 = .ok (.iastore, 1) := by decide +kernel
theorem dX10_stretch_58 : decode cX10_stretch 58 = .ok (.aload_n 0, 1) := by decide +kernel
theorem dX10_stretch_59 : decode cX10_stretch 59 = .ok (.getfield 20, 3) := by decide +kernel
theorem dX10_stretch_62 : decode cX10_stretch 62 = .ok (.iload_n 1, 1) := by decide +kernel
theorem dX10_stretch_63 : decode cX10_stretch 63 = .ok (.iload_n 3, 1) := by decide +kernel
theorem dX10_stretch_64 : decode cX10_stretch 64 = .ok (.iastore, 1) := by decide +kernel
theorem dX10_stretch_65 : decode cX10_stretch 65 = .ok (.iconst 1, 1) := by decide +kernel
theorem dX10_stretch_66 : decode cX10_stretch 66 = .ok (.ireturn, 1) := by decide +kernel
set_option maxRecDepth 20000 in
theorem ggX10_office_X10_runs : GoodIn wsX10_office wsX10_runs := goodIn_r _ [8, 9, 17, 18, 19, 20, 21, 22, 23, 24, 25, 26, 27, 28, 29, 30, 31, 32, 33, 34, 35, 36, 37, 38, 39, 40, 41, 42, 43, 44, 45, 46, 47, 48, 49, 50, 51, 52, 53, 54, 55, 56, 57, 58, 59, 60, 61, 62, 63, 64, 65, 66, 67, 68, 69] (by decide +kernel) (by decide +kernel)
set_option maxRecDepth 20000 in
theorem gX10_office_X10_runs : GoodIn wsX10_office (wsV RX10 154 RX10 yX10_runs wsX10_runs) := goodIn_app (goodIn_of _ (by decide +kernel)) ggX10_office_X10_runs
set_option maxRecDepth 20000 in
theorem ggX10_office_X10_isOffice : GoodIn wsX10_office wsX10_isOffice := goodIn_r _ [13, 14, 15, 7, 16] (by decide +kernel) (by decide +kernel)
set_option maxRecDepth 20000 in
theorem gX10_office_X10_isOffice : GoodIn wsX10_office (wsV RX10 158 RX10 yX10_isOffice wsX10_isOffice) := goodIn_app (goodIn_of _ (by decide +kernel)) ggX10_office_X10_isOffice
set_option maxRecDepth 20000 in
theorem ggX10_office_X10_in : GoodIn wsX10_office wsX10_in := goodIn_r _ [16] (by decide +kernel) (by decide +kernel)
set_option maxRecDepth 20000 in
theorem gX10_office_X10_in : GoodIn wsX10_office (va_wsS RX10 146 yX10_in wsX10_in) := goodIn_app (goodIn_of _ (by decide +kernel)) ggX10_office_X10_in
theorem dX10_office_0 : decode cX10_office 0 = .ok (.aload_n 0, 1) := by decide +kernel
theorem dX10_office_1 : decode cX10_office 1 = .ok (.iconst 0, 1) := by decide +kernel
theorem dX10_office_2 : decode cX10_office 2 = .ok (.putfield 139, 3) := by decide +kernel
theorem dX10_office_5 : decode cX10_office 5 = .ok (.aload_n 0, 1) := by decide +kernel
theorem dX10_office_6 : decode cX10_office 6 = .ok (.invokevirtual 154, 3) := by decide +kernel
theorem dX10_office_9 : decode cX10_office 9 = .ok (.ifCond .gt 27, 3) := by decide +kernel
theorem dX10_office_12 : decode cX10_office 12 = .ok (.aload_n 0, 1) := by decide +kernel
theorem dX10_office_13 : decode cX10_office 13 = .ok (.iload_n 1, 1) := by decide +kernel
theorem dX10_office_14 : decode cX10_office 14 = .ok (.invokevirtual 158, 3) := by decide +kernel
theorem dX10_office_17 : decode cX10_office 17 = .ok (.ifCond .eq 19, 3) := by decide +kernel
theorem dX10_office_20 : decode cX10_office 20 = .ok (.iload_n 2, 1) := by decide +kernel
theorem dX10_office_21 : decode cX10_office 21 = .ok (.iconst 0, 1) := by decide +kernel
theorem dX10_office_22 : decode cX10_office 22 = .ok (.aload_n 0, 1) := by decide +kernel
theorem dX10_office_23 : decode cX10_office 23 = .ok (.getfield 13, 3) := by decide +kernel
theorem dX10_office_26 : decode cX10_office 26 = .ok (.iconst 0, 1) := by decide +kernel
theorem dX10_office_27 : decode cX10_office 27 = .ok (.iaload, 1) := by decide +kernel
theorem dX10_office_28 : decode cX10_office 28 = .ok (.iconst 1, 1) := by decide +kernel
theorem dX10_office_29 : decode cX10_office 29 = .ok (.isub, 1) := by decide +kernel
theorem dX10_office_30 : decode cX10_office 30 = .ok (.invokestatic 146, 3) := by decide +kernel
theorem dX10_office_33 : decode cX10_office 33 = .ok (.ifCond .ne 5, 3) := by decide +kernel
theorem dX10_office_36 : decode cX10_office 36 = .ok (.iconst 0, 1) := by decide +kernel
theorem dX10_office_37 : decode cX10_office 37 = .ok (.ireturn, 1) := by decide +kernel
theorem dX10_office_38 : decode cX10_office 38 = .ok (.aload_n 0, 1) := by decide +kernel
theorem dX10_office_39 : decode cX10_office 39 = .ok (.getfield 23, 3) := by decide +kernel
theorem dX10_office_42 : decode cX10_office 42 = .ok (.iload_n 1, 1) := by decide +kernel
theorem dX10_office_43 : decode cX10_office 43 = .ok (.iload_n 2, 1) := by decide +kernel
theorem dX10_office_44 : decode cX10_office 44 = .ok (.iastore, 1) := by decide +kernel
theorem dX10_office_45 : decode cX10_office 45 = .ok (.iconst 1, 1) := by decide +kernel
theorem dX10_office_46 : decode cX10_office 46 = .ok (.ireturn, 1) := by decide +kernel
set_option maxRecDepth 20000 in
theorem ggX10_share_X10_in : GoodIn wsX10_share wsX10_in := goodIn_r _ [6] (by decide +kernel) (by decide +kernel)
set_option maxRecDepth 20000 in
theorem gX10_share_X10_in : GoodIn wsX10_share (va_wsS RX10 146 yX10_in wsX10_in) := goodIn_app (goodIn_of _ (by decide +kernel)) ggX10_share_X10_in
set_option maxRecDepth 20000 in
theorem ggX10_share_X10_isOffice : GoodIn wsX10_share wsX10_isOffice := goodIn_r _ [10, 3, 4, 5, 6] (by decide +kernel) (by decide +kernel)
set_option maxRecDepth 20000 in
theorem gX10_share_X10_isOffice : GoodIn wsX10_share (wsV RX10 158 RX10 yX10_isOffice wsX10_isOffice) := goodIn_app (goodIn_of _ (by decide +kernel)) ggX10_share_X10_isOffice
theorem dX10_share_0 : decode cX10_share 0 = .ok (.aload_n 0, 1) := by decide +kernel
theorem dX10_share_1 : decode cX10_share 1 = .ok (.iconst 0, 1) := by decide +kernel
theorem dX10_share_2 : decode cX10_share 2 = .ok (.putfield 139, 3) := by decide +kernel
theorem dX10_share_5 : decode cX10_share 5 = .ok (.iload_n 1, 1) := by decide +kernel
theorem dX10_share_6 : decode cX10_share 6 = .ok (.iconst 0, 1) := by decide +kernel
theorem dX10_share_7 : decode cX10_share 7 = .ok (.bipush 9, 2) := by decide +kernel
theorem dX10_share_9 : decode cX10_share 9 = .ok (.invokestatic 146, 3) := by decide +kernel
theorem dX10_share_12 : decode cX10_share 12 = .ok (.ifCond .eq 11, 3) := by decide +kernel
theorem dX10_share_15 : decode cX10_share 15 = .ok (.aload_n 0, 1) := by decide +kernel
theorem dX10_share_16 : decode cX10_share 16 = .ok (.iload_n 2, 1) := by decide +kernel
theorem dX10_share_17 : decode cX10_share 17 = .ok (.invokevirtual 158, 3) := by decide +kernel
theorem dX10_share_20 : decode cX10_share 20 = .ok (.ifCond .ne 5, 3) := by decide +kernel
theorem dX10_share_23 : decode cX10_share 23 = .ok (.iconst 0, 1) := by decide +kernel
theorem dX10_share_24 : decode cX10_share 24 = .ok (.ireturn, 1) := by decide +kernel
theorem dX10_share_25 : decode cX10_share 25 = .ok (.aload_n 0, 1) := by decide +kernel
theorem dX10_share_26 : decode cX10_share 26 = .ok (.getfield 26, 3) := by decide +kernel
theorem dX10_share_29 : decode cX10_share 29 = .ok (.iload_n 1, 1) := by decide +kernel
theorem dX10_share_30 : decode cX10_share 30 = .ok (.iload_n 2, 1) := by decide +kernel
theorem dX10_share_31 : decode cX10_share 31 = .ok (.iastore, 1) := by decide +kernel
theorem dX10_share_32 : decode cX10_share 32 = .ok (.iconst 1, 1) := by decide +kernel
theorem dX10_share_33 : decode cX10_share 33 = .ok (.ireturn, 1) := by decide +kernel
set_option maxRecDepth 20000 in
theorem ggX10_run_X10_in : GoodIn wsX10_run wsX10_in := goodIn_r _ [9] (by decide +kernel) (by decide +kernel)
set_option maxRecDepth 20000 in
theorem gX10_run_X10_in : GoodIn wsX10_run (va_wsS RX10 146 yX10_in wsX10_in) := goodIn_app (goodIn_of _ (by decide +kernel)) ggX10_run_X10_in
theorem dX10_run_0 : decode cX10_run 0 = .ok (.aload_n 0, 1) := by decide +kernel
theorem dX10_run_1 : decode cX10_run 1 = .ok (.iconst 0, 1) := by decide +kernel
theorem dX10_run_2 : decode cX10_run 2 = .ok (.putfield 139, 3) := by decide +kernel
theorem dX10_run_5 : decode cX10_run 5 = .ok (.iload_n 1, 1) := by decide +kernel
theorem dX10_run_6 : decode cX10_run 6 = .ok (.iconst 0, 1) := by decide +kernel
theorem dX10_run_7 : decode cX10_run 7 = .ok (.bipush 59, 2) := by decide +kernel
theorem dX10_run_9 : decode cX10_run 9 = .ok (.invokestatic 146, 3) := by decide +kernel
theorem dX10_run_12 : decode cX10_run 12 = .ok (.ifCond .eq 35, 3) := by decide +kernel
theorem dX10_run_15 : decode cX10_run 15 = .ok (.aload_n 0, 1) := by decide +kernel
theorem dX10_run_16 : decode cX10_run 16 = .ok (.getfield 29, 3) := by decide +kernel
theorem dX10_run_19 : decode cX10_run 19 = .ok (.iload_n 1, 1) := by decide +kernel
theorem dX10_run_20 : decode cX10_run 20 = .ok (.iaload, 1) := by decide +kernel
theorem dX10_run_21 : decode cX10_run 21 = .ok (.ifCond .gt 26, 3) := by decide +kernel
theorem dX10_run_24 : decode cX10_run 24 = .ok (.aload_n 0, 1) := by decide +kernel
theorem dX10_run_25 : decode cX10_run 25 = .ok (.getfield 83, 3) := by decide +kernel
theorem dX10_run_28 : decode cX10_run 28 = .ok (.iconst 0, 1) := by decide +kernel
theorem dX10_run_29 : decode cX10_run 29 = .ok (.iaload, 1) := by decide +kernel
theorem dX10_run_30 : decode cX10_run 30 = .ok (.bipush 24, 2) := by decide +kernel
theorem dX10_run_32 : decode cX10_run 32 = .ok (.iload_n 1, 1) := by decide +kernel
theorem dX10_run_33 : decode cX10_run 33 = .ok (.imul, 1) := by decide +kernel
theorem dX10_run_34 : decode cX10_run 34 = .ok (.if_icmp .ge 13, 3) := by decide +kernel
theorem dX10_run_37 : decode cX10_run 37 = .ok (.iload_n 2, 1) := by decide +kernel
theorem dX10_run_38 : decode cX10_run 38 = .ok (.iconst 1, 1) := by decide +kernel
theorem dX10_run_39 : decode cX10_run 39 = .ok (.bipush 10, 2) := by decide +kernel
theorem dX10_run_41 : decode cX10_run 41 = .ok (.invokestatic 146, 3) := by decide +kernel
theorem dX10_run_44 : decode cX10_run 44 = .ok (.ifCond .ne 5, 3) := by decide +kernel
theorem dX10_run_47 : decode cX10_run 47 = .ok (.iconst 0, 1) := by decide +kernel
theorem dX10_run_48 : decode cX10_run 48 = .ok (.ireturn, 1) := by decide +kernel
theorem dX10_run_49 : decode cX10_run 49 = .ok (.aload_n 0, 1) := by decide +kernel
theorem dX10_run_50 : decode cX10_run 50 = .ok (.getfield 29, 3) := by decide +kernel
theorem dX10_run_53 : decode cX10_run 53 = .ok (.iload_n 1, 1) := by decide +kernel
theorem dX10_run_54 : decode cX10_run 54 = .ok (.iload_n 2, 1) := by decide +kernel
theorem dX10_run_55 : decode cX10_run 55 = .ok (.iastore, 1) := by decide +kernel
theorem dX10_run_56 : decode cX10_run 56 = .ok (.iconst 0, 1) := by decide +kernel
theorem dX10_run_57 : decode cX10_run 57 = .ok (.istore_n 3, 1) := by decide +kernel
theorem dX10_run_58 : decode cX10_run 58 = .ok (.iload_n 3, 1) := by decide +kernel
theorem dX10_run_59 : decode cX10_run 59 = .ok (.bipush 10, 2) := by decide +kernel
theorem dX10_run_61 : decode cX10_run 61 = .ok (.if_icmp .ge 26, 3) := by decide +kernel
theorem dX10_run_64 : decode cX10_run 64 = .ok (.aload_n 0, 1) := by decide +kernel
theorem dX10_run_65 : decode cX10_run 65 = .ok (.getfield 32, 3) := by decide +kernel
theorem dX10_run_68 : decode cX10_run 68 = .ok (.bipush 10, 2) := by decide +kernel
theorem dX10_run_70 : decode cX10_run 70 = .ok (.iload_n 1, 1) := by decide +kernel
theorem dX10_run_71 : decode cX10_run 71 = .ok (.imul, 1) := by decide +kernel
theorem dX10_run_72 : decode cX10_run 72 = .ok (.iload_n 3, 1) := by decide +kernel
theorem dX10_run_73 : decode cX10_run 73 = .ok (.iadd, 1) := by decide +kernel
theorem dX10_run_74 : decode cX10_run 74 = .ok (.aload_n 0, 1) := by decide +kernel
theorem dX10_run_75 : decode cX10_run 75 = .ok (.getfield 26, 3) := by decide +kernel
theorem dX10_run_78 : decode cX10_run 78 = .ok (.iload_n 3, 1) := by decide +kernel
theorem dX10_run_79 : decode cX10_run 79 = .ok (.iaload, 1) := by decide +kernel
theorem dX10_run_80 : decode cX10_run 80 = .ok (.iastore, 1) := by decide +kernel
theorem dX10_run_81 : decode cX10_run 81 = .ok (.iinc 3 1, 3) := by decide +kernel
theorem dX10_run_84 : decode cX10_run 84 = .ok (.goto (-26), 3) := by decide +kernel
theorem dX10_run_87 : decode cX10_run 87 = .ok (.iconst 1, 1) := by decide +kernel
theorem dX10_run_88 : decode cX10_run 88 = .ok (.ireturn, 1) := by decide +kernel
theorem dX10_isStretch_0 : decode cX10_isStretch 0 = .ok (.iload_n 1, 1) := by decide +kernel
theorem dX10_isStretch_1 : decode cX10_isStretch 1 = .ok (.ifCond .lt 22, 3) := by decide +kernel
theorem dX10_isStretch_4 : decode cX10_isStretch 4 = .ok (.iload_n 1, 1) := by decide +kernel
theorem dX10_isStretch_5 : decode cX10_isStretch 5 = .ok (.iload_n 2, 1) := by decide +kernel
theorem dX10_isStretch_6 : decode cX10_isStretch 6 = .ok (.if_icmp .ge 17, 3) := by decide +kernel
theorem dX10_isStretch_9 : decode cX10_isStretch 9 = .ok (.iload_n 2, 1) := by decide +kernel
theorem dX10_isStretch_10 : decode cX10_isStretch 10 = .ok (.aload_n 0, 1) := by decide +kernel
theorem dX10_isStretch_11 : decode cX10_isStretch 11 = .ok (.getfield 13, 3) := by decide +kernel
theorem dX10_isStretch_14 : decode cX10_isStretch 14 = .ok (.iconst 0, 1) := by decide +kernel
theorem dX10_isStretch_15 : decode cX10_isStretch 15 = .ok (.iaload, 1) := by decide +kernel
theorem dX10_isStretch_16 : decode cX10_isStretch 16 = .ok (.if_icmp .ge 7, 3) := by decide +kernel
theorem dX10_isStretch_19 : decode cX10_isStretch 19 = .ok (.iconst 1, 1) := by decide +kernel
theorem dX10_isStretch_20 : decode cX10_isStretch 20 = .ok (.goto 4, 3) := by decide +kernel
theorem dX10_isStretch_23 : decode cX10_isStretch 23 = .ok (.iconst 0, 1) := by decide +kernel
theorem dX10_isStretch_24 : decode cX10_isStretch 24 = .ok (.ireturn, 1) := by decide +kernel
set_option maxRecDepth 20000 in
theorem ggX10_canAsk_X10_isOffice : GoodIn wsX10_canAsk wsX10_isOffice := goodIn_r _ [6, 7, 8, 5, 9] (by decide +kernel) (by decide +kernel)
set_option maxRecDepth 20000 in
theorem gX10_canAsk_X10_isOffice : GoodIn wsX10_canAsk (wsV RX10 158 RX10 yX10_isOffice wsX10_isOffice) := goodIn_app (goodIn_of _ (by decide +kernel)) ggX10_canAsk_X10_isOffice
set_option maxRecDepth 20000 in
theorem ggX10_canAsk_X10_isRun : GoodIn wsX10_canAsk wsX10_isRun := goodIn_r _ [13, 14, 7, 8, 5, 9, 20, 21, 22, 23, 24, 25, 26, 27, 28, 29, 30, 31, 32, 33, 34, 35, 36, 37, 38, 39, 40, 41, 42, 43, 44, 45, 46, 47, 48, 49, 50, 51, 52, 53, 54, 55, 56, 57, 58, 59, 60, 61, 62, 63, 64, 65, 66, 67, 68, 69, 70, 71, 72] (by decide +kernel) (by decide +kernel)
set_option maxRecDepth 20000 in
theorem gX10_canAsk_X10_isRun : GoodIn wsX10_canAsk (wsV RX10 166 RX10 yX10_isRun wsX10_isRun) := goodIn_app (goodIn_of _ (by decide +kernel)) ggX10_canAsk_X10_isRun
set_option maxRecDepth 20000 in
theorem ggX10_canAsk_X10_isStretch : GoodIn wsX10_canAsk wsX10_isStretch := goodIn_r _ [18, 19, 20, 21, 22, 23, 24, 25, 26, 27, 28, 29, 30, 31, 32, 33, 34, 35, 36, 37, 38, 39, 40, 41, 42, 43, 44, 45, 46, 47, 48, 49, 50, 51, 52, 53, 54, 55, 56, 57, 58, 59, 60, 61, 62, 63, 64, 65, 66, 67, 68, 69, 70, 71, 72] (by decide +kernel) (by decide +kernel)
set_option maxRecDepth 20000 in
theorem gX10_canAsk_X10_isStretch : GoodIn wsX10_canAsk (wsV RX10 169 RX10 yX10_isStretch wsX10_isStretch) := goodIn_app (goodIn_of _ (by decide +kernel)) ggX10_canAsk_X10_isStretch
theorem dX10_canAsk_0 : decode cX10_canAsk 0 = .ok (.aload_n 0, 1) := by decide +kernel
theorem dX10_canAsk_1 : decode cX10_canAsk 1 = .ok (.iload_n 1, 1) := by decide +kernel
theorem dX10_canAsk_2 : decode cX10_canAsk 2 = .ok (.invokevirtual 158, 3) := by decide +kernel
theorem dX10_canAsk_5 : decode cX10_canAsk 5 = .ok (.ifCond .eq 37, 3) := by decide +kernel
theorem dX10_canAsk_8 : decode cX10_canAsk 8 = .ok (.aload_n 0, 1) := by decide +kernel
theorem dX10_canAsk_9 : decode cX10_canAsk 9 = .ok (.iload_n 2, 1) := by decide +kernel
theorem dX10_canAsk_10 : decode cX10_canAsk 10 = .ok (.invokevirtual 166, 3) := by decide +kernel
theorem dX10_canAsk_13 : decode cX10_canAsk 13 = .ok (.ifCond .eq 29, 3) := by decide +kernel
theorem dX10_canAsk_16 : decode cX10_canAsk 16 = .ok (.aload_n 0, 1) := by decide +kernel
theorem dX10_canAsk_17 : decode cX10_canAsk 17 = .ok (.iload_n 3, 1) := by decide +kernel
theorem dX10_canAsk_18 : decode cX10_canAsk 18 = .ok (.iload 4, 2) := by decide +kernel
theorem dX10_canAsk_20 : decode cX10_canAsk 20 = .ok (.invokevirtual 169, 3) := by decide +kernel
theorem dX10_canAsk_23 : decode cX10_canAsk 23 = .ok (.ifCond .eq 19, 3) := by decide +kernel
theorem dX10_canAsk_26 : decode cX10_canAsk 26 = .ok (.aload_n 0, 1) := by decide +kernel
theorem dX10_canAsk_27 : decode cX10_canAsk 27 = .ok (.getfield 38, 3) := by decide +kernel
theorem dX10_canAsk_30 : decode cX10_canAsk 30 = .ok (.iconst 0, 1) := by decide +kernel
theorem dX10_canAsk_31 : decode cX10_canAsk 31 = .ok (.iaload, 1) := by decide +kernel
theorem dX10_canAsk_32 : decode cX10_canAsk 32 = .ok (.sipush 300, 3) := by decide +kernel
theorem dX10_canAsk_35 : decode cX10_canAsk 35 = .ok (.if_icmp .ge 7, 3) := by decide +kernel
theorem dX10_canAsk_38 : decode cX10_canAsk 38 = .ok (.iconst 1, 1) := by decide +kernel
theorem dX10_canAsk_39 : decode cX10_canAsk 39 = .ok (.goto 4, 3) := by decide +kernel
theorem dX10_canAsk_42 : decode cX10_canAsk 42 = .ok (.iconst 0, 1) := by decide +kernel
theorem dX10_canAsk_43 : decode cX10_canAsk 43 = .ok (.ireturn, 1) := by decide +kernel
set_option maxRecDepth 20000 in
theorem ggX10_sell_X10_canAsk : GoodIn wsX10_sell wsX10_canAsk := goodIn_r _ [6, 7, 8, 9, 10, 5, 11, 12, 13, 14, 15, 16, 17, 18, 19, 20, 21, 22, 23, 24, 59, 60, 61, 62, 63, 64, 65, 66, 67, 68, 69, 70, 71, 72, 73, 74, 75, 76, 77, 78, 79, 80, 81, 82, 83, 84, 85, 86, 87, 88, 89, 90, 91, 92, 93, 94, 95, 96, 97, 98, 99, 100, 101, 102, 103, 104, 105, 106, 107, 108, 109, 110, 111] (by decide +kernel) (by decide +kernel)
set_option maxRecDepth 20000 in
theorem gX10_sell_X10_canAsk : GoodIn wsX10_sell (wsV RX10 185 RX10 yX10_canAsk wsX10_canAsk) := goodIn_app (goodIn_of _ (by decide +kernel)) ggX10_sell_X10_canAsk
theorem dX10_sell_0 : decode cX10_sell 0 = .ok (.aload_n 0, 1) := by decide +kernel
theorem dX10_sell_1 : decode cX10_sell 1 = .ok (.iconst 0, 1) := by decide +kernel
theorem dX10_sell_2 : decode cX10_sell 2 = .ok (.putfield 139, 3) := by decide +kernel
theorem dX10_sell_5 : decode cX10_sell 5 = .ok (.aload_n 0, 1) := by decide +kernel
theorem dX10_sell_6 : decode cX10_sell 6 = .ok (.iload_n 1, 1) := by decide +kernel
theorem dX10_sell_7 : decode cX10_sell 7 = .ok (.iload_n 2, 1) := by decide +kernel
theorem dX10_sell_8 : decode cX10_sell 8 = .ok (.iload_n 3, 1) := by decide +kernel
theorem dX10_sell_9 : decode cX10_sell 9 = .ok (.iload 4, 2) := by decide +kernel
theorem dX10_sell_11 : decode cX10_sell 11 = .ok (.invokevirtual 185, 3) := by decide +kernel
theorem dX10_sell_14 : decode cX10_sell 14 = .ok (.ifCond .eq 15, 3) := by decide +kernel
theorem dX10_sell_17 : decode cX10_sell 17 = .ok (.aload_n 0, 1) := by decide +kernel
theorem dX10_sell_18 : decode cX10_sell 18 = .ok (.iload_n 1, 1) := by decide +kernel
theorem dX10_sell_19 : decode cX10_sell 19 = .ok (.iload_n 2, 1) := by decide +kernel
theorem dX10_sell_20 : decode cX10_sell 20 = .ok (.iload_n 3, 1) := by decide +kernel
theorem dX10_sell_21 : decode cX10_sell 21 = .ok (.iload 4, 2) := by decide +kernel
theorem dX10_sell_23 : decode cX10_sell 23 = .ok (.invokevirtual 188, 3) := by decide +kernel
theorem dX10_sell_26 : decode cX10_sell 26 = .ok (.goto 4, 3) := by decide +kernel
theorem dX10_sell_29 : decode cX10_sell 29 = .ok (.iconst (-1), 1) := by decide +kernel
theorem dX10_sell_30 : decode cX10_sell 30 = .ok (.ireturn, 1) := by decide +kernel
set_option maxRecDepth 20000 in
theorem ggX10_back_X10_in : GoodIn wsX10_back wsX10_in := goodIn_r _ [13] (by decide +kernel) (by decide +kernel)
set_option maxRecDepth 20000 in
theorem gX10_back_X10_in : GoodIn wsX10_back (va_wsS RX10 146 yX10_in wsX10_in) := goodIn_app (goodIn_of _ (by decide +kernel)) ggX10_back_X10_in
set_option maxRecDepth 20000 in
theorem ggX10_back_X10_leaves : GoodIn wsX10_back wsX10_leaves := goodIn_r _ [17, 18, 19, 20, 12, 21, 22, 27, 28, 29, 30, 31, 32, 33, 34, 35, 36, 37, 38, 39, 40, 41, 42, 43, 44, 45, 46, 47, 48, 49, 50, 51, 52, 53, 54, 55, 56, 57, 58, 59, 60, 61, 62, 63, 64, 65, 66, 67, 68, 69, 70, 71, 72, 73, 74, 75, 76, 77, 78, 79] (by decide +kernel) (by decide +kernel)
set_option maxRecDepth 20000 in
theorem gX10_back_X10_leaves : GoodIn wsX10_back (wsV RX10 173 RX10 yX10_leaves wsX10_leaves) := goodIn_app (goodIn_of _ (by decide +kernel)) ggX10_back_X10_leaves
theorem dX10_back_0 : decode cX10_back 0 = .ok (.aload_n 0, 1) := by decide +kernel
theorem dX10_back_1 : decode cX10_back 1 = .ok (.iconst 0, 1) := by decide +kernel
theorem dX10_back_2 : decode cX10_back 2 = .ok (.putfield 139, 3) := by decide +kernel
theorem dX10_back_5 : decode cX10_back 5 = .ok (.iload_n 1, 1) := by decide +kernel
theorem dX10_back_6 : decode cX10_back 6 = .ok (.iconst 0, 1) := by decide +kernel
theorem dX10_back_7 : decode cX10_back 7 = .ok (.aload_n 0, 1) := by decide +kernel
theorem dX10_back_8 : decode cX10_back 8 = .ok (.getfield 38, 3) := by decide +kernel
theorem dX10_back_11 : decode cX10_back 11 = .ok (.iconst 0, 1) := by decide +kernel
theorem dX10_back_12 : decode cX10_back 12 = .ok (.iaload, 1) := by decide +kernel
theorem dX10_back_13 : decode cX10_back 13 = .ok (.iconst 1, 1) := by decide +kernel
theorem dX10_back_14 : decode cX10_back 14 = .ok (.isub, 1) := by decide +kernel
theorem dX10_back_15 : decode cX10_back 15 = .ok (.invokestatic 146, 3) := by decide +kernel
theorem dX10_back_18 : decode cX10_back 18 = .ok (.ifCond .eq 38, 3) := by decide +kernel
theorem dX10_back_21 : decode cX10_back 21 = .ok (.aload_n 0, 1) := by decide +kernel
theorem dX10_back_22 : decode cX10_back 22 = .ok (.getfield 56, 3) := by decide +kernel
theorem dX10_back_25 : decode cX10_back 25 = .ok (.iload_n 1, 1) := by decide +kernel
theorem dX10_back_26 : decode cX10_back 26 = .ok (.iaload, 1) := by decide +kernel
theorem dX10_back_27 : decode cX10_back 27 = .ok (.iconst 1, 1) := by decide +kernel
theorem dX10_back_28 : decode cX10_back 28 = .ok (.if_icmp .eq 28, 3) := by decide +kernel
theorem dX10_back_31 : decode cX10_back 31 = .ok (.aload_n 0, 1) := by decide +kernel
theorem dX10_back_32 : decode cX10_back 32 = .ok (.getfield 83, 3) := by decide +kernel
theorem dX10_back_35 : decode cX10_back 35 = .ok (.iconst 0, 1) := by decide +kernel
theorem dX10_back_36 : decode cX10_back 36 = .ok (.iaload, 1) := by decide +kernel
theorem dX10_back_37 : decode cX10_back 37 = .ok (.aload_n 0, 1) := by decide +kernel
theorem dX10_back_38 : decode cX10_back 38 = .ok (.aload_n 0, 1) := by decide +kernel
theorem dX10_back_39 : decode cX10_back 39 = .ok (.getfield 41, 3) := by decide +kernel
theorem dX10_back_42 : decode cX10_back 42 = .ok (.iload_n 1, 1) := by decide +kernel
theorem dX10_back_43 : decode cX10_back 43 = .ok (.iaload, 1) := by decide +kernel
theorem dX10_back_44 : decode cX10_back 44 = .ok (.aload_n 0, 1) := by decide +kernel
theorem dX10_back_45 : decode cX10_back 45 = .ok (.getfield 47, 3) := by decide +kernel
theorem dX10_back_48 : decode cX10_back 48 = .ok (.iload_n 1, 1) := by decide +kernel
theorem dX10_back_49 : decode cX10_back 49 = .ok (.iaload, 1) := by decide +kernel
theorem dX10_back_50 : decode cX10_back 50 = .ok (.invokevirtual 173, 3) := by decide +kernel
theorem dX10_back_53 : decode cX10_back 53 = .ok (.if_icmp .lt 5, 3) := by decide +kernel
theorem dX10_back_56 : decode cX10_back 56 = .ok (.iconst 0, 1) := by decide +kernel
theorem dX10_back_57 : decode cX10_back 57 = .ok (.ireturn, 1) := by decide +kernel
theorem dX10_back_58 : decode cX10_back 58 = .ok (.aload_n 0, 1) := by decide +kernel
theorem dX10_back_59 : decode cX10_back 59 = .ok (.getfield 56, 3) := by decide +kernel
theorem dX10_back_62 : decode cX10_back 62 = .ok (.iload_n 1, 1) := by decide +kernel
theorem dX10_back_63 : decode cX10_back 63 = .ok (.iconst 1, 1) := by decide +kernel
theorem dX10_back_64 : decode cX10_back 64 = .ok (.iastore, 1) := by decide +kernel
theorem dX10_back_65 : decode cX10_back 65 = .ok (.aload_n 0, 1) := by decide +kernel
theorem dX10_back_66 : decode cX10_back 66 = .ok (.getfield 47, 3) := by decide +kernel
theorem dX10_back_69 : decode cX10_back 69 = .ok (.iload_n 1, 1) := by decide +kernel
theorem dX10_back_70 : decode cX10_back 70 = .ok (.iaload, 1) := by decide +kernel
theorem dX10_back_71 : decode cX10_back 71 = .ok (.istore_n 2, 1) := by decide +kernel
theorem dX10_back_72 : decode cX10_back 72 = .ok (.iload_n 2, 1) := by decide +kernel
theorem dX10_back_73 : decode cX10_back 73 = .ok (.aload_n 0, 1) := by decide +kernel
theorem dX10_back_74 : decode cX10_back 74 = .ok (.getfield 50, 3) := by decide +kernel
theorem dX10_back_77 : decode cX10_back 77 = .ok (.iload_n 1, 1) := by decide +kernel
theorem dX10_back_78 : decode cX10_back 78 = .ok (.iaload, 1) := by decide +kernel
theorem dX10_back_79 : decode cX10_back 79 = .ok (.if_icmp .ge 32, 3) := by decide +kernel
theorem dX10_back_82 : decode cX10_back 82 = .ok (.aload_n 0, 1) := by decide +kernel
theorem dX10_back_83 : decode cX10_back 83 = .ok (.getfield 35, 3) := by decide +kernel
theorem dX10_back_86 : decode cX10_back 86 = .ok (.aload_n 0, 1) := by decide +kernel
theorem dX10_back_87 : decode cX10_back 87 = .ok (.aload_n 0, 1) := by decide +kernel
theorem dX10_back_88 : decode cX10_back 88 = .ok (.getfield 41, 3) := by decide +kernel
theorem dX10_back_91 : decode cX10_back 91 = .ok (.iload_n 1, 1) := by decide +kernel
theorem dX10_back_92 : decode cX10_back 92 = .ok (.iaload, 1) := by decide +kernel
theorem dX10_back_93 : decode cX10_back 93 = .ok (.aload_n 0, 1) := by decide +kernel
theorem dX10_back_94 : decode cX10_back 94 = .ok (.getfield 44, 3) := by decide +kernel
theorem dX10_back_97 : decode cX10_back 97 = .ok (.iload_n 1, 1) := by decide +kernel
theorem dX10_back_98 : decode cX10_back 98 = .ok (.iaload, 1) := by decide +kernel
theorem dX10_back_99 : decode cX10_back 99 = .ok (.iload_n 2, 1) := by decide +kernel
theorem dX10_back_100 : decode cX10_back 100 = .ok (.invokevirtual 162, 3) := by decide +kernel
theorem dX10_back_103 : decode cX10_back 103 = .ok (.iconst (-1), 1) := by decide +kernel
theorem dX10_back_104 : decode cX10_back 104 = .ok (.iastore, 1) := by decide +kernel
theorem dX10_back_105 : decode cX10_back 105 = .ok (.iinc 2 1, 3) := by decide +kernel
theorem dX10_back_108 : decode cX10_back 108 = .ok (.goto (-36), 3) := by decide +kernel
theorem dX10_back_111 : decode cX10_back 111 = .ok (.iconst 1, 1) := by decide +kernel
theorem dX10_back_112 : decode cX10_back 112 = .ok (.ireturn, 1) := by decide +kernel
set_option maxRecDepth 20000 in
theorem ggX10_letter_X10_isOffice : GoodIn wsX10_letter wsX10_isOffice := goodIn_r _ [15, 16, 17, 14, 18] (by decide +kernel) (by decide +kernel)
set_option maxRecDepth 20000 in
theorem gX10_letter_X10_isOffice : GoodIn wsX10_letter (wsV RX10 158 RX10 yX10_isOffice wsX10_isOffice) := goodIn_app (goodIn_of _ (by decide +kernel)) ggX10_letter_X10_isOffice
set_option maxRecDepth 20000 in
theorem ggX10_letter_X10_canAsk : GoodIn wsX10_letter wsX10_canAsk := goodIn_r _ [22, 23, 11, 12, 13, 14, 15, 16, 17, 18, 24, 25, 26, 27, 28, 29, 30, 31, 32, 33, 44, 45, 46, 47, 48, 49, 50, 51, 52, 53, 54, 55, 56, 57, 58, 59, 60, 61, 62, 63, 64, 65, 66, 67, 68, 69, 70, 71, 72, 73, 74, 75, 76, 77, 78, 79, 80, 81, 82, 83, 84, 85, 86, 87, 88, 89, 90, 91, 92, 93, 94, 95, 96] (by decide +kernel) (by decide +kernel)
set_option maxRecDepth 20000 in
theorem gX10_letter_X10_canAsk : GoodIn wsX10_letter (wsV RX10 185 RX10 yX10_canAsk wsX10_canAsk) := goodIn_app (goodIn_of _ (by decide +kernel)) ggX10_letter_X10_canAsk
theorem dX10_letter_0 : decode cX10_letter 0 = .ok (.aload_n 0, 1) := by decide +kernel
theorem dX10_letter_1 : decode cX10_letter 1 = .ok (.iconst 0, 1) := by decide +kernel
theorem dX10_letter_2 : decode cX10_letter 2 = .ok (.putfield 139, 3) := by decide +kernel
theorem dX10_letter_5 : decode cX10_letter 5 = .ok (.aload_n 0, 1) := by decide +kernel
theorem dX10_letter_6 : decode cX10_letter 6 = .ok (.iload_n 1, 1) := by decide +kernel
theorem dX10_letter_7 : decode cX10_letter 7 = .ok (.invokevirtual 158, 3) := by decide +kernel
theorem dX10_letter_10 : decode cX10_letter 10 = .ok (.ifCond .eq 32, 3) := by decide +kernel
theorem dX10_letter_13 : decode cX10_letter 13 = .ok (.iload_n 1, 1) := by decide +kernel
theorem dX10_letter_14 : decode cX10_letter 14 = .ok (.iload_n 2, 1) := by decide +kernel
theorem dX10_letter_15 : decode cX10_letter 15 = .ok (.if_icmp .eq 27, 3) := by decide +kernel
theorem dX10_letter_18 : decode cX10_letter 18 = .ok (.aload_n 0, 1) := by decide +kernel
theorem dX10_letter_19 : decode cX10_letter 19 = .ok (.iload_n 2, 1) := by decide +kernel
theorem dX10_letter_20 : decode cX10_letter 20 = .ok (.iload_n 3, 1) := by decide +kernel
theorem dX10_letter_21 : decode cX10_letter 21 = .ok (.iload 4, 2) := by decide +kernel
theorem dX10_letter_23 : decode cX10_letter 23 = .ok (.iload 5, 2) := by decide +kernel
theorem dX10_letter_25 : decode cX10_letter 25 = .ok (.invokevirtual 185, 3) := by decide +kernel
theorem dX10_letter_28 : decode cX10_letter 28 = .ok (.ifCond .eq 14, 3) := by decide +kernel
theorem dX10_letter_31 : decode cX10_letter 31 = .ok (.aload_n 0, 1) := by decide +kernel
theorem dX10_letter_32 : decode cX10_letter 32 = .ok (.getfield 59, 3) := by decide +kernel
theorem dX10_letter_35 : decode cX10_letter 35 = .ok (.iconst 0, 1) := by decide +kernel
theorem dX10_letter_36 : decode cX10_letter 36 = .ok (.iaload, 1) := by decide +kernel
theorem dX10_letter_37 : decode cX10_letter 37 = .ok (.bipush 100, 2) := by decide +kernel
theorem dX10_letter_39 : decode cX10_letter 39 = .ok (.if_icmp .ne 5, 3) := by decide +kernel
theorem dX10_letter_42 : decode cX10_letter 42 = .ok (.iconst (-1), 1) := by decide +kernel
theorem dX10_letter_43 : decode cX10_letter 43 = .ok (.ireturn, 1) := by decide +kernel
theorem dX10_letter_44 : decode cX10_letter 44 = .ok (.aload_n 0, 1) := by decide +kernel
theorem dX10_letter_45 : decode cX10_letter 45 = .ok (.getfield 59, 3) := by decide +kernel
theorem dX10_letter_48 : decode cX10_letter 48 = .ok (.iconst 0, 1) := by decide +kernel
theorem dX10_letter_49 : decode cX10_letter 49 = .ok (.iaload, 1) := by decide +kernel
theorem dX10_letter_50 : decode cX10_letter 50 = .ok (.istore 6, 2) := by decide +kernel
theorem dX10_letter_52 : decode cX10_letter 52 = .ok (.aload_n 0, 1) := by decide +kernel
theorem dX10_letter_53 : decode cX10_letter 53 = .ok (.getfield 59, 3) := by decide +kernel
theorem dX10_letter_56 : decode cX10_letter 56 = .ok (.iconst 0, 1) := by decide +kernel
theorem dX10_letter_57 : decode cX10_letter 57 = .ok (.dup2, 1) := by decide +kernel
theorem dX10_letter_58 : decode cX10_letter 58 = .ok (.iaload, 1) := by decide +kernel
theorem dX10_letter_59 : decode cX10_letter 59 = .ok (.iconst 1, 1) := by decide +kernel
theorem dX10_letter_60 : decode cX10_letter 60 = .ok (.iadd, 1) := by decide +kernel
theorem dX10_letter_61 : decode cX10_letter 61 = .ok (.iastore, 1) := by decide +kernel
theorem dX10_letter_62 : decode cX10_letter 62 = .ok (.aload_n 0, 1) := by decide +kernel
theorem dX10_letter_63 : decode cX10_letter 63 = .ok (.getfield 62, 3) := by decide +kernel
theorem dX10_letter_66 : decode cX10_letter 66 = .ok (.iload 6, 2) := by decide +kernel
theorem dX10_letter_68 : decode cX10_letter 68 = .ok (.aload_n 0, 1) := by decide +kernel
theorem dX10_letter_69 : decode cX10_letter 69 = .ok (.getfield 83, 3) := by decide +kernel
theorem dX10_letter_72 : decode cX10_letter 72 = .ok (.iconst 0, 1) := by decide +kernel
theorem dX10_letter_73 : decode cX10_letter 73 = .ok (.iaload, 1) := by decide +kernel
end
section
theorem dX10_letter_74 : decode cX10_letter 74 = .ok (.iconst 1, 1) := by decide +kernel
theorem dX10_letter_75 : decode cX10_letter 75 = .ok (.iadd, 1) := by decide +kernel
theorem dX10_letter_76 : decode cX10_letter 76 = .ok (.aload_n 0, 1) := by decide +kernel
theorem dX10_letter_77 : decode cX10_letter 77 = .ok (.iload_n 1, 1) := by decide +kernel
theorem dX10_letter_78 : decode cX10_letter 78 = .ok (.iload_n 2, 1) := by decide +kernel
theorem dX10_letter_79 : decode cX10_letter 79 = .ok (.invokevirtual 191, 3) := by decide +kernel
theorem dX10_letter_82 : decode cX10_letter 82 = .ok (.iadd, 1) := by decide +kernel
theorem dX10_letter_83 : decode cX10_letter 83 = .ok (.iastore, 1) := by decide +kernel
theorem dX10_letter_84 : decode cX10_letter 84 = .ok (.aload_n 0, 1) := by decide +kernel
theorem dX10_letter_85 : decode cX10_letter 85 = .ok (.getfield 65, 3) := by decide +kernel
theorem dX10_letter_88 : decode cX10_letter 88 = .ok (.iload 6, 2) := by decide +kernel
theorem dX10_letter_90 : decode cX10_letter 90 = .ok (.aload_n 0, 1) := by decide +kernel
theorem dX10_letter_91 : decode cX10_letter 91 = .ok (.getfield 62, 3) := by decide +kernel
theorem dX10_letter_94 : decode cX10_letter 94 = .ok (.iload 6, 2) := by decide +kernel
theorem dX10_letter_96 : decode cX10_letter 96 = .ok (.iaload, 1) := by decide +kernel
theorem dX10_letter_97 : decode cX10_letter 97 = .ok (.iconst 1, 1) := by decide +kernel
theorem dX10_letter_98 : decode cX10_letter 98 = .ok (.iadd, 1) := by decide +kernel
theorem dX10_letter_99 : decode cX10_letter 99 = .ok (.aload_n 0, 1) := by decide +kernel
theorem dX10_letter_100 : decode cX10_letter 100 = .ok (.iload_n 1, 1) := by decide +kernel
theorem dX10_letter_101 : decode cX10_letter 101 = .ok (.iload_n 2, 1) := by decide +kernel
theorem dX10_letter_102 : decode cX10_letter 102 = .ok (.invokevirtual 191, 3) := by decide +kernel
theorem dX10_letter_105 : decode cX10_letter 105 = .ok (.iadd, 1) := by decide +kernel
theorem dX10_letter_106 : decode cX10_letter 106 = .ok (.iastore, 1) := by decide +kernel
theorem dX10_letter_107 : decode cX10_letter 107 = .ok (.aload_n 0, 1) := by decide +kernel
theorem dX10_letter_108 : decode cX10_letter 108 = .ok (.getfield 68, 3) := by decide +kernel
theorem dX10_letter_111 : decode cX10_letter 111 = .ok (.iload 6, 2) := by decide +kernel
theorem dX10_letter_113 : decode cX10_letter 113 = .ok (.iload_n 2, 1) := by decide +kernel
theorem dX10_letter_114 : decode cX10_letter 114 = .ok (.iastore, 1) := by decide +kernel
theorem dX10_letter_115 : decode cX10_letter 115 = .ok (.aload_n 0, 1) := by decide +kernel
theorem dX10_letter_116 : decode cX10_letter 116 = .ok (.getfield 71, 3) := by decide +kernel
theorem dX10_letter_119 : decode cX10_letter 119 = .ok (.iload 6, 2) := by decide +kernel
theorem dX10_letter_121 : decode cX10_letter 121 = .ok (.iload_n 3, 1) := by decide +kernel
theorem dX10_letter_122 : decode cX10_letter 122 = .ok (.iastore, 1) := by decide +kernel
theorem dX10_letter_123 : decode cX10_letter 123 = .ok (.aload_n 0, 1) := by decide +kernel
theorem dX10_letter_124 : decode cX10_letter 124 = .ok (.getfield 74, 3) := by decide +kernel
theorem dX10_letter_127 : decode cX10_letter 127 = .ok (.iload 6, 2) := by decide +kernel
theorem dX10_letter_129 : decode cX10_letter 129 = .ok (.iload 4, 2) := by decide +kernel
theorem dX10_letter_131 : decode cX10_letter 131 = .ok (.iastore, 1) := by decide +kernel
theorem dX10_letter_132 : decode cX10_letter 132 = .ok (.aload_n 0, 1) := by decide +kernel
theorem dX10_letter_133 : decode cX10_letter 133 = .ok (.getfield 77, 3) := by decide +kernel
theorem dX10_letter_136 : decode cX10_letter 136 = .ok (.iload 6, 2) := by decide +kernel
theorem dX10_letter_138 : decode cX10_letter 138 = .ok (.iload 5, 2) := by decide +kernel
theorem dX10_letter_140 : decode cX10_letter 140 = .ok (.iastore, 1) := by decide +kernel
theorem dX10_letter_141 : decode cX10_letter 141 = .ok (.aload_n 0, 1) := by decide +kernel
theorem dX10_letter_142 : decode cX10_letter 142 = .ok (.getfield 80, 3) := by decide +kernel
theorem dX10_letter_145 : decode cX10_letter 145 = .ok (.iload 6, 2) := by decide +kernel
theorem dX10_letter_147 : decode cX10_letter 147 = .ok (.iconst (-1), 1) := by decide +kernel
theorem dX10_letter_148 : decode cX10_letter 148 = .ok (.iastore, 1) := by decide +kernel
theorem dX10_letter_149 : decode cX10_letter 149 = .ok (.iload 6, 2) := by decide +kernel
theorem dX10_letter_151 : decode cX10_letter 151 = .ok (.ireturn, 1) := by decide +kernel
set_option maxRecDepth 20000 in
theorem ggX10_post_X10_in : GoodIn wsX10_post wsX10_in := goodIn_r _ [10] (by decide +kernel) (by decide +kernel)
set_option maxRecDepth 20000 in
theorem gX10_post_X10_in : GoodIn wsX10_post (va_wsS RX10 146 yX10_in wsX10_in) := goodIn_app (goodIn_of _ (by decide +kernel)) ggX10_post_X10_in
theorem dX10_post_0 : decode cX10_post 0 = .ok (.aload_n 0, 1) := by decide +kernel
theorem dX10_post_1 : decode cX10_post 1 = .ok (.iconst 0, 1) := by decide +kernel
theorem dX10_post_2 : decode cX10_post 2 = .ok (.putfield 139, 3) := by decide +kernel
theorem dX10_post_5 : decode cX10_post 5 = .ok (.iload_n 1, 1) := by decide +kernel
theorem dX10_post_6 : decode cX10_post 6 = .ok (.iconst 0, 1) := by decide +kernel
theorem dX10_post_7 : decode cX10_post 7 = .ok (.aload_n 0, 1) := by decide +kernel
theorem dX10_post_8 : decode cX10_post 8 = .ok (.getfield 59, 3) := by decide +kernel
theorem dX10_post_11 : decode cX10_post 11 = .ok (.iconst 0, 1) := by decide +kernel
theorem dX10_post_12 : decode cX10_post 12 = .ok (.iaload, 1) := by decide +kernel
theorem dX10_post_13 : decode cX10_post 13 = .ok (.iconst 1, 1) := by decide +kernel
theorem dX10_post_14 : decode cX10_post 14 = .ok (.isub, 1) := by decide +kernel
theorem dX10_post_15 : decode cX10_post 15 = .ok (.invokestatic 146, 3) := by decide +kernel
theorem dX10_post_18 : decode cX10_post 18 = .ok (.ifCond .ne 5, 3) := by decide +kernel
theorem dX10_post_21 : decode cX10_post 21 = .ok (.iconst (-1), 1) := by decide +kernel
theorem dX10_post_22 : decode cX10_post 22 = .ok (.ireturn, 1) := by decide +kernel
theorem dX10_post_23 : decode cX10_post 23 = .ok (.iload_n 2, 1) := by decide +kernel
theorem dX10_post_24 : decode cX10_post 24 = .ok (.tableswitch 113 0 3 #[32, 39, 46, 86], 32) := by decide +kernel
theorem dX10_post_56 : decode cX10_post 56 = .ok (.aload_n 0, 1) := by decide +kernel
theorem dX10_post_57 : decode cX10_post 57 = .ok (.getfield 62, 3) := by decide +kernel
theorem dX10_post_60 : decode cX10_post 60 = .ok (.iload_n 1, 1) := by decide +kernel
theorem dX10_post_61 : decode cX10_post 61 = .ok (.iaload, 1) := by decide +kernel
theorem dX10_post_62 : decode cX10_post 62 = .ok (.ireturn, 1) := by decide +kernel
theorem dX10_post_63 : decode cX10_post 63 = .ok (.aload_n 0, 1) := by decide +kernel
theorem dX10_post_64 : decode cX10_post 64 = .ok (.getfield 65, 3) := by decide +kernel
theorem dX10_post_67 : decode cX10_post 67 = .ok (.iload_n 1, 1) := by decide +kernel
theorem dX10_post_68 : decode cX10_post 68 = .ok (.iaload, 1) := by decide +kernel
theorem dX10_post_69 : decode cX10_post 69 = .ok (.ireturn, 1) := by decide +kernel
theorem dX10_post_70 : decode cX10_post 70 = .ok (.aload_n 0, 1) := by decide +kernel
theorem dX10_post_71 : decode cX10_post 71 = .ok (.getfield 83, 3) := by decide +kernel
theorem dX10_post_74 : decode cX10_post 74 = .ok (.iconst 0, 1) := by decide +kernel
theorem dX10_post_75 : decode cX10_post 75 = .ok (.iaload, 1) := by decide +kernel
theorem dX10_post_76 : decode cX10_post 76 = .ok (.aload_n 0, 1) := by decide +kernel
theorem dX10_post_77 : decode cX10_post 77 = .ok (.getfield 65, 3) := by decide +kernel
theorem dX10_post_80 : decode cX10_post 80 = .ok (.iload_n 1, 1) := by decide +kernel
theorem dX10_post_81 : decode cX10_post 81 = .ok (.iaload, 1) := by decide +kernel
theorem dX10_post_82 : decode cX10_post 82 = .ok (.if_icmp .lt 7, 3) := by decide +kernel
theorem dX10_post_85 : decode cX10_post 85 = .ok (.iconst 2, 1) := by decide +kernel
theorem dX10_post_86 : decode cX10_post 86 = .ok (.goto 23, 3) := by decide +kernel
theorem dX10_post_89 : decode cX10_post 89 = .ok (.aload_n 0, 1) := by decide +kernel
theorem dX10_post_90 : decode cX10_post 90 = .ok (.getfield 83, 3) := by decide +kernel
theorem dX10_post_93 : decode cX10_post 93 = .ok (.iconst 0, 1) := by decide +kernel
theorem dX10_post_94 : decode cX10_post 94 = .ok (.iaload, 1) := by decide +kernel
theorem dX10_post_95 : decode cX10_post 95 = .ok (.aload_n 0, 1) := by decide +kernel
theorem dX10_post_96 : decode cX10_post 96 = .ok (.getfield 62, 3) := by decide +kernel
theorem dX10_post_99 : decode cX10_post 99 = .ok (.iload_n 1, 1) := by decide +kernel
theorem dX10_post_100 : decode cX10_post 100 = .ok (.iaload, 1) := by decide +kernel
theorem dX10_post_101 : decode cX10_post 101 = .ok (.if_icmp .lt 7, 3) := by decide +kernel
theorem dX10_post_104 : decode cX10_post 104 = .ok (.iconst 1, 1) := by decide +kernel
theorem dX10_post_105 : decode cX10_post 105 = .ok (.goto 4, 3) := by decide +kernel
theorem dX10_post_108 : decode cX10_post 108 = .ok (.iconst 0, 1) := by decide +kernel
theorem dX10_post_109 : decode cX10_post 109 = .ok (.ireturn, 1) := by decide +kernel
theorem dX10_post_110 : decode cX10_post 110 = .ok (.aload_n 0, 1) := by decide +kernel
theorem dX10_post_111 : decode cX10_post 111 = .ok (.getfield 83, 3) := by decide +kernel
theorem dX10_post_114 : decode cX10_post 114 = .ok (.iconst 0, 1) := by decide +kernel
theorem dX10_post_115 : decode cX10_post 115 = .ok (.iaload, 1) := by decide +kernel
theorem dX10_post_116 : decode cX10_post 116 = .ok (.aload_n 0, 1) := by decide +kernel
theorem dX10_post_117 : decode cX10_post 117 = .ok (.getfield 65, 3) := by decide +kernel
theorem dX10_post_120 : decode cX10_post 120 = .ok (.iload_n 1, 1) := by decide +kernel
theorem dX10_post_121 : decode cX10_post 121 = .ok (.iaload, 1) := by decide +kernel
theorem dX10_post_122 : decode cX10_post 122 = .ok (.if_icmp .lt 12, 3) := by decide +kernel
theorem dX10_post_125 : decode cX10_post 125 = .ok (.aload_n 0, 1) := by decide +kernel
theorem dX10_post_126 : decode cX10_post 126 = .ok (.getfield 80, 3) := by decide +kernel
theorem dX10_post_129 : decode cX10_post 129 = .ok (.iload_n 1, 1) := by decide +kernel
theorem dX10_post_130 : decode cX10_post 130 = .ok (.iaload, 1) := by decide +kernel
theorem dX10_post_131 : decode cX10_post 131 = .ok (.goto 5, 3) := by decide +kernel
theorem dX10_post_134 : decode cX10_post 134 = .ok (.bipush (-2), 2) := by decide +kernel
theorem dX10_post_136 : decode cX10_post 136 = .ok (.ireturn, 1) := by decide +kernel
theorem dX10_post_137 : decode cX10_post 137 = .ok (.iconst (-1), 1) := by decide +kernel
theorem dX10_post_138 : decode cX10_post 138 = .ok (.ireturn, 1) := by decide +kernel
set_option maxRecDepth 20000 in
theorem ggX10_hours_X10_in : GoodIn wsX10_hours wsX10_in := goodIn_r _ [13] (by decide +kernel) (by decide +kernel)
set_option maxRecDepth 20000 in
theorem gX10_hours_X10_in : GoodIn wsX10_hours (va_wsS RX10 146 yX10_in wsX10_in) := goodIn_app (goodIn_of _ (by decide +kernel)) ggX10_hours_X10_in
theorem dX10_hours_0 : decode cX10_hours 0 = .ok (.aload_n 0, 1) := by decide +kernel
theorem dX10_hours_1 : decode cX10_hours 1 = .ok (.iconst 0, 1) := by decide +kernel
theorem dX10_hours_2 : decode cX10_hours 2 = .ok (.putfield 139, 3) := by decide +kernel
theorem dX10_hours_5 : decode cX10_hours 5 = .ok (.iload_n 1, 1) := by decide +kernel
theorem dX10_hours_6 : decode cX10_hours 6 = .ok (.iconst 1, 1) := by decide +kernel
theorem dX10_hours_7 : decode cX10_hours 7 = .ok (.bipush 100, 2) := by decide +kernel
theorem dX10_hours_9 : decode cX10_hours 9 = .ok (.invokestatic 146, 3) := by decide +kernel
theorem dX10_hours_12 : decode cX10_hours 12 = .ok (.ifCond .eq 17, 3) := by decide +kernel
theorem dX10_hours_15 : decode cX10_hours 15 = .ok (.aload_n 0, 1) := by decide +kernel
theorem dX10_hours_16 : decode cX10_hours 16 = .ok (.getfield 83, 3) := by decide +kernel
theorem dX10_hours_19 : decode cX10_hours 19 = .ok (.iconst 0, 1) := by decide +kernel
theorem dX10_hours_20 : decode cX10_hours 20 = .ok (.iaload, 1) := by decide +kernel
theorem dX10_hours_21 : decode cX10_hours 21 = .ok (.iload_n 1, 1) := by decide +kernel
theorem dX10_hours_22 : decode cX10_hours 22 = .ok (.iadd, 1) := by decide +kernel
theorem dX10_hours_23 : decode cX10_hours 23 = .ok (.sipush 2000, 3) := by decide +kernel
theorem dX10_hours_26 : decode cX10_hours 26 = .ok (.if_icmp .le 5, 3) := by decide +kernel
theorem dX10_hours_29 : decode cX10_hours 29 = .ok (.iconst (-1), 1) := by decide +kernel
theorem dX10_hours_30 : decode cX10_hours 30 = .ok (.ireturn, 1) := by decide +kernel
theorem dX10_hours_31 : decode cX10_hours 31 = .ok (.iconst 0, 1) := by decide +kernel
theorem dX10_hours_32 : decode cX10_hours 32 = .ok (.istore_n 2, 1) := by decide +kernel
theorem dX10_hours_33 : decode cX10_hours 33 = .ok (.iload_n 2, 1) := by decide +kernel
theorem dX10_hours_34 : decode cX10_hours 34 = .ok (.iload_n 1, 1) := by decide +kernel
theorem dX10_hours_35 : decode cX10_hours 35 = .ok (.if_icmp .ge 86, 3) := by decide +kernel
theorem dX10_hours_38 : decode cX10_hours 38 = .ok (.aload_n 0, 1) := by decide +kernel
theorem dX10_hours_39 : decode cX10_hours 39 = .ok (.getfield 83, 3) := by decide +kernel
theorem dX10_hours_42 : decode cX10_hours 42 = .ok (.iconst 0, 1) := by decide +kernel
theorem dX10_hours_43 : decode cX10_hours 43 = .ok (.dup2, 1) := by decide +kernel
theorem dX10_hours_44 : decode cX10_hours 44 = .ok (.iaload, 1) := by decide +kernel
theorem dX10_hours_45 : decode cX10_hours 45 = .ok (.iconst 1, 1) := by decide +kernel
theorem dX10_hours_46 : decode cX10_hours 46 = .ok (.iadd, 1) := by decide +kernel
theorem dX10_hours_47 : decode cX10_hours 47 = .ok (.iastore, 1) := by decide +kernel
theorem dX10_hours_48 : decode cX10_hours 48 = .ok (.iconst 0, 1) := by decide +kernel
theorem dX10_hours_49 : decode cX10_hours 49 = .ok (.istore_n 3, 1) := by decide +kernel
theorem dX10_hours_50 : decode cX10_hours 50 = .ok (.iload_n 3, 1) := by decide +kernel
theorem dX10_hours_51 : decode cX10_hours 51 = .ok (.aload_n 0, 1) := by decide +kernel
theorem dX10_hours_52 : decode cX10_hours 52 = .ok (.getfield 59, 3) := by decide +kernel
theorem dX10_hours_55 : decode cX10_hours 55 = .ok (.iconst 0, 1) := by decide +kernel
theorem dX10_hours_56 : decode cX10_hours 56 = .ok (.iaload, 1) := by decide +kernel
theorem dX10_hours_57 : decode cX10_hours 57 = .ok (.if_icmp .ge 58, 3) := by decide +kernel
theorem dX10_hours_60 : decode cX10_hours 60 = .ok (.aload_n 0, 1) := by decide +kernel
theorem dX10_hours_61 : decode cX10_hours 61 = .ok (.getfield 62, 3) := by decide +kernel
theorem dX10_hours_64 : decode cX10_hours 64 = .ok (.iload_n 3, 1) := by decide +kernel
theorem dX10_hours_65 : decode cX10_hours 65 = .ok (.iaload, 1) := by decide +kernel
theorem dX10_hours_66 : decode cX10_hours 66 = .ok (.aload_n 0, 1) := by decide +kernel
theorem dX10_hours_67 : decode cX10_hours 67 = .ok (.getfield 83, 3) := by decide +kernel
theorem dX10_hours_70 : decode cX10_hours 70 = .ok (.iconst 0, 1) := by decide +kernel
theorem dX10_hours_71 : decode cX10_hours 71 = .ok (.iaload, 1) := by decide +kernel
theorem dX10_hours_72 : decode cX10_hours 72 = .ok (.if_icmp .ne 37, 3) := by decide +kernel
theorem dX10_hours_75 : decode cX10_hours 75 = .ok (.aload_n 0, 1) := by decide +kernel
theorem dX10_hours_76 : decode cX10_hours 76 = .ok (.getfield 80, 3) := by decide +kernel
theorem dX10_hours_79 : decode cX10_hours 79 = .ok (.iload_n 3, 1) := by decide +kernel
theorem dX10_hours_80 : decode cX10_hours 80 = .ok (.aload_n 0, 1) := by decide +kernel
theorem dX10_hours_81 : decode cX10_hours 81 = .ok (.aload_n 0, 1) := by decide +kernel
theorem dX10_hours_82 : decode cX10_hours 82 = .ok (.getfield 68, 3) := by decide +kernel
theorem dX10_hours_85 : decode cX10_hours 85 = .ok (.iload_n 3, 1) := by decide +kernel
theorem dX10_hours_86 : decode cX10_hours 86 = .ok (.iaload, 1) := by decide +kernel
theorem dX10_hours_87 : decode cX10_hours 87 = .ok (.aload_n 0, 1) := by decide +kernel
theorem dX10_hours_88 : decode cX10_hours 88 = .ok (.getfield 71, 3) := by decide +kernel
theorem dX10_hours_91 : decode cX10_hours 91 = .ok (.iload_n 3, 1) := by decide +kernel
theorem dX10_hours_92 : decode cX10_hours 92 = .ok (.iaload, 1) := by decide +kernel
theorem dX10_hours_93 : decode cX10_hours 93 = .ok (.aload_n 0, 1) := by decide +kernel
theorem dX10_hours_94 : decode cX10_hours 94 = .ok (.getfield 74, 3) := by decide +kernel
theorem dX10_hours_97 : decode cX10_hours 97 = .ok (.iload_n 3, 1) := by decide +kernel
theorem dX10_hours_98 : decode cX10_hours 98 = .ok (.iaload, 1) := by decide +kernel
theorem dX10_hours_99 : decode cX10_hours 99 = .ok (.aload_n 0, 1) := by decide +kernel
theorem dX10_hours_100 : decode cX10_hours 100 = .ok (.getfield 77, 3) := by decide +kernel
theorem dX10_hours_103 : decode cX10_hours 103 = .ok (.iload_n 3, 1) := by decide +kernel
theorem dX10_hours_104 : decode cX10_hours 104 = .ok (.iaload, 1) := by decide +kernel
theorem dX10_hours_105 : decode cX10_hours 105 = .ok (.invokevirtual 188, 3) := by decide +kernel
theorem dX10_hours_108 : decode cX10_hours 108 = .ok (.iastore, 1) := by decide +kernel
theorem dX10_hours_109 : decode cX10_hours 109 = .ok (.iinc 3 1, 3) := by decide +kernel
theorem dX10_hours_112 : decode cX10_hours 112 = .ok (.goto (-62), 3) := by decide +kernel
theorem dX10_hours_115 : decode cX10_hours 115 = .ok (.iinc 2 1, 3) := by decide +kernel
theorem dX10_hours_118 : decode cX10_hours 118 = .ok (.goto (-85), 3) := by decide +kernel
theorem dX10_hours_121 : decode cX10_hours 121 = .ok (.aload_n 0, 1) := by decide +kernel
theorem dX10_hours_122 : decode cX10_hours 122 = .ok (.getfield 83, 3) := by decide +kernel
theorem dX10_hours_125 : decode cX10_hours 125 = .ok (.iconst 0, 1) := by decide +kernel
theorem dX10_hours_126 : decode cX10_hours 126 = .ok (.iaload, 1) := by decide +kernel
theorem dX10_hours_127 : decode cX10_hours 127 = .ok (.ireturn, 1) := by decide +kernel
theorem dX10_hasLeft_0 : decode cX10_hasLeft 0 = .ok (.aload_n 0, 1) := by decide +kernel
theorem dX10_hasLeft_1 : decode cX10_hasLeft 1 = .ok (.getfield 83, 3) := by decide +kernel
theorem dX10_hasLeft_4 : decode cX10_hasLeft 4 = .ok (.iconst 0, 1) := by decide +kernel
theorem dX10_hasLeft_5 : decode cX10_hasLeft 5 = .ok (.iaload, 1) := by decide +kernel
theorem dX10_hasLeft_6 : decode cX10_hasLeft 6 = .ok (.bipush 24, 2) := by decide +kernel
theorem dX10_hasLeft_8 : decode cX10_hasLeft 8 = .ok (.iload_n 1, 1) := by decide +kernel
theorem dX10_hasLeft_9 : decode cX10_hasLeft 9 = .ok (.imul, 1) := by decide +kernel
theorem dX10_hasLeft_10 : decode cX10_hasLeft 10 = .ok (.if_icmp .lt 7, 3) := by decide +kernel
theorem dX10_hasLeft_13 : decode cX10_hasLeft 13 = .ok (.iconst 1, 1) := by decide +kernel
theorem dX10_hasLeft_14 : decode cX10_hasLeft 14 = .ok (.goto 4, 3) := by decide +kernel
theorem dX10_hasLeft_17 : decode cX10_hasLeft 17 = .ok (.iconst 0, 1) := by decide +kernel
theorem dX10_hasLeft_18 : decode cX10_hasLeft 18 = .ok (.ireturn, 1) := by decide +kernel
set_option maxRecDepth 20000 in
theorem ggX10_moved_X10_isRun : GoodIn wsX10_moved wsX10_isRun := goodIn_r _ [14, 15, 16, 17, 13, 18, 42, 43, 44, 45, 46, 47, 48, 49, 50, 51, 52, 53, 54, 55, 56, 57, 58, 59, 60, 61, 62, 63, 64, 65, 66, 67, 68, 69, 70, 71, 72, 73, 74, 75, 76, 77, 78, 79, 80, 81, 82, 83, 84, 85, 86, 87, 88, 89, 90, 91, 92, 93, 94] (by decide +kernel) (by decide +kernel)
set_option maxRecDepth 20000 in
theorem gX10_moved_X10_isRun : GoodIn wsX10_moved (wsV RX10 166 RX10 yX10_isRun wsX10_isRun) := goodIn_app (goodIn_of _ (by decide +kernel)) ggX10_moved_X10_isRun
set_option maxRecDepth 20000 in
theorem ggX10_moved_X10_hasLeft : GoodIn wsX10_moved wsX10_hasLeft := goodIn_r _ [22, 23, 42, 43, 44, 45, 46, 47, 48, 49, 50, 51, 52, 53, 54, 55, 56, 57, 58, 59, 60, 61, 62, 63, 64, 65, 66, 67, 68, 69, 70, 71, 72, 73, 74, 75, 76, 77, 78, 79, 80, 81, 82, 83, 84, 85, 86, 87, 88, 89, 90, 91, 92, 93, 94] (by decide +kernel) (by decide +kernel)
set_option maxRecDepth 20000 in
theorem gX10_moved_X10_hasLeft : GoodIn wsX10_moved (wsV RX10 200 RX10 yX10_hasLeft wsX10_hasLeft) := goodIn_app (goodIn_of _ (by decide +kernel)) ggX10_moved_X10_hasLeft
theorem dX10_moved_0 : decode cX10_moved 0 = .ok (.aload_n 0, 1) := by decide +kernel
theorem dX10_moved_1 : decode cX10_moved 1 = .ok (.iconst 0, 1) := by decide +kernel
theorem dX10_moved_2 : decode cX10_moved 2 = .ok (.putfield 139, 3) := by decide +kernel
theorem dX10_moved_5 : decode cX10_moved 5 = .ok (.aload_n 0, 1) := by decide +kernel
theorem dX10_moved_6 : decode cX10_moved 6 = .ok (.iload_n 1, 1) := by decide +kernel
theorem dX10_moved_7 : decode cX10_moved 7 = .ok (.invokevirtual 166, 3) := by decide +kernel
theorem dX10_moved_10 : decode cX10_moved 10 = .ok (.ifCond .eq 11, 3) := by decide +kernel
theorem dX10_moved_13 : decode cX10_moved 13 = .ok (.aload_n 0, 1) := by decide +kernel
theorem dX10_moved_14 : decode cX10_moved 14 = .ok (.iload_n 1, 1) := by decide +kernel
theorem dX10_moved_15 : decode cX10_moved 15 = .ok (.invokevirtual 200, 3) := by decide +kernel
theorem dX10_moved_18 : decode cX10_moved 18 = .ok (.ifCond .eq 5, 3) := by decide +kernel
theorem dX10_moved_21 : decode cX10_moved 21 = .ok (.iconst (-1), 1) := by decide +kernel
theorem dX10_moved_22 : decode cX10_moved 22 = .ok (.ireturn, 1) := by decide +kernel
theorem dX10_moved_23 : decode cX10_moved 23 = .ok (.iconst 0, 1) := by decide +kernel
theorem dX10_moved_24 : decode cX10_moved 24 = .ok (.istore_n 2, 1) := by decide +kernel
theorem dX10_moved_25 : decode cX10_moved 25 = .ok (.iload_n 2, 1) := by decide +kernel
theorem dX10_moved_26 : decode cX10_moved 26 = .ok (.aload_n 0, 1) := by decide +kernel
theorem dX10_moved_27 : decode cX10_moved 27 = .ok (.getfield 38, 3) := by decide +kernel
theorem dX10_moved_30 : decode cX10_moved 30 = .ok (.iconst 0, 1) := by decide +kernel
theorem dX10_moved_31 : decode cX10_moved 31 = .ok (.iaload, 1) := by decide +kernel
theorem dX10_moved_32 : decode cX10_moved 32 = .ok (.if_icmp .ge 21, 3) := by decide +kernel
theorem dX10_moved_35 : decode cX10_moved 35 = .ok (.aload_n 0, 1) := by decide +kernel
theorem dX10_moved_36 : decode cX10_moved 36 = .ok (.getfield 110, 3) := by decide +kernel
theorem dX10_moved_39 : decode cX10_moved 39 = .ok (.iload_n 2, 1) := by decide +kernel
theorem dX10_moved_40 : decode cX10_moved 40 = .ok (.aload_n 0, 1) := by decide +kernel
theorem dX10_moved_41 : decode cX10_moved 41 = .ok (.getfield 44, 3) := by decide +kernel
theorem dX10_moved_44 : decode cX10_moved 44 = .ok (.iload_n 2, 1) := by decide +kernel
theorem dX10_moved_45 : decode cX10_moved 45 = .ok (.iaload, 1) := by decide +kernel
theorem dX10_moved_46 : decode cX10_moved 46 = .ok (.iastore, 1) := by decide +kernel
theorem dX10_moved_47 : decode cX10_moved 47 = .ok (.iinc 2 1, 3) := by decide +kernel
theorem dX10_moved_50 : decode cX10_moved 50 = .ok (.goto (-25), 3) := by decide +kernel
theorem dX10_moved_53 : decode cX10_moved 53 = .ok (.iconst 0, 1) := by decide +kernel
theorem dX10_moved_54 : decode cX10_moved 54 = .ok (.istore_n 2, 1) := by decide +kernel
theorem dX10_moved_55 : decode cX10_moved 55 = .ok (.iload_n 2, 1) := by decide +kernel
theorem dX10_moved_56 : decode cX10_moved 56 = .ok (.bipush 6, 2) := by decide +kernel
theorem dX10_moved_58 : decode cX10_moved 58 = .ok (.if_icmp .ge 18, 3) := by decide +kernel
theorem dX10_moved_61 : decode cX10_moved 61 = .ok (.aload_n 0, 1) := by decide +kernel
theorem dX10_moved_62 : decode cX10_moved 62 = .ok (.iload_n 2, 1) := by decide +kernel
theorem dX10_moved_63 : decode cX10_moved 63 = .ok (.iload_n 1, 1) := by decide +kernel
theorem dX10_moved_64 : decode cX10_moved 64 = .ok (.iconst (-1), 1) := by decide +kernel
theorem dX10_moved_65 : decode cX10_moved 65 = .ok (.iconst (-1), 1) := by decide +kernel
theorem dX10_moved_66 : decode cX10_moved 66 = .ok (.invokevirtual 203, 3) := by decide +kernel
theorem dX10_moved_69 : decode cX10_moved 69 = .ok (.istore_n 3, 1) := by decide +kernel
theorem dX10_moved_70 : decode cX10_moved 70 = .ok (.iinc 2 1, 3) := by decide +kernel
theorem dX10_moved_73 : decode cX10_moved 73 = .ok (.goto (-18), 3) := by decide +kernel
theorem dX10_moved_76 : decode cX10_moved 76 = .ok (.iconst 0, 1) := by decide +kernel
theorem dX10_moved_77 : decode cX10_moved 77 = .ok (.istore_n 2, 1) := by decide +kernel
theorem dX10_moved_78 : decode cX10_moved 78 = .ok (.aload_n 0, 1) := by decide +kernel
theorem dX10_moved_79 : decode cX10_moved 79 = .ok (.iload_n 1, 1) := by decide +kernel
theorem dX10_moved_80 : decode cX10_moved 80 = .ok (.iconst 0, 1) := by decide +kernel
theorem dX10_moved_81 : decode cX10_moved 81 = .ok (.iconst 0, 1) := by decide +kernel
theorem dX10_moved_82 : decode cX10_moved 82 = .ok (.invokevirtual 162, 3) := by decide +kernel
theorem dX10_moved_85 : decode cX10_moved 85 = .ok (.istore_n 3, 1) := by decide +kernel
theorem dX10_moved_86 : decode cX10_moved 86 = .ok (.iload_n 3, 1) := by decide +kernel
theorem dX10_moved_87 : decode cX10_moved 87 = .ok (.aload_n 0, 1) := by decide +kernel
theorem dX10_moved_88 : decode cX10_moved 88 = .ok (.iload_n 1, 1) := by decide +kernel
theorem dX10_moved_89 : decode cX10_moved 89 = .ok (.iconst 1, 1) := by decide +kernel
theorem dX10_moved_90 : decode cX10_moved 90 = .ok (.iadd, 1) := by decide +kernel
theorem dX10_moved_91 : decode cX10_moved 91 = .ok (.iconst 0, 1) := by decide +kernel
theorem dX10_moved_92 : decode cX10_moved 92 = .ok (.iconst 0, 1) := by decide +kernel
theorem dX10_moved_93 : decode cX10_moved 93 = .ok (.invokevirtual 162, 3) := by decide +kernel
theorem dX10_moved_96 : decode cX10_moved 96 = .ok (.if_icmp .ge 16, 3) := by decide +kernel
theorem dX10_moved_99 : decode cX10_moved 99 = .ok (.aload_n 0, 1) := by decide +kernel
theorem dX10_moved_100 : decode cX10_moved 100 = .ok (.getfield 35, 3) := by decide +kernel
theorem dX10_moved_103 : decode cX10_moved 103 = .ok (.iload_n 3, 1) := by decide +kernel
theorem dX10_moved_104 : decode cX10_moved 104 = .ok (.iconst (-1), 1) := by decide +kernel
theorem dX10_moved_105 : decode cX10_moved 105 = .ok (.iastore, 1) := by decide +kernel
theorem dX10_moved_106 : decode cX10_moved 106 = .ok (.iinc 3 1, 3) := by decide +kernel
theorem dX10_moved_109 : decode cX10_moved 109 = .ok (.goto (-23), 3) := by decide +kernel
theorem dX10_moved_112 : decode cX10_moved 112 = .ok (.iconst 0, 1) := by decide +kernel
theorem dX10_moved_113 : decode cX10_moved 113 = .ok (.istore_n 3, 1) := by decide +kernel
theorem dX10_moved_114 : decode cX10_moved 114 = .ok (.iload_n 3, 1) := by decide +kernel
theorem dX10_moved_115 : decode cX10_moved 115 = .ok (.aload_n 0, 1) := by decide +kernel
theorem dX10_moved_116 : decode cX10_moved 116 = .ok (.getfield 38, 3) := by decide +kernel
theorem dX10_moved_119 : decode cX10_moved 119 = .ok (.iconst 0, 1) := by decide +kernel
theorem dX10_moved_120 : decode cX10_moved 120 = .ok (.iaload, 1) := by decide +kernel
theorem dX10_moved_121 : decode cX10_moved 121 = .ok (.if_icmp .ge 111, 3) := by decide +kernel
theorem dX10_moved_124 : decode cX10_moved 124 = .ok (.aload_n 0, 1) := by decide +kernel
theorem dX10_moved_125 : decode cX10_moved 125 = .ok (.getfield 41, 3) := by decide +kernel
theorem dX10_moved_128 : decode cX10_moved 128 = .ok (.iload_n 3, 1) := by decide +kernel
theorem dX10_moved_129 : decode cX10_moved 129 = .ok (.iaload, 1) := by decide +kernel
theorem dX10_moved_130 : decode cX10_moved 130 = .ok (.iload_n 1, 1) := by decide +kernel
theorem dX10_moved_131 : decode cX10_moved 131 = .ok (.if_icmp .ne 95, 3) := by decide +kernel
theorem dX10_moved_134 : decode cX10_moved 134 = .ok (.aload_n 0, 1) := by decide +kernel
theorem dX10_moved_135 : decode cX10_moved 135 = .ok (.getfield 56, 3) := by decide +kernel
theorem dX10_moved_138 : decode cX10_moved 138 = .ok (.iload_n 3, 1) := by decide +kernel
theorem dX10_moved_139 : decode cX10_moved 139 = .ok (.iaload, 1) := by decide +kernel
theorem dX10_moved_140 : decode cX10_moved 140 = .ok (.iconst 1, 1) := by decide +kernel
theorem dX10_moved_141 : decode cX10_moved 141 = .ok (.if_icmp .ne 6, 3) := by decide +kernel
theorem dX10_moved_144 : decode cX10_moved 144 = .ok (.goto 82, 3) := by decide +kernel
theorem dX10_moved_147 : decode cX10_moved 147 = .ok (.iload_n 2, 1) := by decide +kernel
theorem dX10_moved_148 : decode cX10_moved 148 = .ok (.aload_n 0, 1) := by decide +kernel
theorem dX10_moved_149 : decode cX10_moved 149 = .ok (.getfield 44, 3) := by decide +kernel
theorem dX10_moved_152 : decode cX10_moved 152 = .ok (.iload_n 3, 1) := by decide +kernel
theorem dX10_moved_153 : decode cX10_moved 153 = .ok (.iaload, 1) := by decide +kernel
theorem dX10_moved_154 : decode cX10_moved 154 = .ok (.aload_n 0, 1) := by decide +kernel
theorem dX10_moved_155 : decode cX10_moved 155 = .ok (.getfield 110, 3) := by decide +kernel
theorem dX10_moved_158 : decode cX10_moved 158 = .ok (.iload_n 3, 1) := by decide +kernel
theorem dX10_moved_159 : decode cX10_moved 159 = .ok (.iaload, 1) := by decide +kernel
theorem dX10_moved_160 : decode cX10_moved 160 = .ok (.if_icmp .eq 7, 3) := by decide +kernel
theorem dX10_moved_163 : decode cX10_moved 163 = .ok (.iconst 1, 1) := by decide +kernel
theorem dX10_moved_164 : decode cX10_moved 164 = .ok (.goto 4, 3) := by decide +kernel
theorem dX10_moved_167 : decode cX10_moved 167 = .ok (.iconst 0, 1) := by decide +kernel
theorem dX10_moved_168 : decode cX10_moved 168 = .ok (.iadd, 1) := by decide +kernel
theorem dX10_moved_169 : decode cX10_moved 169 = .ok (.istore_n 2, 1) := by decide +kernel
theorem dX10_moved_170 : decode cX10_moved 170 = .ok (.aload_n 0, 1) := by decide +kernel
theorem dX10_moved_171 : decode cX10_moved 171 = .ok (.getfield 44, 3) := by decide +kernel
theorem dX10_moved_174 : decode cX10_moved 174 = .ok (.iload_n 3, 1) := by decide +kernel
theorem dX10_moved_175 : decode cX10_moved 175 = .ok (.aload_n 0, 1) := by decide +kernel
theorem dX10_moved_176 : decode cX10_moved 176 = .ok (.getfield 110, 3) := by decide +kernel
theorem dX10_moved_179 : decode cX10_moved 179 = .ok (.iload_n 3, 1) := by decide +kernel
theorem dX10_moved_180 : decode cX10_moved 180 = .ok (.iaload, 1) := by decide +kernel
theorem dX10_moved_181 : decode cX10_moved 181 = .ok (.iastore, 1) := by decide +kernel
theorem dX10_moved_182 : decode cX10_moved 182 = .ok (.aload_n 0, 1) := by decide +kernel
theorem dX10_moved_183 : decode cX10_moved 183 = .ok (.getfield 47, 3) := by decide +kernel
theorem dX10_moved_186 : decode cX10_moved 186 = .ok (.iload_n 3, 1) := by decide +kernel
theorem dX10_moved_187 : decode cX10_moved 187 = .ok (.iaload, 1) := by decide +kernel
theorem dX10_moved_188 : decode cX10_moved 188 = .ok (.istore 4, 2) := by decide +kernel
theorem dX10_moved_190 : decode cX10_moved 190 = .ok (.iload 4, 2) := by decide +kernel
theorem dX10_moved_192 : decode cX10_moved 192 = .ok (.aload_n 0, 1) := by decide +kernel
theorem dX10_moved_193 : decode cX10_moved 193 = .ok (.getfield 50, 3) := by decide +kernel
theorem dX10_moved_196 : decode cX10_moved 196 = .ok (.iload_n 3, 1) := by decide +kernel
theorem dX10_moved_197 : decode cX10_moved 197 = .ok (.iaload, 1) := by decide +kernel
theorem dX10_moved_198 : decode cX10_moved 198 = .ok (.if_icmp .ge 28, 3) := by decide +kernel
theorem dX10_moved_201 : decode cX10_moved 201 = .ok (.aload_n 0, 1) := by decide +kernel
theorem dX10_moved_202 : decode cX10_moved 202 = .ok (.getfield 35, 3) := by decide +kernel
theorem dX10_moved_205 : decode cX10_moved 205 = .ok (.aload_n 0, 1) := by decide +kernel
theorem dX10_moved_206 : decode cX10_moved 206 = .ok (.iload_n 1, 1) := by decide +kernel
theorem dX10_moved_207 : decode cX10_moved 207 = .ok (.aload_n 0, 1) := by decide +kernel
theorem dX10_moved_208 : decode cX10_moved 208 = .ok (.getfield 44, 3) := by decide +kernel
theorem dX10_moved_211 : decode cX10_moved 211 = .ok (.iload_n 3, 1) := by decide +kernel
theorem dX10_moved_212 : decode cX10_moved 212 = .ok (.iaload, 1) := by decide +kernel
theorem dX10_moved_213 : decode cX10_moved 213 = .ok (.iload 4, 2) := by decide +kernel
theorem dX10_moved_215 : decode cX10_moved 215 = .ok (.invokevirtual 162, 3) := by decide +kernel
theorem dX10_moved_218 : decode cX10_moved 218 = .ok (.iload_n 3, 1) := by decide +kernel
theorem dX10_moved_219 : decode cX10_moved 219 = .ok (.iastore, 1) := by decide +kernel
theorem dX10_moved_220 : decode cX10_moved 220 = .ok (.iinc 4 1, 3) := by decide +kernel
theorem dX10_moved_223 : decode cX10_moved 223 = .ok (.goto (-33), 3) := by decide +kernel
theorem dX10_moved_226 : decode cX10_moved 226 = .ok (.iinc 3 1, 3) := by decide +kernel
theorem dX10_moved_229 : decode cX10_moved 229 = .ok (.goto (-115), 3) := by decide +kernel
theorem dX10_moved_232 : decode cX10_moved 232 = .ok (.iload_n 2, 1) := by decide +kernel
theorem dX10_moved_233 : decode cX10_moved 233 = .ok (.ireturn, 1) := by decide +kernel
set_option maxRecDepth 20000 in
theorem ggX10_wouldFit_X10_isOffice : GoodIn wsX10_wouldFit wsX10_isOffice := goodIn_r _ [6, 7, 8, 5, 9] (by decide +kernel) (by decide +kernel)
set_option maxRecDepth 20000 in
theorem gX10_wouldFit_X10_isOffice : GoodIn wsX10_wouldFit (wsV RX10 158 RX10 yX10_isOffice wsX10_isOffice) := goodIn_app (goodIn_of _ (by decide +kernel)) ggX10_wouldFit_X10_isOffice
set_option maxRecDepth 20000 in
theorem ggX10_wouldFit_X10_isRun : GoodIn wsX10_wouldFit wsX10_isRun := goodIn_r _ [13, 14, 7, 8, 5, 9, 46, 47, 48, 49, 50, 51, 52, 53, 54, 55, 56, 57, 58, 59, 60, 61, 62, 63, 64, 65, 66, 67, 68, 69, 70, 71, 72, 73, 74, 75, 76, 77, 78, 79, 80, 81, 82, 83, 84, 85, 86, 87, 88, 89, 90, 91, 92, 93, 94, 95, 96, 97, 98] (by decide +kernel) (by decide +kernel)
set_option maxRecDepth 20000 in
theorem gX10_wouldFit_X10_isRun : GoodIn wsX10_wouldFit (wsV RX10 166 RX10 yX10_isRun wsX10_isRun) := goodIn_app (goodIn_of _ (by decide +kernel)) ggX10_wouldFit_X10_isRun
set_option maxRecDepth 20000 in
theorem ggX10_wouldFit_X10_hasLeft : GoodIn wsX10_wouldFit wsX10_hasLeft := goodIn_r _ [18, 19, 46, 47, 48, 49, 50, 51, 52, 53, 54, 55, 56, 57, 58, 59, 60, 61, 62, 63, 64, 65, 66, 67, 68, 69, 70, 71, 72, 73, 74, 75, 76, 77, 78, 79, 80, 81, 82, 83, 84, 85, 86, 87, 88, 89, 90, 91, 92, 93, 94, 95, 96, 97, 98] (by decide +kernel) (by decide +kernel)
set_option maxRecDepth 20000 in
theorem gX10_wouldFit_X10_hasLeft : GoodIn wsX10_wouldFit (wsV RX10 200 RX10 yX10_hasLeft wsX10_hasLeft) := goodIn_app (goodIn_of _ (by decide +kernel)) ggX10_wouldFit_X10_hasLeft
set_option maxRecDepth 20000 in
theorem ggX10_wouldFit_X10_isStretch : GoodIn wsX10_wouldFit wsX10_isStretch := goodIn_r _ [23, 24, 46, 47, 48, 49, 50, 51, 52, 53, 54, 55, 56, 57, 58, 59, 60, 61, 62, 63, 64, 65, 66, 67, 68, 69, 70, 71, 72, 73, 74, 75, 76, 77, 78, 79, 80, 81, 82, 83, 84, 85, 86, 87, 88, 89, 90, 91, 92, 93, 94, 95, 96, 97, 98] (by decide +kernel) (by decide +kernel)
set_option maxRecDepth 20000 in
theorem gX10_wouldFit_X10_isStretch : GoodIn wsX10_wouldFit (wsV RX10 169 RX10 yX10_isStretch wsX10_isStretch) := goodIn_app (goodIn_of _ (by decide +kernel)) ggX10_wouldFit_X10_isStretch
theorem dX10_wouldFit_0 : decode cX10_wouldFit 0 = .ok (.aload_n 0, 1) := by decide +kernel
theorem dX10_wouldFit_1 : decode cX10_wouldFit 1 = .ok (.iconst 0, 1) := by decide +kernel
theorem dX10_wouldFit_2 : decode cX10_wouldFit 2 = .ok (.putfield 139, 3) := by decide +kernel
theorem dX10_wouldFit_5 : decode cX10_wouldFit 5 = .ok (.aload_n 0, 1) := by decide +kernel
theorem dX10_wouldFit_6 : decode cX10_wouldFit 6 = .ok (.iload_n 1, 1) := by decide +kernel
theorem dX10_wouldFit_7 : decode cX10_wouldFit 7 = .ok (.invokevirtual 158, 3) := by decide +kernel
theorem dX10_wouldFit_10 : decode cX10_wouldFit 10 = .ok (.ifCond .eq 45, 3) := by decide +kernel
theorem dX10_wouldFit_13 : decode cX10_wouldFit 13 = .ok (.aload_n 0, 1) := by decide +kernel
theorem dX10_wouldFit_14 : decode cX10_wouldFit 14 = .ok (.iload_n 2, 1) := by decide +kernel
theorem dX10_wouldFit_15 : decode cX10_wouldFit 15 = .ok (.invokevirtual 166, 3) := by decide +kernel
theorem dX10_wouldFit_18 : decode cX10_wouldFit 18 = .ok (.ifCond .eq 37, 3) := by decide +kernel
theorem dX10_wouldFit_21 : decode cX10_wouldFit 21 = .ok (.aload_n 0, 1) := by decide +kernel
theorem dX10_wouldFit_22 : decode cX10_wouldFit 22 = .ok (.iload_n 2, 1) := by decide +kernel
theorem dX10_wouldFit_23 : decode cX10_wouldFit 23 = .ok (.invokevirtual 200, 3) := by decide +kernel
theorem dX10_wouldFit_26 : decode cX10_wouldFit 26 = .ok (.ifCond .ne 29, 3) := by decide +kernel
theorem dX10_wouldFit_29 : decode cX10_wouldFit 29 = .ok (.aload_n 0, 1) := by decide +kernel
theorem dX10_wouldFit_30 : decode cX10_wouldFit 30 = .ok (.iload_n 3, 1) := by decide +kernel
theorem dX10_wouldFit_31 : decode cX10_wouldFit 31 = .ok (.iload 4, 2) := by decide +kernel
theorem dX10_wouldFit_33 : decode cX10_wouldFit 33 = .ok (.invokevirtual 169, 3) := by decide +kernel
theorem dX10_wouldFit_36 : decode cX10_wouldFit 36 = .ok (.ifCond .eq 19, 3) := by decide +kernel
theorem dX10_wouldFit_39 : decode cX10_wouldFit 39 = .ok (.aload_n 0, 1) := by decide +kernel
theorem dX10_wouldFit_40 : decode cX10_wouldFit 40 = .ok (.iload_n 1, 1) := by decide +kernel
theorem dX10_wouldFit_41 : decode cX10_wouldFit 41 = .ok (.iload_n 2, 1) := by decide +kernel
theorem dX10_wouldFit_42 : decode cX10_wouldFit 42 = .ok (.iload_n 3, 1) := by decide +kernel
theorem dX10_wouldFit_43 : decode cX10_wouldFit 43 = .ok (.iload 4, 2) := by decide +kernel
theorem dX10_wouldFit_45 : decode cX10_wouldFit 45 = .ok (.invokevirtual 203, 3) := by decide +kernel
theorem dX10_wouldFit_48 : decode cX10_wouldFit 48 = .ok (.ifCond .eq 7, 3) := by decide +kernel
theorem dX10_wouldFit_51 : decode cX10_wouldFit 51 = .ok (.iconst 1, 1) := by decide +kernel
theorem dX10_wouldFit_52 : decode cX10_wouldFit 52 = .ok (.goto 4, 3) := by decide +kernel
theorem dX10_wouldFit_55 : decode cX10_wouldFit 55 = .ok (.iconst 0, 1) := by decide +kernel
theorem dX10_wouldFit_56 : decode cX10_wouldFit 56 = .ok (.ireturn, 1) := by decide +kernel
set_option maxRecDepth 20000 in
theorem ggX10_ticket_X10_in : GoodIn wsX10_ticket wsX10_in := goodIn_r _ [12] (by decide +kernel) (by decide +kernel)
set_option maxRecDepth 20000 in
theorem gX10_ticket_X10_in : GoodIn wsX10_ticket (va_wsS RX10 146 yX10_in wsX10_in) := goodIn_app (goodIn_of _ (by decide +kernel)) ggX10_ticket_X10_in
theorem dX10_ticket_0 : decode cX10_ticket 0 = .ok (.aload_n 0, 1) := by decide +kernel
theorem dX10_ticket_1 : decode cX10_ticket 1 = .ok (.iconst 0, 1) := by decide +kernel
theorem dX10_ticket_2 : decode cX10_ticket 2 = .ok (.putfield 139, 3) := by decide +kernel
theorem dX10_ticket_5 : decode cX10_ticket 5 = .ok (.iload_n 1, 1) := by decide +kernel
theorem dX10_ticket_6 : decode cX10_ticket 6 = .ok (.iconst 0, 1) := by decide +kernel
theorem dX10_ticket_7 : decode cX10_ticket 7 = .ok (.aload_n 0, 1) := by decide +kernel
theorem dX10_ticket_8 : decode cX10_ticket 8 = .ok (.getfield 38, 3) := by decide +kernel
theorem dX10_ticket_11 : decode cX10_ticket 11 = .ok (.iconst 0, 1) := by decide +kernel
theorem dX10_ticket_12 : decode cX10_ticket 12 = .ok (.iaload, 1) := by decide +kernel
theorem dX10_ticket_13 : decode cX10_ticket 13 = .ok (.iconst 1, 1) := by decide +kernel
theorem dX10_ticket_14 : decode cX10_ticket 14 = .ok (.isub, 1) := by decide +kernel
theorem dX10_ticket_15 : decode cX10_ticket 15 = .ok (.invokestatic 146, 3) := by decide +kernel
theorem dX10_ticket_18 : decode cX10_ticket 18 = .ok (.ifCond .ne 5, 3) := by decide +kernel
theorem dX10_ticket_21 : decode cX10_ticket 21 = .ok (.iconst (-1), 1) := by decide +kernel
theorem dX10_ticket_22 : decode cX10_ticket 22 = .ok (.ireturn, 1) := by decide +kernel
theorem dX10_ticket_23 : decode cX10_ticket 23 = .ok (.iload_n 2, 1) := by decide +kernel
theorem dX10_ticket_24 : decode cX10_ticket 24 = .ok (.tableswitch 82 0 5 #[40, 47, 54, 61, 68, 75], 40) := by decide +kernel
theorem dX10_ticket_64 : decode cX10_ticket 64 = .ok (.aload_n 0, 1) := by decide +kernel
theorem dX10_ticket_65 : decode cX10_ticket 65 = .ok (.getfield 41, 3) := by decide +kernel
theorem dX10_ticket_68 : decode cX10_ticket 68 = .ok (.iload_n 1, 1) := by decide +kernel
theorem dX10_ticket_69 : decode cX10_ticket 69 = .ok (.iaload, 1) := by decide +kernel
theorem dX10_ticket_70 : decode cX10_ticket 70 = .ok (.ireturn, 1) := by decide +kernel
theorem dX10_ticket_71 : decode cX10_ticket 71 = .ok (.aload_n 0, 1) := by decide +kernel
theorem dX10_ticket_72 : decode cX10_ticket 72 = .ok (.getfield 44, 3) := by decide +kernel
theorem dX10_ticket_75 : decode cX10_ticket 75 = .ok (.iload_n 1, 1) := by decide +kernel
theorem dX10_ticket_76 : decode cX10_ticket 76 = .ok (.iaload, 1) := by decide +kernel
theorem dX10_ticket_77 : decode cX10_ticket 77 = .ok (.ireturn, 1) := by decide +kernel
theorem dX10_ticket_78 : decode cX10_ticket 78 = .ok (.aload_n 0, 1) := by decide +kernel
theorem dX10_ticket_79 : decode cX10_ticket 79 = .ok (.getfield 47, 3) := by decide +kernel
theorem dX10_ticket_82 : decode cX10_ticket 82 = .ok (.iload_n 1, 1) := by decide +kernel
theorem dX10_ticket_83 : decode cX10_ticket 83 = .ok (.iaload, 1) := by decide +kernel
theorem dX10_ticket_84 : decode cX10_ticket 84 = .ok (.ireturn, 1) := by decide +kernel
theorem dX10_ticket_85 : decode cX10_ticket 85 = .ok (.aload_n 0, 1) := by decide +kernel
theorem dX10_ticket_86 : decode cX10_ticket 86 = .ok (.getfield 50, 3) := by decide +kernel
theorem dX10_ticket_89 : decode cX10_ticket 89 = .ok (.iload_n 1, 1) := by decide +kernel
theorem dX10_ticket_90 : decode cX10_ticket 90 = .ok (.iaload, 1) := by decide +kernel
theorem dX10_ticket_91 : decode cX10_ticket 91 = .ok (.ireturn, 1) := by decide +kernel
theorem dX10_ticket_92 : decode cX10_ticket 92 = .ok (.aload_n 0, 1) := by decide +kernel
theorem dX10_ticket_93 : decode cX10_ticket 93 = .ok (.getfield 53, 3) := by decide +kernel
theorem dX10_ticket_96 : decode cX10_ticket 96 = .ok (.iload_n 1, 1) := by decide +kernel
theorem dX10_ticket_97 : decode cX10_ticket 97 = .ok (.iaload, 1) := by decide +kernel
theorem dX10_ticket_98 : decode cX10_ticket 98 = .ok (.ireturn, 1) := by decide +kernel
theorem dX10_ticket_99 : decode cX10_ticket 99 = .ok (.aload_n 0, 1) := by decide +kernel
theorem dX10_ticket_100 : decode cX10_ticket 100 = .ok (.getfield 56, 3) := by decide +kernel
theorem dX10_ticket_103 : decode cX10_ticket 103 = .ok (.iload_n 1, 1) := by decide +kernel
theorem dX10_ticket_104 : decode cX10_ticket 104 = .ok (.iaload, 1) := by decide +kernel
theorem dX10_ticket_105 : decode cX10_ticket 105 = .ok (.ireturn, 1) := by decide +kernel
theorem dX10_ticket_106 : decode cX10_ticket 106 = .ok (.iconst (-1), 1) := by decide +kernel
theorem dX10_ticket_107 : decode cX10_ticket 107 = .ok (.ireturn, 1) := by decide +kernel
set_option maxRecDepth 20000 in
theorem ggX10_lies_X10_isRun : GoodIn wsX10_lies wsX10_isRun := goodIn_r _ [9, 2, 10, 11, 8, 12, 17, 18, 19, 20, 21, 22, 23, 24, 25, 26, 27, 28, 29, 30, 31, 32, 33, 34, 35, 36, 37, 38, 39, 40, 41, 42, 43, 44, 45, 46, 47, 48, 49, 50, 51, 52, 53, 54, 55, 56, 57, 58, 59, 60, 61, 62, 63, 64, 65, 66, 67, 68, 69] (by decide +kernel) (by decide +kernel)
set_option maxRecDepth 20000 in
theorem gX10_lies_X10_isRun : GoodIn wsX10_lies (wsV RX10 166 RX10 yX10_isRun wsX10_isRun) := goodIn_app (goodIn_of _ (by decide +kernel)) ggX10_lies_X10_isRun
set_option maxRecDepth 20000 in
theorem ggX10_lies_X10_in : GoodIn wsX10_lies wsX10_in := goodIn_r _ [12] (by decide +kernel) (by decide +kernel)
set_option maxRecDepth 20000 in
theorem gX10_lies_X10_in : GoodIn wsX10_lies (va_wsS RX10 146 yX10_in wsX10_in) := goodIn_app (goodIn_of _ (by decide +kernel)) ggX10_lies_X10_in
theorem dX10_lies_0 : decode cX10_lies 0 = .ok (.aload_n 0, 1) := by decide +kernel
theorem dX10_lies_1 : decode cX10_lies 1 = .ok (.iconst 0, 1) := by decide +kernel
theorem dX10_lies_2 : decode cX10_lies 2 = .ok (.putfield 139, 3) := by decide +kernel
theorem dX10_lies_5 : decode cX10_lies 5 = .ok (.aload_n 0, 1) := by decide +kernel
theorem dX10_lies_6 : decode cX10_lies 6 = .ok (.iload_n 1, 1) := by decide +kernel
theorem dX10_lies_7 : decode cX10_lies 7 = .ok (.invokevirtual 166, 3) := by decide +kernel
theorem dX10_lies_10 : decode cX10_lies 10 = .ok (.ifCond .eq 50, 3) := by decide +kernel
theorem dX10_lies_13 : decode cX10_lies 13 = .ok (.iload_n 2, 1) := by decide +kernel
theorem dX10_lies_14 : decode cX10_lies 14 = .ok (.iconst 0, 1) := by decide +kernel
theorem dX10_lies_15 : decode cX10_lies 15 = .ok (.aload_n 0, 1) := by decide +kernel
theorem dX10_lies_16 : decode cX10_lies 16 = .ok (.getfield 29, 3) := by decide +kernel
theorem dX10_lies_19 : decode cX10_lies 19 = .ok (.iload_n 1, 1) := by decide +kernel
theorem dX10_lies_20 : decode cX10_lies 20 = .ok (.iaload, 1) := by decide +kernel
theorem dX10_lies_21 : decode cX10_lies 21 = .ok (.iconst 1, 1) := by decide +kernel
theorem dX10_lies_22 : decode cX10_lies 22 = .ok (.isub, 1) := by decide +kernel
theorem dX10_lies_23 : decode cX10_lies 23 = .ok (.invokestatic 146, 3) := by decide +kernel
theorem dX10_lies_26 : decode cX10_lies 26 = .ok (.ifCond .eq 34, 3) := by decide +kernel
theorem dX10_lies_29 : decode cX10_lies 29 = .ok (.iload_n 3, 1) := by decide +kernel
theorem dX10_lies_30 : decode cX10_lies 30 = .ok (.iconst 0, 1) := by decide +kernel
theorem dX10_lies_31 : decode cX10_lies 31 = .ok (.aload_n 0, 1) := by decide +kernel
theorem dX10_lies_32 : decode cX10_lies 32 = .ok (.getfield 13, 3) := by decide +kernel
theorem dX10_lies_35 : decode cX10_lies 35 = .ok (.iconst 0, 1) := by decide +kernel
theorem dX10_lies_36 : decode cX10_lies 36 = .ok (.iaload, 1) := by decide +kernel
theorem dX10_lies_37 : decode cX10_lies 37 = .ok (.iconst 2, 1) := by decide +kernel
theorem dX10_lies_38 : decode cX10_lies 38 = .ok (.isub, 1) := by decide +kernel
theorem dX10_lies_39 : decode cX10_lies 39 = .ok (.invokestatic 146, 3) := by decide +kernel
theorem dX10_lies_42 : decode cX10_lies 42 = .ok (.ifCond .eq 18, 3) := by decide +kernel
theorem dX10_lies_45 : decode cX10_lies 45 = .ok (.aload_n 0, 1) := by decide +kernel
theorem dX10_lies_46 : decode cX10_lies 46 = .ok (.getfield 35, 3) := by decide +kernel
theorem dX10_lies_49 : decode cX10_lies 49 = .ok (.aload_n 0, 1) := by decide +kernel
theorem dX10_lies_50 : decode cX10_lies 50 = .ok (.iload_n 1, 1) := by decide +kernel
theorem dX10_lies_51 : decode cX10_lies 51 = .ok (.iload_n 2, 1) := by decide +kernel
theorem dX10_lies_52 : decode cX10_lies 52 = .ok (.iload_n 3, 1) := by decide +kernel
theorem dX10_lies_53 : decode cX10_lies 53 = .ok (.invokevirtual 162, 3) := by decide +kernel
theorem dX10_lies_56 : decode cX10_lies 56 = .ok (.iaload, 1) := by decide +kernel
theorem dX10_lies_57 : decode cX10_lies 57 = .ok (.goto 5, 3) := by decide +kernel
theorem dX10_lies_60 : decode cX10_lies 60 = .ok (.bipush (-2), 2) := by decide +kernel
theorem dX10_lies_62 : decode cX10_lies 62 = .ok (.ireturn, 1) := by decide +kernel
set_option maxRecDepth 20000 in
theorem ggX10_told_X10_isRun : GoodIn wsX10_told wsX10_isRun := goodIn_r _ [12, 2, 13, 14, 11, 15, 30, 31, 32, 33, 34, 35, 36, 37, 38, 39, 40, 41, 42, 43, 44, 45, 46, 47, 48, 49, 50, 51, 52, 53, 54, 55, 56, 57, 58, 59, 60, 61, 62, 63, 64, 65, 66, 67, 68, 69, 70, 71, 72, 73, 74, 75, 76, 77, 78, 79, 80, 81, 82] (by decide +kernel) (by decide +kernel)
set_option maxRecDepth 20000 in
theorem gX10_told_X10_isRun : GoodIn wsX10_told (wsV RX10 166 RX10 yX10_isRun wsX10_isRun) := goodIn_app (goodIn_of _ (by decide +kernel)) ggX10_told_X10_isRun
set_option maxRecDepth 20000 in
theorem ggX10_told_X10_hasLeft : GoodIn wsX10_told wsX10_hasLeft := goodIn_r _ [28, 29, 30, 31, 32, 33, 34, 35, 36, 37, 38, 39, 40, 41, 42, 43, 44, 45, 46, 47, 48, 49, 50, 51, 52, 53, 54, 55, 56, 57, 58, 59, 60, 61, 62, 63, 64, 65, 66, 67, 68, 69, 70, 71, 72, 73, 74, 75, 76, 77, 78, 79, 80, 81, 82] (by decide +kernel) (by decide +kernel)
set_option maxRecDepth 20000 in
theorem gX10_told_X10_hasLeft : GoodIn wsX10_told (wsV RX10 200 RX10 yX10_hasLeft wsX10_hasLeft) := goodIn_app (goodIn_of _ (by decide +kernel)) ggX10_told_X10_hasLeft
set_option maxRecDepth 20000 in
theorem ggX10_told_X10_in : GoodIn wsX10_told wsX10_in := goodIn_r _ [15] (by decide +kernel) (by decide +kernel)
set_option maxRecDepth 20000 in
theorem gX10_told_X10_in : GoodIn wsX10_told (va_wsS RX10 146 yX10_in wsX10_in) := goodIn_app (goodIn_of _ (by decide +kernel)) ggX10_told_X10_in
theorem dX10_told_0 : decode cX10_told 0 = .ok (.aload_n 0, 1) := by decide +kernel
theorem dX10_told_1 : decode cX10_told 1 = .ok (.iconst 0, 1) := by decide +kernel
theorem dX10_told_2 : decode cX10_told 2 = .ok (.putfield 139, 3) := by decide +kernel
theorem dX10_told_5 : decode cX10_told 5 = .ok (.aload_n 0, 1) := by decide +kernel
theorem dX10_told_6 : decode cX10_told 6 = .ok (.iload_n 1, 1) := by decide +kernel
theorem dX10_told_7 : decode cX10_told 7 = .ok (.invokevirtual 166, 3) := by decide +kernel
theorem dX10_told_10 : decode cX10_told 10 = .ok (.ifCond .ne 5, 3) := by decide +kernel
theorem dX10_told_13 : decode cX10_told 13 = .ok (.iconst (-1), 1) := by decide +kernel
theorem dX10_told_14 : decode cX10_told 14 = .ok (.ireturn, 1) := by decide +kernel
theorem dX10_told_15 : decode cX10_told 15 = .ok (.iconst 0, 1) := by decide +kernel
theorem dX10_told_16 : decode cX10_told 16 = .ok (.istore_n 3, 1) := by decide +kernel
theorem dX10_told_17 : decode cX10_told 17 = .ok (.iload_n 2, 1) := by decide +kernel
theorem dX10_told_18 : decode cX10_told 18 = .ok (.tableswitch 191 0 5 #[38, 45, 96, 143, 45, 177], 38) := by decide +kernel
theorem dX10_told_56 : decode cX10_told 56 = .ok (.aload_n 0, 1) := by decide +kernel
theorem dX10_told_57 : decode cX10_told 57 = .ok (.getfield 29, 3) := by decide +kernel
theorem dX10_told_60 : decode cX10_told 60 = .ok (.iload_n 1, 1) := by decide +kernel
theorem dX10_told_61 : decode cX10_told 61 = .ok (.iaload, 1) := by decide +kernel
theorem dX10_told_62 : decode cX10_told 62 = .ok (.ireturn, 1) := by decide +kernel
theorem dX10_told_63 : decode cX10_told 63 = .ok (.iconst 0, 1) := by decide +kernel
theorem dX10_told_64 : decode cX10_told 64 = .ok (.istore 4, 2) := by decide +kernel
theorem dX10_told_66 : decode cX10_told 66 = .ok (.iload 4, 2) := by decide +kernel
theorem dX10_told_68 : decode cX10_told 68 = .ok (.aload_n 0, 1) := by decide +kernel
theorem dX10_told_69 : decode cX10_told 69 = .ok (.getfield 38, 3) := by decide +kernel
theorem dX10_told_72 : decode cX10_told 72 = .ok (.iconst 0, 1) := by decide +kernel
theorem dX10_told_73 : decode cX10_told 73 = .ok (.iaload, 1) := by decide +kernel
theorem dX10_told_74 : decode cX10_told 74 = .ok (.if_icmp .ge 38, 3) := by decide +kernel
theorem dX10_told_77 : decode cX10_told 77 = .ok (.iload_n 3, 1) := by decide +kernel
theorem dX10_told_78 : decode cX10_told 78 = .ok (.aload_n 0, 1) := by decide +kernel
theorem dX10_told_79 : decode cX10_told 79 = .ok (.getfield 41, 3) := by decide +kernel
theorem dX10_told_82 : decode cX10_told 82 = .ok (.iload 4, 2) := by decide +kernel
theorem dX10_told_84 : decode cX10_told 84 = .ok (.iaload, 1) := by decide +kernel
theorem dX10_told_85 : decode cX10_told 85 = .ok (.iload_n 1, 1) := by decide +kernel
theorem dX10_told_86 : decode cX10_told 86 = .ok (.if_icmp .ne 17, 3) := by decide +kernel
theorem dX10_told_89 : decode cX10_told 89 = .ok (.aload_n 0, 1) := by decide +kernel
theorem dX10_told_90 : decode cX10_told 90 = .ok (.getfield 56, 3) := by decide +kernel
theorem dX10_told_93 : decode cX10_told 93 = .ok (.iload 4, 2) := by decide +kernel
theorem dX10_told_95 : decode cX10_told 95 = .ok (.iaload, 1) := by decide +kernel
theorem dX10_told_96 : decode cX10_told 96 = .ok (.ifCond .ne 7, 3) := by decide +kernel
theorem dX10_told_99 : decode cX10_told 99 = .ok (.iconst 1, 1) := by decide +kernel
theorem dX10_told_100 : decode cX10_told 100 = .ok (.goto 4, 3) := by decide +kernel
theorem dX10_told_103 : decode cX10_told 103 = .ok (.iconst 0, 1) := by decide +kernel
theorem dX10_told_104 : decode cX10_told 104 = .ok (.iadd, 1) := by decide +kernel
theorem dX10_told_105 : decode cX10_told 105 = .ok (.istore_n 3, 1) := by decide +kernel
theorem dX10_told_106 : decode cX10_told 106 = .ok (.iinc 4 1, 3) := by decide +kernel
theorem dX10_told_109 : decode cX10_told 109 = .ok (.goto (-43), 3) := by decide +kernel
theorem dX10_told_112 : decode cX10_told 112 = .ok (.iload_n 3, 1) := by decide +kernel
theorem dX10_told_113 : decode cX10_told 113 = .ok (.ireturn, 1) := by decide +kernel
theorem dX10_told_114 : decode cX10_told 114 = .ok (.iconst 0, 1) := by decide +kernel
theorem dX10_told_115 : decode cX10_told 115 = .ok (.istore 4, 2) := by decide +kernel
theorem dX10_told_117 : decode cX10_told 117 = .ok (.iload 4, 2) := by decide +kernel
theorem dX10_told_119 : decode cX10_told 119 = .ok (.aload_n 0, 1) := by decide +kernel
theorem dX10_told_120 : decode cX10_told 120 = .ok (.getfield 13, 3) := by decide +kernel
theorem dX10_told_123 : decode cX10_told 123 = .ok (.iconst 0, 1) := by decide +kernel
theorem dX10_told_124 : decode cX10_told 124 = .ok (.iaload, 1) := by decide +kernel
theorem dX10_told_125 : decode cX10_told 125 = .ok (.iconst 1, 1) := by decide +kernel
theorem dX10_told_126 : decode cX10_told 126 = .ok (.isub, 1) := by decide +kernel
theorem dX10_told_127 : decode cX10_told 127 = .ok (.if_icmp .ge 32, 3) := by decide +kernel
theorem dX10_told_130 : decode cX10_told 130 = .ok (.aload_n 0, 1) := by decide +kernel
theorem dX10_told_131 : decode cX10_told 131 = .ok (.iload_n 1, 1) := by decide +kernel
theorem dX10_told_132 : decode cX10_told 132 = .ok (.iload 4, 2) := by decide +kernel
theorem dX10_told_134 : decode cX10_told 134 = .ok (.invokevirtual 206, 3) := by decide +kernel
theorem dX10_told_137 : decode cX10_told 137 = .ok (.iload_n 3, 1) := by decide +kernel
theorem dX10_told_138 : decode cX10_told 138 = .ok (.if_icmp .le 13, 3) := by decide +kernel
theorem dX10_told_141 : decode cX10_told 141 = .ok (.aload_n 0, 1) := by decide +kernel
theorem dX10_told_142 : decode cX10_told 142 = .ok (.iload_n 1, 1) := by decide +kernel
theorem dX10_told_143 : decode cX10_told 143 = .ok (.iload 4, 2) := by decide +kernel
theorem dX10_told_145 : decode cX10_told 145 = .ok (.invokevirtual 206, 3) := by decide +kernel
theorem dX10_told_148 : decode cX10_told 148 = .ok (.goto 4, 3) := by decide +kernel
theorem dX10_told_151 : decode cX10_told 151 = .ok (.iload_n 3, 1) := by decide +kernel
theorem dX10_told_152 : decode cX10_told 152 = .ok (.istore_n 3, 1) := by decide +kernel
theorem dX10_told_153 : decode cX10_told 153 = .ok (.iinc 4 1, 3) := by decide +kernel
theorem dX10_told_156 : decode cX10_told 156 = .ok (.goto (-39), 3) := by decide +kernel
theorem dX10_told_159 : decode cX10_told 159 = .ok (.iload_n 3, 1) := by decide +kernel
theorem dX10_told_160 : decode cX10_told 160 = .ok (.ireturn, 1) := by decide +kernel
theorem dX10_told_161 : decode cX10_told 161 = .ok (.iconst 0, 1) := by decide +kernel
theorem dX10_told_162 : decode cX10_told 162 = .ok (.istore 4, 2) := by decide +kernel
theorem dX10_told_164 : decode cX10_told 164 = .ok (.iload 4, 2) := by decide +kernel
theorem dX10_told_166 : decode cX10_told 166 = .ok (.aload_n 0, 1) := by decide +kernel
theorem dX10_told_167 : decode cX10_told 167 = .ok (.getfield 13, 3) := by decide +kernel
theorem dX10_told_170 : decode cX10_told 170 = .ok (.iconst 0, 1) := by decide +kernel
theorem dX10_told_171 : decode cX10_told 171 = .ok (.iaload, 1) := by decide +kernel
theorem dX10_told_172 : decode cX10_told 172 = .ok (.iconst 1, 1) := by decide +kernel
theorem dX10_told_173 : decode cX10_told 173 = .ok (.isub, 1) := by decide +kernel
theorem dX10_told_174 : decode cX10_told 174 = .ok (.if_icmp .ge 19, 3) := by decide +kernel
theorem dX10_told_177 : decode cX10_told 177 = .ok (.iload_n 3, 1) := by decide +kernel
theorem dX10_told_178 : decode cX10_told 178 = .ok (.aload_n 0, 1) := by decide +kernel
theorem dX10_told_179 : decode cX10_told 179 = .ok (.iload_n 1, 1) := by decide +kernel
theorem dX10_told_180 : decode cX10_told 180 = .ok (.iload 4, 2) := by decide +kernel
theorem dX10_told_182 : decode cX10_told 182 = .ok (.invokevirtual 206, 3) := by decide +kernel
theorem dX10_told_185 : decode cX10_told 185 = .ok (.iadd, 1) := by decide +kernel
theorem dX10_told_186 : decode cX10_told 186 = .ok (.istore_n 3, 1) := by decide +kernel
theorem dX10_told_187 : decode cX10_told 187 = .ok (.iinc 4 1, 3) := by decide +kernel
theorem dX10_told_190 : decode cX10_told 190 = .ok (.goto (-26), 3) := by decide +kernel
theorem dX10_told_193 : decode cX10_told 193 = .ok (.iload_n 3, 1) := by decide +kernel
theorem dX10_told_194 : decode cX10_told 194 = .ok (.ireturn, 1) := by decide +kernel
theorem dX10_told_195 : decode cX10_told 195 = .ok (.aload_n 0, 1) := by decide +kernel
theorem dX10_told_196 : decode cX10_told 196 = .ok (.iload_n 1, 1) := by decide +kernel
theorem dX10_told_197 : decode cX10_told 197 = .ok (.invokevirtual 200, 3) := by decide +kernel
theorem dX10_told_200 : decode cX10_told 200 = .ok (.ifCond .eq 7, 3) := by decide +kernel
theorem dX10_told_203 : decode cX10_told 203 = .ok (.iconst 1, 1) := by decide +kernel
theorem dX10_told_204 : decode cX10_told 204 = .ok (.goto 4, 3) := by decide +kernel
theorem dX10_told_207 : decode cX10_told 207 = .ok (.iconst 0, 1) := by decide +kernel
theorem dX10_told_208 : decode cX10_told 208 = .ok (.ireturn, 1) := by decide +kernel
theorem dX10_told_209 : decode cX10_told 209 = .ok (.iload_n 2, 1) := by decide +kernel
theorem dX10_told_210 : decode cX10_told 210 = .ok (.bipush 10, 2) := by decide +kernel
theorem dX10_told_212 : decode cX10_told 212 = .ok (.bipush 9, 2) := by decide +kernel
theorem dX10_told_214 : decode cX10_told 214 = .ok (.aload_n 0, 1) := by decide +kernel
theorem dX10_told_215 : decode cX10_told 215 = .ok (.getfield 29, 3) := by decide +kernel
theorem dX10_told_218 : decode cX10_told 218 = .ok (.iload_n 1, 1) := by decide +kernel
theorem dX10_told_219 : decode cX10_told 219 = .ok (.iaload, 1) := by decide +kernel
theorem dX10_told_220 : decode cX10_told 220 = .ok (.iadd, 1) := by decide +kernel
theorem dX10_told_221 : decode cX10_told 221 = .ok (.invokestatic 146, 3) := by decide +kernel
theorem dX10_told_224 : decode cX10_told 224 = .ok (.ifCond .eq 20, 3) := by decide +kernel
theorem dX10_told_227 : decode cX10_told 227 = .ok (.aload_n 0, 1) := by decide +kernel
theorem dX10_told_228 : decode cX10_told 228 = .ok (.getfield 32, 3) := by decide +kernel
theorem dX10_told_231 : decode cX10_told 231 = .ok (.bipush 10, 2) := by decide +kernel
theorem dX10_told_233 : decode cX10_told 233 = .ok (.iload_n 1, 1) := by decide +kernel
theorem dX10_told_234 : decode cX10_told 234 = .ok (.imul, 1) := by decide +kernel
theorem dX10_told_235 : decode cX10_told 235 = .ok (.iload_n 2, 1) := by decide +kernel
theorem dX10_told_236 : decode cX10_told 236 = .ok (.iadd, 1) := by decide +kernel
theorem dX10_told_237 : decode cX10_told 237 = .ok (.bipush 10, 2) := by decide +kernel
theorem dX10_told_239 : decode cX10_told 239 = .ok (.isub, 1) := by decide +kernel
theorem dX10_told_240 : decode cX10_told 240 = .ok (.iaload, 1) := by decide +kernel
theorem dX10_told_241 : decode cX10_told 241 = .ok (.goto 4, 3) := by decide +kernel
theorem dX10_told_244 : decode cX10_told 244 = .ok (.iconst (-1), 1) := by decide +kernel
theorem dX10_told_245 : decode cX10_told 245 = .ok (.ireturn, 1) := by decide +kernel
set_option maxRecDepth 20000 in
theorem ggX10_feed_X10_four : GoodIn wsX10_feed wsX10_four := goodIn_r _ [7, 8, 2, 9, 10, 11, 12, 13, 14, 15, 16, 17, 18, 19, 20, 21, 22, 23, 24, 25, 26, 27, 28, 29, 30, 31, 32, 33, 34, 35, 36, 37, 38, 39, 40, 41, 42, 43, 44, 45, 46, 47, 48, 49, 50, 51, 52, 53, 54, 55, 56, 57, 58, 59, 60, 61] (by decide +kernel) (by decide +kernel)
set_option maxRecDepth 20000 in
theorem gX10_feed_X10_four : GoodIn wsX10_feed (wsV RX10 212 RX10 yX10_four wsX10_four) := goodIn_app (goodIn_of _ (by decide +kernel)) ggX10_feed_X10_four
theorem dX10_feed_0 : decode cX10_feed 0 = .ok (.aload_n 0, 1) := by decide +kernel
theorem dX10_feed_1 : decode cX10_feed 1 = .ok (.iconst 0, 1) := by decide +kernel
theorem dX10_feed_2 : decode cX10_feed 2 = .ok (.putfield 139, 3) := by decide +kernel
theorem dX10_feed_5 : decode cX10_feed 5 = .ok (.aload_n 0, 1) := by decide +kernel
theorem dX10_feed_6 : decode cX10_feed 6 = .ok (.getfield 209, 3) := by decide +kernel
theorem dX10_feed_9 : decode cX10_feed 9 = .ok (.bipush 20, 2) := by decide +kernel
theorem dX10_feed_11 : decode cX10_feed 11 = .ok (.iadd, 1) := by decide +kernel
theorem dX10_feed_12 : decode cX10_feed 12 = .ok (.sipush 400, 3) := by decide +kernel
theorem dX10_feed_15 : decode cX10_feed 15 = .ok (.if_icmp .le 5, 3) := by decide +kernel
theorem dX10_feed_18 : decode cX10_feed 18 = .ok (.iconst (-1), 1) := by decide +kernel
theorem dX10_feed_19 : decode cX10_feed 19 = .ok (.ireturn, 1) := by decide +kernel
theorem dX10_feed_20 : decode cX10_feed 20 = .ok (.aload_n 0, 1) := by decide +kernel
theorem dX10_feed_21 : decode cX10_feed 21 = .ok (.iload_n 1, 1) := by decide +kernel
theorem dX10_feed_22 : decode cX10_feed 22 = .ok (.invokevirtual 212, 3) := by decide +kernel
theorem dX10_feed_25 : decode cX10_feed 25 = .ok (.aload_n 0, 1) := by decide +kernel
theorem dX10_feed_26 : decode cX10_feed 26 = .ok (.iload_n 2, 1) := by decide +kernel
theorem dX10_feed_27 : decode cX10_feed 27 = .ok (.invokevirtual 212, 3) := by decide +kernel
theorem dX10_feed_30 : decode cX10_feed 30 = .ok (.aload_n 0, 1) := by decide +kernel
theorem dX10_feed_31 : decode cX10_feed 31 = .ok (.iload_n 3, 1) := by decide +kernel
theorem dX10_feed_32 : decode cX10_feed 32 = .ok (.invokevirtual 212, 3) := by decide +kernel
theorem dX10_feed_35 : decode cX10_feed 35 = .ok (.aload_n 0, 1) := by decide +kernel
theorem dX10_feed_36 : decode cX10_feed 36 = .ok (.iload 4, 2) := by decide +kernel
theorem dX10_feed_38 : decode cX10_feed 38 = .ok (.invokevirtual 212, 3) := by decide +kernel
theorem dX10_feed_41 : decode cX10_feed 41 = .ok (.aload_n 0, 1) := by decide +kernel
theorem dX10_feed_42 : decode cX10_feed 42 = .ok (.iload 5, 2) := by decide +kernel
theorem dX10_feed_44 : decode cX10_feed 44 = .ok (.invokevirtual 212, 3) := by decide +kernel
theorem dX10_feed_47 : decode cX10_feed 47 = .ok (.aload_n 0, 1) := by decide +kernel
theorem dX10_feed_48 : decode cX10_feed 48 = .ok (.getfield 209, 3) := by decide +kernel
theorem dX10_feed_51 : decode cX10_feed 51 = .ok (.ireturn, 1) := by decide +kernel
theorem dX10_four_0 : decode cX10_four 0 = .ok (.bipush 24, 2) := by decide +kernel
theorem dX10_four_2 : decode cX10_four 2 = .ok (.istore_n 2, 1) := by decide +kernel
theorem dX10_four_3 : decode cX10_four 3 = .ok (.iload_n 2, 1) := by decide +kernel
theorem dX10_four_4 : decode cX10_four 4 = .ok (.ifCond .lt 32, 3) := by decide +kernel
theorem dX10_four_7 : decode cX10_four 7 = .ok (.aload_n 0, 1) := by decide +kernel
theorem dX10_four_8 : decode cX10_four 8 = .ok (.getfield 7, 3) := by decide +kernel
theorem dX10_four_11 : decode cX10_four 11 = .ok (.aload_n 0, 1) := by decide +kernel
theorem dX10_four_12 : decode cX10_four 12 = .ok (.getfield 209, 3) := by decide +kernel
theorem dX10_four_15 : decode cX10_four 15 = .ok (.iload_n 1, 1) := by decide +kernel
theorem dX10_four_16 : decode cX10_four 16 = .ok (.iload_n 2, 1) := by decide +kernel
theorem dX10_four_17 : decode cX10_four 17 = .ok (.ishr, 1) := by decide +kernel
theorem dX10_four_18 : decode cX10_four 18 = .ok (.i2b, 1) := by decide +kernel
theorem dX10_four_19 : decode cX10_four 19 = .ok (.bastore, 1) := by decide +kernel
theorem dX10_four_20 : decode cX10_four 20 = .ok (.aload_n 0, 1) := by decide +kernel
theorem dX10_four_21 : decode cX10_four 21 = .ok (.dup, 1) := by decide +kernel
theorem dX10_four_22 : decode cX10_four 22 = .ok (.getfield 209, 3) := by decide +kernel
theorem dX10_four_25 : decode cX10_four 25 = .ok (.iconst 1, 1) := by decide +kernel
theorem dX10_four_26 : decode cX10_four 26 = .ok (.iadd, 1) := by decide +kernel
theorem dX10_four_27 : decode cX10_four 27 = .ok (.putfield 209, 3) := by decide +kernel
theorem dX10_four_30 : decode cX10_four 30 = .ok (.iinc 2 (-8), 3) := by decide +kernel
theorem dX10_four_33 : decode cX10_four 33 = .ok (.goto (-30), 3) := by decide +kernel
theorem dX10_four_36 : decode cX10_four 36 = .ok (.return_, 1) := by decide +kernel
set_option maxRecDepth 20000 in
theorem ggX10_end_X10_in : GoodIn wsX10_end wsX10_in := goodIn_r _ [6] (by decide +kernel) (by decide +kernel)
set_option maxRecDepth 20000 in
theorem gX10_end_X10_in : GoodIn wsX10_end (va_wsS RX10 146 yX10_in wsX10_in) := goodIn_app (goodIn_of _ (by decide +kernel)) ggX10_end_X10_in
theorem dX10_end_0 : decode cX10_end 0 = .ok (.aload_n 0, 1) := by decide +kernel
theorem dX10_end_1 : decode cX10_end 1 = .ok (.iconst 0, 1) := by decide +kernel
theorem dX10_end_2 : decode cX10_end 2 = .ok (.putfield 139, 3) := by decide +kernel
theorem dX10_end_5 : decode cX10_end 5 = .ok (.iload_n 1, 1) := by decide +kernel
theorem dX10_end_6 : decode cX10_end 6 = .ok (.iconst 0, 1) := by decide +kernel
theorem dX10_end_7 : decode cX10_end 7 = .ok (.aload_n 0, 1) := by decide +kernel
theorem dX10_end_8 : decode cX10_end 8 = .ok (.getfield 209, 3) := by decide +kernel
theorem dX10_end_11 : decode cX10_end 11 = .ok (.invokestatic 146, 3) := by decide +kernel
theorem dX10_end_14 : decode cX10_end 14 = .ok (.ifCond .ne 5, 3) := by decide +kernel
theorem dX10_end_17 : decode cX10_end 17 = .ok (.iconst (-1), 1) := by decide +kernel
theorem dX10_end_18 : decode cX10_end 18 = .ok (.ireturn, 1) := by decide +kernel
theorem dX10_end_19 : decode cX10_end 19 = .ok (.aload_n 0, 1) := by decide +kernel
theorem dX10_end_20 : decode cX10_end 20 = .ok (.iload_n 1, 1) := by decide +kernel
theorem dX10_end_21 : decode cX10_end 21 = .ok (.putfield 209, 3) := by decide +kernel
theorem dX10_end_24 : decode cX10_end 24 = .ok (.iload_n 1, 1) := by decide +kernel
theorem dX10_end_25 : decode cX10_end 25 = .ok (.ireturn, 1) := by decide +kernel
theorem dX10_see_0 : decode cX10_see 0 = .ok (.aload_n 0, 1) := by decide +kernel
theorem dX10_see_1 : decode cX10_see 1 = .ok (.getfield 216, 3) := by decide +kernel
theorem dX10_see_4 : decode cX10_see 4 = .ok (.aload_n 0, 1) := by decide +kernel
theorem dX10_see_5 : decode cX10_see 5 = .ok (.getfield 219, 3) := by decide +kernel
theorem dX10_see_8 : decode cX10_see 8 = .ok (.if_icmp .ge 19, 3) := by decide +kernel
theorem dX10_see_11 : decode cX10_see 11 = .ok (.aload_n 0, 1) := by decide +kernel
theorem dX10_see_12 : decode cX10_see 12 = .ok (.getfield 7, 3) := by decide +kernel
theorem dX10_see_15 : decode cX10_see 15 = .ok (.aload_n 0, 1) := by decide +kernel
theorem dX10_see_16 : decode cX10_see 16 = .ok (.getfield 216, 3) := by decide +kernel
theorem dX10_see_19 : decode cX10_see 19 = .ok (.baload, 1) := by decide +kernel
theorem dX10_see_20 : decode cX10_see 20 = .ok (.sipush 255, 3) := by decide +kernel
theorem dX10_see_23 : decode cX10_see 23 = .ok (.iand, 1) := by decide +kernel
theorem dX10_see_24 : decode cX10_see 24 = .ok (.goto 4, 3) := by decide +kernel
theorem dX10_see_27 : decode cX10_see 27 = .ok (.iconst (-1), 1) := by decide +kernel
theorem dX10_see_28 : decode cX10_see 28 = .ok (.ireturn, 1) := by decide +kernel
set_option maxRecDepth 20000 in
theorem ggX10_next_X10_see : GoodIn wsX10_next wsX10_see := goodIn_r _ [10, 1, 11, 12, 16, 17, 18, 19, 20, 21, 22, 23, 24, 25, 26, 27, 28, 29, 30, 31, 32, 33, 34, 35, 36, 37, 38, 39, 40, 41, 42, 43, 44, 45, 46, 47, 48, 49, 50, 51, 52, 53, 54, 55, 56, 57, 58, 59, 60, 61, 62, 63, 64, 65, 66, 67, 68] (by decide +kernel) (by decide +kernel)
set_option maxRecDepth 20000 in
theorem gX10_next_X10_see : GoodIn wsX10_next (wsV RX10 222 RX10 yX10_see wsX10_see) := goodIn_app (goodIn_of _ (by decide +kernel)) ggX10_next_X10_see
set_option maxRecDepth 20000 in
theorem ggX10_next_X10_in : GoodIn wsX10_next wsX10_in := goodIn_r _ [15] (by decide +kernel) (by decide +kernel)
set_option maxRecDepth 20000 in
theorem gX10_next_X10_in : GoodIn wsX10_next (va_wsS RX10 146 yX10_in wsX10_in) := goodIn_app (goodIn_of _ (by decide +kernel)) ggX10_next_X10_in
theorem dX10_next_0 : decode cX10_next 0 = .ok (.aload_n 0, 1) := by decide +kernel
theorem dX10_next_1 : decode cX10_next 1 = .ok (.invokevirtual 222, 3) := by decide +kernel
theorem dX10_next_4 : decode cX10_next 4 = .ok (.bipush 10, 2) := by decide +kernel
theorem dX10_next_6 : decode cX10_next 6 = .ok (.if_icmp .eq 12, 3) := by decide +kernel
theorem dX10_next_9 : decode cX10_next 9 = .ok (.aload_n 0, 1) := by decide +kernel
theorem dX10_next_10 : decode cX10_next 10 = .ok (.invokevirtual 222, 3) := by decide +kernel
theorem dX10_next_13 : decode cX10_next 13 = .ok (.bipush 32, 2) := by decide +kernel
theorem dX10_next_15 : decode cX10_next 15 = .ok (.if_icmp .ne 16, 3) := by decide +kernel
theorem dX10_next_18 : decode cX10_next 18 = .ok (.aload_n 0, 1) := by decide +kernel
theorem dX10_next_19 : decode cX10_next 19 = .ok (.dup, 1) := by decide +kernel
theorem dX10_next_20 : decode cX10_next 20 = .ok (.getfield 216, 3) := by decide +kernel
theorem dX10_next_23 : decode cX10_next 23 = .ok (.iconst 1, 1) := by decide +kernel
theorem dX10_next_24 : decode cX10_next 24 = .ok (.iadd, 1) := by decide +kernel
theorem dX10_next_25 : decode cX10_next 25 = .ok (.putfield 216, 3) := by decide +kernel
theorem dX10_next_28 : decode cX10_next 28 = .ok (.goto (-28), 3) := by decide +kernel
theorem dX10_next_31 : decode cX10_next 31 = .ok (.aload_n 0, 1) := by decide +kernel
theorem dX10_next_32 : decode cX10_next 32 = .ok (.aload_n 0, 1) := by decide +kernel
theorem dX10_next_33 : decode cX10_next 33 = .ok (.getfield 216, 3) := by decide +kernel
theorem dX10_next_36 : decode cX10_next 36 = .ok (.putfield 225, 3) := by decide +kernel
theorem dX10_next_39 : decode cX10_next 39 = .ok (.aload_n 0, 1) := by decide +kernel
theorem dX10_next_40 : decode cX10_next 40 = .ok (.invokevirtual 222, 3) := by decide +kernel
theorem dX10_next_43 : decode cX10_next 43 = .ok (.istore_n 1, 1) := by decide +kernel
theorem dX10_next_44 : decode cX10_next 44 = .ok (.aload_n 0, 1) := by decide +kernel
theorem dX10_next_45 : decode cX10_next 45 = .ok (.iload_n 1, 1) := by decide +kernel
theorem dX10_next_46 : decode cX10_next 46 = .ok (.putfield 228, 3) := by decide +kernel
theorem dX10_next_49 : decode cX10_next 49 = .ok (.aload_n 0, 1) := by decide +kernel
theorem dX10_next_50 : decode cX10_next 50 = .ok (.lconst 0, 1) := by decide +kernel
theorem dX10_next_51 : decode cX10_next 51 = .ok (.putfield 231, 3) := by decide +kernel
theorem dX10_next_54 : decode cX10_next 54 = .ok (.iload_n 1, 1) := by decide +kernel
theorem dX10_next_55 : decode cX10_next 55 = .ok (.ifCond .ge 11, 3) := by decide +kernel
theorem dX10_next_58 : decode cX10_next 58 = .ok (.aload_n 0, 1) := by decide +kernel
theorem dX10_next_59 : decode cX10_next 59 = .ok (.iconst 0, 1) := by decide +kernel
theorem dX10_next_60 : decode cX10_next 60 = .ok (.putfield 235, 3) := by decide +kernel
theorem dX10_next_63 : decode cX10_next 63 = .ok (.goto 234, 3) := by decide +kernel
theorem dX10_next_66 : decode cX10_next 66 = .ok (.iload_n 1, 1) := by decide +kernel
theorem dX10_next_67 : decode cX10_next 67 = .ok (.bipush 97, 2) := by decide +kernel
theorem dX10_next_69 : decode cX10_next 69 = .ok (.bipush 122, 2) := by decide +kernel
theorem dX10_next_71 : decode cX10_next 71 = .ok (.invokestatic 146, 3) := by decide +kernel
theorem dX10_next_74 : decode cX10_next 74 = .ok (.ifCond .eq 78, 3) := by decide +kernel
theorem dX10_next_77 : decode cX10_next 77 = .ok (.iconst 0, 1) := by decide +kernel
theorem dX10_next_78 : decode cX10_next 78 = .ok (.istore_n 2, 1) := by decide +kernel
theorem dX10_next_79 : decode cX10_next 79 = .ok (.aload_n 0, 1) := by decide +kernel
theorem dX10_next_80 : decode cX10_next 80 = .ok (.invokevirtual 222, 3) := by decide +kernel
theorem dX10_next_83 : decode cX10_next 83 = .ok (.bipush 97, 2) := by decide +kernel
theorem dX10_next_85 : decode cX10_next 85 = .ok (.bipush 122, 2) := by decide +kernel
theorem dX10_next_87 : decode cX10_next 87 = .ok (.invokestatic 146, 3) := by decide +kernel
theorem dX10_next_90 : decode cX10_next 90 = .ok (.ifCond .eq 36, 3) := by decide +kernel
theorem dX10_next_93 : decode cX10_next 93 = .ok (.aload_n 0, 1) := by decide +kernel
theorem dX10_next_94 : decode cX10_next 94 = .ok (.aload_n 0, 1) := by decide +kernel
theorem dX10_next_95 : decode cX10_next 95 = .ok (.getfield 231, 3) := by decide +kernel
theorem dX10_next_98 : decode cX10_next 98 = .ok (.bipush 8, 2) := by decide +kernel
theorem dX10_next_100 : decode cX10_next 100 = .ok (.lshl, 1) := by decide +kernel
theorem dX10_next_101 : decode cX10_next 101 = .ok (.aload_n 0, 1) := by decide +kernel
theorem dX10_next_102 : decode cX10_next 102 = .ok (.invokevirtual 222, 3) := by decide +kernel
theorem dX10_next_105 : decode cX10_next 105 = .ok (.i2l, 1) := by decide +kernel
theorem dX10_next_106 : decode cX10_next 106 = .ok (.lor, 1) := by decide +kernel
theorem dX10_next_107 : decode cX10_next 107 = .ok (.putfield 231, 3) := by decide +kernel
theorem dX10_next_110 : decode cX10_next 110 = .ok (.aload_n 0, 1) := by decide +kernel
theorem dX10_next_111 : decode cX10_next 111 = .ok (.dup, 1) := by decide +kernel
theorem dX10_next_112 : decode cX10_next 112 = .ok (.getfield 216, 3) := by decide +kernel
theorem dX10_next_115 : decode cX10_next 115 = .ok (.iconst 1, 1) := by decide +kernel
theorem dX10_next_116 : decode cX10_next 116 = .ok (.iadd, 1) := by decide +kernel
theorem dX10_next_117 : decode cX10_next 117 = .ok (.putfield 216, 3) := by decide +kernel
theorem dX10_next_120 : decode cX10_next 120 = .ok (.iinc 2 1, 3) := by decide +kernel
theorem dX10_next_123 : decode cX10_next 123 = .ok (.goto (-44), 3) := by decide +kernel
theorem dX10_next_126 : decode cX10_next 126 = .ok (.aload_n 0, 1) := by decide +kernel
theorem dX10_next_127 : decode cX10_next 127 = .ok (.iload_n 2, 1) := by decide +kernel
theorem dX10_next_128 : decode cX10_next 128 = .ok (.bipush 8, 2) := by decide +kernel
theorem dX10_next_130 : decode cX10_next 130 = .ok (.if_icmp .le 7, 3) := by decide +kernel
theorem dX10_next_133 : decode cX10_next 133 = .ok (.lconst 0, 1) := by decide +kernel
theorem dX10_next_134 : decode cX10_next 134 = .ok (.goto 7, 3) := by decide +kernel
theorem dX10_next_137 : decode cX10_next 137 = .ok (.aload_n 0, 1) := by decide +kernel
theorem dX10_next_138 : decode cX10_next 138 = .ok (.getfield 231, 3) := by decide +kernel
theorem dX10_next_141 : decode cX10_next 141 = .ok (.putfield 231, 3) := by decide +kernel
theorem dX10_next_144 : decode cX10_next 144 = .ok (.aload_n 0, 1) := by decide +kernel
theorem dX10_next_145 : decode cX10_next 145 = .ok (.iconst 2, 1) := by decide +kernel
theorem dX10_next_146 : decode cX10_next 146 = .ok (.putfield 235, 3) := by decide +kernel
theorem dX10_next_149 : decode cX10_next 149 = .ok (.goto 148, 3) := by decide +kernel
theorem dX10_next_152 : decode cX10_next 152 = .ok (.iload_n 1, 1) := by decide +kernel
theorem dX10_next_153 : decode cX10_next 153 = .ok (.bipush 48, 2) := by decide +kernel
theorem dX10_next_155 : decode cX10_next 155 = .ok (.bipush 57, 2) := by decide +kernel
theorem dX10_next_157 : decode cX10_next 157 = .ok (.invokestatic 146, 3) := by decide +kernel
theorem dX10_next_160 : decode cX10_next 160 = .ok (.ifCond .eq 88, 3) := by decide +kernel
theorem dX10_next_163 : decode cX10_next 163 = .ok (.iconst 0, 1) := by decide +kernel
theorem dX10_next_164 : decode cX10_next 164 = .ok (.istore_n 2, 1) := by decide +kernel
theorem dX10_next_165 : decode cX10_next 165 = .ok (.aload_n 0, 1) := by decide +kernel
theorem dX10_next_166 : decode cX10_next 166 = .ok (.iconst 0, 1) := by decide +kernel
theorem dX10_next_167 : decode cX10_next 167 = .ok (.putfield 228, 3) := by decide +kernel
theorem dX10_next_170 : decode cX10_next 170 = .ok (.aload_n 0, 1) := by decide +kernel
theorem dX10_next_171 : decode cX10_next 171 = .ok (.invokevirtual 222, 3) := by decide +kernel
theorem dX10_next_174 : decode cX10_next 174 = .ok (.bipush 48, 2) := by decide +kernel
theorem dX10_next_176 : decode cX10_next 176 = .ok (.bipush 57, 2) := by decide +kernel
theorem dX10_next_178 : decode cX10_next 178 = .ok (.invokestatic 146, 3) := by decide +kernel
theorem dX10_next_181 : decode cX10_next 181 = .ok (.ifCond .eq 50, 3) := by decide +kernel
theorem dX10_next_184 : decode cX10_next 184 = .ok (.aload_n 0, 1) := by decide +kernel
theorem dX10_next_185 : decode cX10_next 185 = .ok (.iload_n 2, 1) := by decide +kernel
theorem dX10_next_186 : decode cX10_next 186 = .ok (.iconst 4, 1) := by decide +kernel
theorem dX10_next_187 : decode cX10_next 187 = .ok (.if_icmp .ge 21, 3) := by decide +kernel
theorem dX10_next_190 : decode cX10_next 190 = .ok (.bipush 10, 2) := by decide +kernel
theorem dX10_next_192 : decode cX10_next 192 = .ok (.aload_n 0, 1) := by decide +kernel
theorem dX10_next_193 : decode cX10_next 193 = .ok (.getfield 228, 3) := by decide +kernel
theorem dX10_next_196 : decode cX10_next 196 = .ok (.imul, 1) := by decide +kernel
theorem dX10_next_197 : decode cX10_next 197 = .ok (.aload_n 0, 1) := by decide +kernel
theorem dX10_next_198 : decode cX10_next 198 = .ok (.invokevirtual 222, 3) := by decide +kernel
theorem dX10_next_201 : decode cX10_next 201 = .ok (.iadd, 1) := by decide +kernel
theorem dX10_next_202 : decode cX10_next 202 = .ok (.bipush 48, 2) := by decide +kernel
theorem dX10_next_204 : decode cX10_next 204 = .ok (.isub, 1) := by decide +kernel
theorem dX10_next_205 : decode cX10_next 205 = .ok (.goto 7, 3) := by decide +kernel
theorem dX10_next_208 : decode cX10_next 208 = .ok (.aload_n 0, 1) := by decide +kernel
theorem dX10_next_209 : decode cX10_next 209 = .ok (.getfield 228, 3) := by decide +kernel
theorem dX10_next_212 : decode cX10_next 212 = .ok (.putfield 228, 3) := by decide +kernel
theorem dX10_next_215 : decode cX10_next 215 = .ok (.aload_n 0, 1) := by decide +kernel
theorem dX10_next_216 : decode cX10_next 216 = .ok (.dup, 1) := by decide +kernel
theorem dX10_next_217 : decode cX10_next 217 = .ok (.getfield 216, 3) := by decide +kernel
theorem dX10_next_220 : decode cX10_next 220 = .ok (.iconst 1, 1) := by decide +kernel
theorem dX10_next_221 : decode cX10_next 221 = .ok (.iadd, 1) := by decide +kernel
theorem dX10_next_222 : decode cX10_next 222 = .ok (.putfield 216, 3) := by decide +kernel
theorem dX10_next_225 : decode cX10_next 225 = .ok (.iinc 2 1, 3) := by decide +kernel
theorem dX10_next_228 : decode cX10_next 228 = .ok (.goto (-58), 3) := by decide +kernel
theorem dX10_next_231 : decode cX10_next 231 = .ok (.aload_n 0, 1) := by decide +kernel
theorem dX10_next_232 : decode cX10_next 232 = .ok (.iload_n 2, 1) := by decide +kernel
theorem dX10_next_233 : decode cX10_next 233 = .ok (.iconst 4, 1) := by decide +kernel
theorem dX10_next_234 : decode cX10_next 234 = .ok (.if_icmp .le 7, 3) := by decide +kernel
theorem dX10_next_237 : decode cX10_next 237 = .ok (.iconst 1, 1) := by decide +kernel
theorem dX10_next_238 : decode cX10_next 238 = .ok (.goto 4, 3) := by decide +kernel
theorem dX10_next_241 : decode cX10_next 241 = .ok (.iconst 3, 1) := by decide +kernel
theorem dX10_next_242 : decode cX10_next 242 = .ok (.putfield 235, 3) := by decide +kernel
theorem dX10_next_245 : decode cX10_next 245 = .ok (.goto 52, 3) := by decide +kernel
theorem dX10_next_248 : decode cX10_next 248 = .ok (.aload_n 0, 1) := by decide +kernel
theorem dX10_next_249 : decode cX10_next 249 = .ok (.dup, 1) := by decide +kernel
theorem dX10_next_250 : decode cX10_next 250 = .ok (.getfield 216, 3) := by decide +kernel
theorem dX10_next_253 : decode cX10_next 253 = .ok (.iconst 1, 1) := by decide +kernel
theorem dX10_next_254 : decode cX10_next 254 = .ok (.iadd, 1) := by decide +kernel
theorem dX10_next_255 : decode cX10_next 255 = .ok (.putfield 216, 3) := by decide +kernel
theorem dX10_next_258 : decode cX10_next 258 = .ok (.aload_n 0, 1) := by decide +kernel
theorem dX10_next_259 : decode cX10_next 259 = .ok (.iload_n 1, 1) := by decide +kernel
theorem dX10_next_260 : decode cX10_next 260 = .ok (.bipush 58, 2) := by decide +kernel
theorem dX10_next_262 : decode cX10_next 262 = .ok (.if_icmp .eq 27, 3) := by decide +kernel
theorem dX10_next_265 : decode cX10_next 265 = .ok (.iload_n 1, 1) := by decide +kernel
theorem dX10_next_266 : decode cX10_next 266 = .ok (.bipush 59, 2) := by decide +kernel
theorem dX10_next_268 : decode cX10_next 268 = .ok (.if_icmp .eq 21, 3) := by decide +kernel
theorem dX10_next_271 : decode cX10_next 271 = .ok (.iload_n 1, 1) := by decide +kernel
theorem dX10_next_272 : decode cX10_next 272 = .ok (.bipush 60, 2) := by decide +kernel
theorem dX10_next_274 : decode cX10_next 274 = .ok (.if_icmp .eq 15, 3) := by decide +kernel
theorem dX10_next_277 : decode cX10_next 277 = .ok (.iload_n 1, 1) := by decide +kernel
theorem dX10_next_278 : decode cX10_next 278 = .ok (.bipush 62, 2) := by decide +kernel
theorem dX10_next_280 : decode cX10_next 280 = .ok (.if_icmp .eq 9, 3) := by decide +kernel
theorem dX10_next_283 : decode cX10_next 283 = .ok (.iload_n 1, 1) := by decide +kernel
theorem dX10_next_284 : decode cX10_next 284 = .ok (.bipush 61, 2) := by decide +kernel
theorem dX10_next_286 : decode cX10_next 286 = .ok (.if_icmp .ne 7, 3) := by decide +kernel
theorem dX10_next_289 : decode cX10_next 289 = .ok (.iconst 4, 1) := by decide +kernel
theorem dX10_next_290 : decode cX10_next 290 = .ok (.goto 4, 3) := by decide +kernel
theorem dX10_next_293 : decode cX10_next 293 = .ok (.iconst 1, 1) := by decide +kernel
theorem dX10_next_294 : decode cX10_next 294 = .ok (.putfield 235, 3) := by decide +kernel
theorem dX10_next_297 : decode cX10_next 297 = .ok (.return_, 1) := by decide +kernel
set_option maxRecDepth 20000 in
theorem ggX10_contract_X10_next : GoodIn wsX10_contract wsX10_next := goodIn_r _ [27, 4, 28, 29, 30, 9, 31, 32, 33, 26, 34, 3, 35, 36, 37, 38, 79, 80, 81, 82, 83, 84, 85, 86, 87, 88, 89, 90, 91, 92, 93, 94, 95, 96, 97, 98, 99, 100, 101, 102, 103, 104, 105, 106, 107, 108, 109, 110, 111, 112, 113, 114, 115, 116, 117, 118, 119, 120, 121, 122, 123, 124, 125, 126, 127, 128, 129, 130, 131] (by decide +kernel) (by decide +kernel)
set_option maxRecDepth 20000 in
theorem gX10_contract_X10_next : GoodIn wsX10_contract (wsV RX10 251 RX10 yX10_next wsX10_next) := goodIn_app (goodIn_of _ (by decide +kernel)) ggX10_contract_X10_next
theorem dX10_contract_0 : decode cX10_contract 0 = .ok (.aload_n 0, 1) := by decide +kernel
theorem dX10_contract_1 : decode cX10_contract 1 = .ok (.iconst 0, 1) := by decide +kernel
theorem dX10_contract_2 : decode cX10_contract 2 = .ok (.putfield 139, 3) := by decide +kernel
theorem dX10_contract_5 : decode cX10_contract 5 = .ok (.aload_n 0, 1) := by decide +kernel
theorem dX10_contract_6 : decode cX10_contract 6 = .ok (.aload_n 0, 1) := by decide +kernel
theorem dX10_contract_7 : decode cX10_contract 7 = .ok (.getfield 209, 3) := by decide +kernel
theorem dX10_contract_10 : decode cX10_contract 10 = .ok (.putfield 219, 3) := by decide +kernel
theorem dX10_contract_13 : decode cX10_contract 13 = .ok (.aload_n 0, 1) := by decide +kernel
theorem dX10_contract_14 : decode cX10_contract 14 = .ok (.iconst 0, 1) := by decide +kernel
theorem dX10_contract_15 : decode cX10_contract 15 = .ok (.putfield 209, 3) := by decide +kernel
theorem dX10_contract_18 : decode cX10_contract 18 = .ok (.aload_n 0, 1) := by decide +kernel
theorem dX10_contract_19 : decode cX10_contract 19 = .ok (.iconst 0, 1) := by decide +kernel
theorem dX10_contract_20 : decode cX10_contract 20 = .ok (.putfield 216, 3) := by decide +kernel
theorem dX10_contract_23 : decode cX10_contract 23 = .ok (.aload_n 0, 1) := by decide +kernel
theorem dX10_contract_24 : decode cX10_contract 24 = .ok (.iconst 0, 1) := by decide +kernel
theorem dX10_contract_25 : decode cX10_contract 25 = .ok (.putfield 238, 3) := by decide +kernel
theorem dX10_contract_28 : decode cX10_contract 28 = .ok (.aload_n 0, 1) := by decide +kernel
theorem dX10_contract_29 : decode cX10_contract 29 = .ok (.iconst (-1), 1) := by decide +kernel
theorem dX10_contract_30 : decode cX10_contract 30 = .ok (.putfield 113, 3) := by decide +kernel
theorem dX10_contract_33 : decode cX10_contract 33 = .ok (.aload_n 0, 1) := by decide +kernel
theorem dX10_contract_34 : decode cX10_contract 34 = .ok (.iconst (-1), 1) := by decide +kernel
theorem dX10_contract_35 : decode cX10_contract 35 = .ok (.putfield 241, 3) := by decide +kernel
theorem dX10_contract_38 : decode cX10_contract 38 = .ok (.aload_n 0, 1) := by decide +kernel
theorem dX10_contract_39 : decode cX10_contract 39 = .ok (.iconst 0, 1) := by decide +kernel
theorem dX10_contract_40 : decode cX10_contract 40 = .ok (.putfield 254, 3) := by decide +kernel
theorem dX10_contract_43 : decode cX10_contract 43 = .ok (.iconst 1, 1) := by decide +kernel
theorem dX10_contract_44 : decode cX10_contract 44 = .ok (.istore_n 1, 1) := by decide +kernel
theorem dX10_contract_45 : decode cX10_contract 45 = .ok (.aload_n 0, 1) := by decide +kernel
theorem dX10_contract_46 : decode cX10_contract 46 = .ok (.invokevirtual 251, 3) := by decide +kernel
end
section
theorem dX10_contract_49 : decode cX10_contract 49 = .ok (.iload_n 1, 1) := by decide +kernel
theorem dX10_contract_50 : decode cX10_contract 50 = .ok (.ifCond .eq 18, 3) := by decide +kernel
theorem dX10_contract_53 : decode cX10_contract 53 = .ok (.aload_n 0, 1) := by decide +kernel
theorem dX10_contract_54 : decode cX10_contract 54 = .ok (.getfield 235, 3) := by decide +kernel
theorem dX10_contract_57 : decode cX10_contract 57 = .ok (.ifCond .eq 11, 3) := by decide +kernel
theorem dX10_contract_60 : decode cX10_contract 60 = .ok (.aload_n 0, 1) := by decide +kernel
theorem dX10_contract_61 : decode cX10_contract 61 = .ok (.invokevirtual 294, 3) := by decide +kernel
theorem dX10_contract_64 : decode cX10_contract 64 = .ok (.istore_n 1, 1) := by decide +kernel
theorem dX10_contract_65 : decode cX10_contract 65 = .ok (.goto (-16), 3) := by decide +kernel
theorem dX10_contract_68 : decode cX10_contract 68 = .ok (.aload_n 0, 1) := by decide +kernel
theorem dX10_contract_69 : decode cX10_contract 69 = .ok (.getfield 238, 3) := by decide +kernel
theorem dX10_contract_72 : decode cX10_contract 72 = .ok (.ifCond .ne 24, 3) := by decide +kernel
theorem dX10_contract_75 : decode cX10_contract 75 = .ok (.aload_n 0, 1) := by decide +kernel
theorem dX10_contract_76 : decode cX10_contract 76 = .ok (.getfield 241, 3) := by decide +kernel
theorem dX10_contract_79 : decode cX10_contract 79 = .ok (.iconst (-1), 1) := by decide +kernel
theorem dX10_contract_80 : decode cX10_contract 80 = .ok (.if_icmp .eq 16, 3) := by decide +kernel
theorem dX10_contract_83 : decode cX10_contract 83 = .ok (.aload_n 0, 1) := by decide +kernel
theorem dX10_contract_84 : decode cX10_contract 84 = .ok (.iconst 3, 1) := by decide +kernel
theorem dX10_contract_85 : decode cX10_contract 85 = .ok (.putfield 238, 3) := by decide +kernel
theorem dX10_contract_88 : decode cX10_contract 88 = .ok (.aload_n 0, 1) := by decide +kernel
theorem dX10_contract_89 : decode cX10_contract 89 = .ok (.aload_n 0, 1) := by decide +kernel
theorem dX10_contract_90 : decode cX10_contract 90 = .ok (.getfield 241, 3) := by decide +kernel
theorem dX10_contract_93 : decode cX10_contract 93 = .ok (.putfield 113, 3) := by decide +kernel
theorem dX10_contract_96 : decode cX10_contract 96 = .ok (.aload_n 0, 1) := by decide +kernel
theorem dX10_contract_97 : decode cX10_contract 97 = .ok (.getfield 238, 3) := by decide +kernel
theorem dX10_contract_100 : decode cX10_contract 100 = .ok (.ifCond .le 5, 3) := by decide +kernel
theorem dX10_contract_103 : decode cX10_contract 103 = .ok (.iconst (-1), 1) := by decide +kernel
theorem dX10_contract_104 : decode cX10_contract 104 = .ok (.ireturn, 1) := by decide +kernel
theorem dX10_contract_105 : decode cX10_contract 105 = .ok (.aload_n 0, 1) := by decide +kernel
theorem dX10_contract_106 : decode cX10_contract 106 = .ok (.getfield 86, 3) := by decide +kernel
theorem dX10_contract_109 : decode cX10_contract 109 = .ok (.iconst 0, 1) := by decide +kernel
theorem dX10_contract_110 : decode cX10_contract 110 = .ok (.aload_n 0, 1) := by decide +kernel
theorem dX10_contract_111 : decode cX10_contract 111 = .ok (.getfield 254, 3) := by decide +kernel
theorem dX10_contract_114 : decode cX10_contract 114 = .ok (.iastore, 1) := by decide +kernel
theorem dX10_contract_115 : decode cX10_contract 115 = .ok (.iconst 0, 1) := by decide +kernel
theorem dX10_contract_116 : decode cX10_contract 116 = .ok (.istore_n 2, 1) := by decide +kernel
theorem dX10_contract_117 : decode cX10_contract 117 = .ok (.iload_n 2, 1) := by decide +kernel
theorem dX10_contract_118 : decode cX10_contract 118 = .ok (.aload_n 0, 1) := by decide +kernel
theorem dX10_contract_119 : decode cX10_contract 119 = .ok (.getfield 254, 3) := by decide +kernel
theorem dX10_contract_122 : decode cX10_contract 122 = .ok (.if_icmp .ge 105, 3) := by decide +kernel
theorem dX10_contract_125 : decode cX10_contract 125 = .ok (.aload_n 0, 1) := by decide +kernel
theorem dX10_contract_126 : decode cX10_contract 126 = .ok (.getfield 89, 3) := by decide +kernel
theorem dX10_contract_129 : decode cX10_contract 129 = .ok (.iload_n 2, 1) := by decide +kernel
theorem dX10_contract_130 : decode cX10_contract 130 = .ok (.aload_n 0, 1) := by decide +kernel
theorem dX10_contract_131 : decode cX10_contract 131 = .ok (.getfield 117, 3) := by decide +kernel
theorem dX10_contract_134 : decode cX10_contract 134 = .ok (.iload_n 2, 1) := by decide +kernel
theorem dX10_contract_135 : decode cX10_contract 135 = .ok (.iaload, 1) := by decide +kernel
theorem dX10_contract_136 : decode cX10_contract 136 = .ok (.iastore, 1) := by decide +kernel
theorem dX10_contract_137 : decode cX10_contract 137 = .ok (.aload_n 0, 1) := by decide +kernel
theorem dX10_contract_138 : decode cX10_contract 138 = .ok (.getfield 101, 3) := by decide +kernel
theorem dX10_contract_141 : decode cX10_contract 141 = .ok (.iload_n 2, 1) := by decide +kernel
theorem dX10_contract_142 : decode cX10_contract 142 = .ok (.aload_n 0, 1) := by decide +kernel
theorem dX10_contract_143 : decode cX10_contract 143 = .ok (.getfield 129, 3) := by decide +kernel
theorem dX10_contract_146 : decode cX10_contract 146 = .ok (.iload_n 2, 1) := by decide +kernel
theorem dX10_contract_147 : decode cX10_contract 147 = .ok (.iaload, 1) := by decide +kernel
theorem dX10_contract_148 : decode cX10_contract 148 = .ok (.iastore, 1) := by decide +kernel
theorem dX10_contract_149 : decode cX10_contract 149 = .ok (.aload_n 0, 1) := by decide +kernel
theorem dX10_contract_150 : decode cX10_contract 150 = .ok (.getfield 104, 3) := by decide +kernel
theorem dX10_contract_153 : decode cX10_contract 153 = .ok (.iload_n 2, 1) := by decide +kernel
theorem dX10_contract_154 : decode cX10_contract 154 = .ok (.aload_n 0, 1) := by decide +kernel
theorem dX10_contract_155 : decode cX10_contract 155 = .ok (.getfield 132, 3) := by decide +kernel
theorem dX10_contract_158 : decode cX10_contract 158 = .ok (.iload_n 2, 1) := by decide +kernel
theorem dX10_contract_159 : decode cX10_contract 159 = .ok (.iaload, 1) := by decide +kernel
theorem dX10_contract_160 : decode cX10_contract 160 = .ok (.iastore, 1) := by decide +kernel
theorem dX10_contract_161 : decode cX10_contract 161 = .ok (.iconst 4, 1) := by decide +kernel
theorem dX10_contract_162 : decode cX10_contract 162 = .ok (.iload_n 2, 1) := by decide +kernel
theorem dX10_contract_163 : decode cX10_contract 163 = .ok (.imul, 1) := by decide +kernel
theorem dX10_contract_164 : decode cX10_contract 164 = .ok (.istore_n 3, 1) := by decide +kernel
theorem dX10_contract_165 : decode cX10_contract 165 = .ok (.iload_n 3, 1) := by decide +kernel
theorem dX10_contract_166 : decode cX10_contract 166 = .ok (.iconst 4, 1) := by decide +kernel
theorem dX10_contract_167 : decode cX10_contract 167 = .ok (.iload_n 2, 1) := by decide +kernel
theorem dX10_contract_168 : decode cX10_contract 168 = .ok (.imul, 1) := by decide +kernel
theorem dX10_contract_169 : decode cX10_contract 169 = .ok (.aload_n 0, 1) := by decide +kernel
theorem dX10_contract_170 : decode cX10_contract 170 = .ok (.getfield 117, 3) := by decide +kernel
theorem dX10_contract_173 : decode cX10_contract 173 = .ok (.iload_n 2, 1) := by decide +kernel
theorem dX10_contract_174 : decode cX10_contract 174 = .ok (.iaload, 1) := by decide +kernel
theorem dX10_contract_175 : decode cX10_contract 175 = .ok (.iadd, 1) := by decide +kernel
theorem dX10_contract_176 : decode cX10_contract 176 = .ok (.if_icmp .ge 45, 3) := by decide +kernel
theorem dX10_contract_179 : decode cX10_contract 179 = .ok (.aload_n 0, 1) := by decide +kernel
theorem dX10_contract_180 : decode cX10_contract 180 = .ok (.getfield 92, 3) := by decide +kernel
theorem dX10_contract_183 : decode cX10_contract 183 = .ok (.iload_n 3, 1) := by decide +kernel
theorem dX10_contract_184 : decode cX10_contract 184 = .ok (.aload_n 0, 1) := by decide +kernel
theorem dX10_contract_185 : decode cX10_contract 185 = .ok (.getfield 120, 3) := by decide +kernel
theorem dX10_contract_188 : decode cX10_contract 188 = .ok (.iload_n 3, 1) := by decide +kernel
theorem dX10_contract_189 : decode cX10_contract 189 = .ok (.iaload, 1) := by decide +kernel
theorem dX10_contract_190 : decode cX10_contract 190 = .ok (.iastore, 1) := by decide +kernel
theorem dX10_contract_191 : decode cX10_contract 191 = .ok (.aload_n 0, 1) := by decide +kernel
theorem dX10_contract_192 : decode cX10_contract 192 = .ok (.getfield 95, 3) := by decide +kernel
theorem dX10_contract_195 : decode cX10_contract 195 = .ok (.iload_n 3, 1) := by decide +kernel
theorem dX10_contract_196 : decode cX10_contract 196 = .ok (.aload_n 0, 1) := by decide +kernel
theorem dX10_contract_197 : decode cX10_contract 197 = .ok (.getfield 123, 3) := by decide +kernel
theorem dX10_contract_200 : decode cX10_contract 200 = .ok (.iload_n 3, 1) := by decide +kernel
theorem dX10_contract_201 : decode cX10_contract 201 = .ok (.iaload, 1) := by decide +kernel
theorem dX10_contract_202 : decode cX10_contract 202 = .ok (.iastore, 1) := by decide +kernel
theorem dX10_contract_203 : decode cX10_contract 203 = .ok (.aload_n 0, 1) := by decide +kernel
theorem dX10_contract_204 : decode cX10_contract 204 = .ok (.getfield 98, 3) := by decide +kernel
theorem dX10_contract_207 : decode cX10_contract 207 = .ok (.iload_n 3, 1) := by decide +kernel
theorem dX10_contract_208 : decode cX10_contract 208 = .ok (.aload_n 0, 1) := by decide +kernel
theorem dX10_contract_209 : decode cX10_contract 209 = .ok (.getfield 126, 3) := by decide +kernel
theorem dX10_contract_212 : decode cX10_contract 212 = .ok (.iload_n 3, 1) := by decide +kernel
theorem dX10_contract_213 : decode cX10_contract 213 = .ok (.iaload, 1) := by decide +kernel
theorem dX10_contract_214 : decode cX10_contract 214 = .ok (.iastore, 1) := by decide +kernel
theorem dX10_contract_215 : decode cX10_contract 215 = .ok (.iinc 3 1, 3) := by decide +kernel
theorem dX10_contract_218 : decode cX10_contract 218 = .ok (.goto (-53), 3) := by decide +kernel
theorem dX10_contract_221 : decode cX10_contract 221 = .ok (.iinc 2 1, 3) := by decide +kernel
theorem dX10_contract_224 : decode cX10_contract 224 = .ok (.goto (-107), 3) := by decide +kernel
theorem dX10_contract_227 : decode cX10_contract 227 = .ok (.aload_n 0, 1) := by decide +kernel
theorem dX10_contract_228 : decode cX10_contract 228 = .ok (.getfield 254, 3) := by decide +kernel
theorem dX10_contract_231 : decode cX10_contract 231 = .ok (.ireturn, 1) := by decide +kernel
theorem dX10_fault_0 : decode cX10_fault 0 = .ok (.aload_n 0, 1) := by decide +kernel
theorem dX10_fault_1 : decode cX10_fault 1 = .ok (.iconst 0, 1) := by decide +kernel
theorem dX10_fault_2 : decode cX10_fault 2 = .ok (.putfield 139, 3) := by decide +kernel
theorem dX10_fault_5 : decode cX10_fault 5 = .ok (.iload_n 1, 1) := by decide +kernel
theorem dX10_fault_6 : decode cX10_fault 6 = .ok (.ifCond .ne 10, 3) := by decide +kernel
theorem dX10_fault_9 : decode cX10_fault 9 = .ok (.aload_n 0, 1) := by decide +kernel
theorem dX10_fault_10 : decode cX10_fault 10 = .ok (.getfield 238, 3) := by decide +kernel
theorem dX10_fault_13 : decode cX10_fault 13 = .ok (.goto 16, 3) := by decide +kernel
theorem dX10_fault_16 : decode cX10_fault 16 = .ok (.iload_n 1, 1) := by decide +kernel
theorem dX10_fault_17 : decode cX10_fault 17 = .ok (.iconst 1, 1) := by decide +kernel
theorem dX10_fault_18 : decode cX10_fault 18 = .ok (.if_icmp .ne 10, 3) := by decide +kernel
theorem dX10_fault_21 : decode cX10_fault 21 = .ok (.aload_n 0, 1) := by decide +kernel
theorem dX10_fault_22 : decode cX10_fault 22 = .ok (.getfield 113, 3) := by decide +kernel
theorem dX10_fault_25 : decode cX10_fault 25 = .ok (.goto 4, 3) := by decide +kernel
theorem dX10_fault_28 : decode cX10_fault 28 = .ok (.iconst (-1), 1) := by decide +kernel
theorem dX10_fault_29 : decode cX10_fault 29 = .ok (.ireturn, 1) := by decide +kernel
set_option maxRecDepth 20000 in
theorem ggX10_cost_X10_isRun : GoodIn wsX10_cost wsX10_isRun := goodIn_r _ [7, 8, 9, 10, 6, 11, 51, 52, 53, 54, 55, 56, 57, 58, 59, 60, 61, 62, 63, 64, 65, 66, 67, 68, 69, 70, 71, 72, 73, 74, 75, 76, 77, 78, 79, 80, 81, 82, 83, 84, 85, 86, 87, 88, 89, 90, 91, 92, 93, 94, 95, 96, 97, 98, 99, 100, 101, 102, 103] (by decide +kernel) (by decide +kernel)
set_option maxRecDepth 20000 in
theorem gX10_cost_X10_isRun : GoodIn wsX10_cost (wsV RX10 166 RX10 yX10_isRun wsX10_isRun) := goodIn_app (goodIn_of _ (by decide +kernel)) ggX10_cost_X10_isRun
set_option maxRecDepth 20000 in
theorem ggX10_cost_X10_in : GoodIn wsX10_cost wsX10_in := goodIn_r _ [11] (by decide +kernel) (by decide +kernel)
set_option maxRecDepth 20000 in
theorem gX10_cost_X10_in : GoodIn wsX10_cost (va_wsS RX10 146 yX10_in wsX10_in) := goodIn_app (goodIn_of _ (by decide +kernel)) ggX10_cost_X10_in
theorem dX10_cost_0 : decode cX10_cost 0 = .ok (.aload_n 0, 1) := by decide +kernel
theorem dX10_cost_1 : decode cX10_cost 1 = .ok (.iconst 0, 1) := by decide +kernel
theorem dX10_cost_2 : decode cX10_cost 2 = .ok (.putfield 139, 3) := by decide +kernel
theorem dX10_cost_5 : decode cX10_cost 5 = .ok (.aload_n 0, 1) := by decide +kernel
theorem dX10_cost_6 : decode cX10_cost 6 = .ok (.iload_n 1, 1) := by decide +kernel
theorem dX10_cost_7 : decode cX10_cost 7 = .ok (.invokevirtual 166, 3) := by decide +kernel
theorem dX10_cost_10 : decode cX10_cost 10 = .ok (.ifCond .eq 19, 3) := by decide +kernel
theorem dX10_cost_13 : decode cX10_cost 13 = .ok (.iload_n 2, 1) := by decide +kernel
theorem dX10_cost_14 : decode cX10_cost 14 = .ok (.iconst (-1), 1) := by decide +kernel
theorem dX10_cost_15 : decode cX10_cost 15 = .ok (.aload_n 0, 1) := by decide +kernel
theorem dX10_cost_16 : decode cX10_cost 16 = .ok (.getfield 13, 3) := by decide +kernel
theorem dX10_cost_19 : decode cX10_cost 19 = .ok (.iconst 0, 1) := by decide +kernel
theorem dX10_cost_20 : decode cX10_cost 20 = .ok (.iaload, 1) := by decide +kernel
theorem dX10_cost_21 : decode cX10_cost 21 = .ok (.iconst 2, 1) := by decide +kernel
theorem dX10_cost_22 : decode cX10_cost 22 = .ok (.isub, 1) := by decide +kernel
theorem dX10_cost_23 : decode cX10_cost 23 = .ok (.invokestatic 146, 3) := by decide +kernel
theorem dX10_cost_26 : decode cX10_cost 26 = .ok (.ifCond .ne 5, 3) := by decide +kernel
theorem dX10_cost_29 : decode cX10_cost 29 = .ok (.lconst 0, 1) := by decide +kernel
theorem dX10_cost_30 : decode cX10_cost 30 = .ok (.lreturn, 1) := by decide +kernel
theorem dX10_cost_31 : decode cX10_cost 31 = .ok (.lconst 0, 1) := by decide +kernel
theorem dX10_cost_32 : decode cX10_cost 32 = .ok (.lstore_n 3, 1) := by decide +kernel
theorem dX10_cost_33 : decode cX10_cost 33 = .ok (.iconst 0, 1) := by decide +kernel
theorem dX10_cost_34 : decode cX10_cost 34 = .ok (.istore 5, 2) := by decide +kernel
theorem dX10_cost_36 : decode cX10_cost 36 = .ok (.iload 5, 2) := by decide +kernel
theorem dX10_cost_38 : decode cX10_cost 38 = .ok (.aload_n 0, 1) := by decide +kernel
theorem dX10_cost_39 : decode cX10_cost 39 = .ok (.getfield 13, 3) := by decide +kernel
theorem dX10_cost_42 : decode cX10_cost 42 = .ok (.iconst 0, 1) := by decide +kernel
theorem dX10_cost_43 : decode cX10_cost 43 = .ok (.iaload, 1) := by decide +kernel
theorem dX10_cost_44 : decode cX10_cost 44 = .ok (.iconst 1, 1) := by decide +kernel
theorem dX10_cost_45 : decode cX10_cost 45 = .ok (.isub, 1) := by decide +kernel
theorem dX10_cost_46 : decode cX10_cost 46 = .ok (.if_icmp .ge 34, 3) := by decide +kernel
theorem dX10_cost_49 : decode cX10_cost 49 = .ok (.lload_n 3, 1) := by decide +kernel
theorem dX10_cost_50 : decode cX10_cost 50 = .ok (.iload_n 2, 1) := by decide +kernel
theorem dX10_cost_51 : decode cX10_cost 51 = .ok (.iconst (-1), 1) := by decide +kernel
theorem dX10_cost_52 : decode cX10_cost 52 = .ok (.if_icmp .eq 9, 3) := by decide +kernel
theorem dX10_cost_55 : decode cX10_cost 55 = .ok (.iload_n 2, 1) := by decide +kernel
theorem dX10_cost_56 : decode cX10_cost 56 = .ok (.iload 5, 2) := by decide +kernel
theorem dX10_cost_58 : decode cX10_cost 58 = .ok (.if_icmp .ne 13, 3) := by decide +kernel
theorem dX10_cost_61 : decode cX10_cost 61 = .ok (.aload_n 0, 1) := by decide +kernel
theorem dX10_cost_62 : decode cX10_cost 62 = .ok (.iload_n 1, 1) := by decide +kernel
theorem dX10_cost_63 : decode cX10_cost 63 = .ok (.iload 5, 2) := by decide +kernel
theorem dX10_cost_65 : decode cX10_cost 65 = .ok (.invokevirtual 305, 3) := by decide +kernel
theorem dX10_cost_68 : decode cX10_cost 68 = .ok (.goto 4, 3) := by decide +kernel
theorem dX10_cost_71 : decode cX10_cost 71 = .ok (.lconst 0, 1) := by decide +kernel
theorem dX10_cost_72 : decode cX10_cost 72 = .ok (.ladd, 1) := by decide +kernel
theorem dX10_cost_73 : decode cX10_cost 73 = .ok (.lstore_n 3, 1) := by decide +kernel
theorem dX10_cost_74 : decode cX10_cost 74 = .ok (.iinc 5 1, 3) := by decide +kernel
theorem dX10_cost_77 : decode cX10_cost 77 = .ok (.goto (-41), 3) := by decide +kernel
theorem dX10_cost_80 : decode cX10_cost 80 = .ok (.lload_n 3, 1) := by decide +kernel
theorem dX10_cost_81 : decode cX10_cost 81 = .ok (.lreturn, 1) := by decide +kernel
set_option maxRecDepth 20000 in
theorem ggX10_cars_X10_in : GoodIn wsX10_cars wsX10_in := goodIn_r _ [6] (by decide +kernel) (by decide +kernel)
set_option maxRecDepth 20000 in
theorem gX10_cars_X10_in : GoodIn wsX10_cars (va_wsS RX10 146 yX10_in wsX10_in) := goodIn_app (goodIn_of _ (by decide +kernel)) ggX10_cars_X10_in
set_option maxRecDepth 20000 in
theorem ggX10_cars_X10_upTo : GoodIn wsX10_cars wsX10_upTo := goodIn_r _ [10, 11, 12, 13, 14, 15, 16, 17, 18, 19, 20, 21, 22, 23, 24, 25, 26, 27, 28, 29, 30, 31, 32, 33, 34, 35, 36, 37, 38, 39, 40, 41, 42, 43, 44, 45, 46, 47, 48, 49, 50, 51, 52, 53, 54, 55, 56, 57, 58, 59, 60, 61, 62, 63, 64] (by decide +kernel) (by decide +kernel)
set_option maxRecDepth 20000 in
theorem gX10_cars_X10_upTo : GoodIn wsX10_cars (wsV RX10 150 RX10 yX10_upTo wsX10_upTo) := goodIn_app (goodIn_of _ (by decide +kernel)) ggX10_cars_X10_upTo
theorem dX10_cars_0 : decode cX10_cars 0 = .ok (.aload_n 0, 1) := by decide +kernel
theorem dX10_cars_1 : decode cX10_cars 1 = .ok (.iconst 0, 1) := by decide +kernel
theorem dX10_cars_2 : decode cX10_cars 2 = .ok (.putfield 139, 3) := by decide +kernel
theorem dX10_cars_5 : decode cX10_cars 5 = .ok (.iload_n 2, 1) := by decide +kernel
theorem dX10_cars_6 : decode cX10_cars 6 = .ok (.iconst 0, 1) := by decide +kernel
theorem dX10_cars_7 : decode cX10_cars 7 = .ok (.bipush 48, 2) := by decide +kernel
theorem dX10_cars_9 : decode cX10_cars 9 = .ok (.invokestatic 146, 3) := by decide +kernel
theorem dX10_cars_12 : decode cX10_cars 12 = .ok (.ifCond .eq 7, 3) := by decide +kernel
theorem dX10_cars_15 : decode cX10_cars 15 = .ok (.iload_n 1, 1) := by decide +kernel
theorem dX10_cars_16 : decode cX10_cars 16 = .ok (.ifCond .ge 5, 3) := by decide +kernel
theorem dX10_cars_19 : decode cX10_cars 19 = .ok (.iconst (-1), 1) := by decide +kernel
theorem dX10_cars_20 : decode cX10_cars 20 = .ok (.ireturn, 1) := by decide +kernel
theorem dX10_cars_21 : decode cX10_cars 21 = .ok (.iconst 2, 1) := by decide +kernel
theorem dX10_cars_22 : decode cX10_cars 22 = .ok (.aload_n 0, 1) := by decide +kernel
theorem dX10_cars_23 : decode cX10_cars 23 = .ok (.aload_n 0, 1) := by decide +kernel
theorem dX10_cars_24 : decode cX10_cars 24 = .ok (.getfield 13, 3) := by decide +kernel
theorem dX10_cars_27 : decode cX10_cars 27 = .ok (.iconst 0, 1) := by decide +kernel
theorem dX10_cars_28 : decode cX10_cars 28 = .ok (.iaload, 1) := by decide +kernel
theorem dX10_cars_29 : decode cX10_cars 29 = .ok (.iconst 1, 1) := by decide +kernel
theorem dX10_cars_30 : decode cX10_cars 30 = .ok (.isub, 1) := by decide +kernel
theorem dX10_cars_31 : decode cX10_cars 31 = .ok (.invokevirtual 150, 3) := by decide +kernel
theorem dX10_cars_34 : decode cX10_cars 34 = .ok (.imul, 1) := by decide +kernel
theorem dX10_cars_35 : decode cX10_cars 35 = .ok (.iconst 2, 1) := by decide +kernel
theorem dX10_cars_36 : decode cX10_cars 36 = .ok (.iload_n 2, 1) := by decide +kernel
theorem dX10_cars_37 : decode cX10_cars 37 = .ok (.imul, 1) := by decide +kernel
theorem dX10_cars_38 : decode cX10_cars 38 = .ok (.iadd, 1) := by decide +kernel
theorem dX10_cars_39 : decode cX10_cars 39 = .ok (.istore_n 3, 1) := by decide +kernel
theorem dX10_cars_40 : decode cX10_cars 40 = .ok (.iconst 0, 1) := by decide +kernel
theorem dX10_cars_41 : decode cX10_cars 41 = .ok (.istore 4, 2) := by decide +kernel
theorem dX10_cars_43 : decode cX10_cars 43 = .ok (.iconst 0, 1) := by decide +kernel
theorem dX10_cars_44 : decode cX10_cars 44 = .ok (.istore 5, 2) := by decide +kernel
theorem dX10_cars_46 : decode cX10_cars 46 = .ok (.iload 5, 2) := by decide +kernel
theorem dX10_cars_48 : decode cX10_cars 48 = .ok (.bipush 30, 2) := by decide +kernel
theorem dX10_cars_50 : decode cX10_cars 50 = .ok (.if_icmp .ge 87, 3) := by decide +kernel
theorem dX10_cars_53 : decode cX10_cars 53 = .ok (.iconst 0, 1) := by decide +kernel
theorem dX10_cars_54 : decode cX10_cars 54 = .ok (.istore 6, 2) := by decide +kernel
theorem dX10_cars_56 : decode cX10_cars 56 = .ok (.iconst 0, 1) := by decide +kernel
theorem dX10_cars_57 : decode cX10_cars 57 = .ok (.istore 7, 2) := by decide +kernel
theorem dX10_cars_59 : decode cX10_cars 59 = .ok (.iload 7, 2) := by decide +kernel
theorem dX10_cars_61 : decode cX10_cars 61 = .ok (.iload 5, 2) := by decide +kernel
theorem dX10_cars_63 : decode cX10_cars 63 = .ok (.if_icmp .gt 52, 3) := by decide +kernel
theorem dX10_cars_66 : decode cX10_cars 66 = .ok (.iload_n 1, 1) := by decide +kernel
theorem dX10_cars_67 : decode cX10_cars 67 = .ok (.iload 5, 2) := by decide +kernel
theorem dX10_cars_69 : decode cX10_cars 69 = .ok (.ishr, 1) := by decide +kernel
theorem dX10_cars_70 : decode cX10_cars 70 = .ok (.iconst 1, 1) := by decide +kernel
theorem dX10_cars_71 : decode cX10_cars 71 = .ok (.iand, 1) := by decide +kernel
theorem dX10_cars_72 : decode cX10_cars 72 = .ok (.ifCond .eq 43, 3) := by decide +kernel
theorem dX10_cars_75 : decode cX10_cars 75 = .ok (.iload 6, 2) := by decide +kernel
theorem dX10_cars_77 : decode cX10_cars 77 = .ok (.iload_n 1, 1) := by decide +kernel
theorem dX10_cars_78 : decode cX10_cars 78 = .ok (.iload 7, 2) := by decide +kernel
theorem dX10_cars_80 : decode cX10_cars 80 = .ok (.ishr, 1) := by decide +kernel
theorem dX10_cars_81 : decode cX10_cars 81 = .ok (.iconst 1, 1) := by decide +kernel
theorem dX10_cars_82 : decode cX10_cars 82 = .ok (.iand, 1) := by decide +kernel
theorem dX10_cars_83 : decode cX10_cars 83 = .ok (.ifCond .eq 22, 3) := by decide +kernel
theorem dX10_cars_86 : decode cX10_cars 86 = .ok (.bipush 24, 2) := by decide +kernel
theorem dX10_cars_88 : decode cX10_cars 88 = .ok (.iload 7, 2) := by decide +kernel
theorem dX10_cars_90 : decode cX10_cars 90 = .ok (.imul, 1) := by decide +kernel
theorem dX10_cars_91 : decode cX10_cars 91 = .ok (.iload_n 3, 1) := by decide +kernel
theorem dX10_cars_92 : decode cX10_cars 92 = .ok (.iadd, 1) := by decide +kernel
theorem dX10_cars_93 : decode cX10_cars 93 = .ok (.bipush 24, 2) := by decide +kernel
theorem dX10_cars_95 : decode cX10_cars 95 = .ok (.iload 5, 2) := by decide +kernel
theorem dX10_cars_97 : decode cX10_cars 97 = .ok (.imul, 1) := by decide +kernel
theorem dX10_cars_98 : decode cX10_cars 98 = .ok (.if_icmp .le 7, 3) := by decide +kernel
theorem dX10_cars_101 : decode cX10_cars 101 = .ok (.iconst 1, 1) := by decide +kernel
theorem dX10_cars_102 : decode cX10_cars 102 = .ok (.goto 4, 3) := by decide +kernel
theorem dX10_cars_105 : decode cX10_cars 105 = .ok (.iconst 0, 1) := by decide +kernel
theorem dX10_cars_106 : decode cX10_cars 106 = .ok (.iadd, 1) := by decide +kernel
theorem dX10_cars_107 : decode cX10_cars 107 = .ok (.istore 6, 2) := by decide +kernel
theorem dX10_cars_109 : decode cX10_cars 109 = .ok (.iinc 7 1, 3) := by decide +kernel
theorem dX10_cars_112 : decode cX10_cars 112 = .ok (.goto (-53), 3) := by decide +kernel
theorem dX10_cars_115 : decode cX10_cars 115 = .ok (.iload 6, 2) := by decide +kernel
theorem dX10_cars_117 : decode cX10_cars 117 = .ok (.iload 4, 2) := by decide +kernel
theorem dX10_cars_119 : decode cX10_cars 119 = .ok (.if_icmp .le 8, 3) := by decide +kernel
theorem dX10_cars_122 : decode cX10_cars 122 = .ok (.iload 6, 2) := by decide +kernel
theorem dX10_cars_124 : decode cX10_cars 124 = .ok (.goto 5, 3) := by decide +kernel
theorem dX10_cars_127 : decode cX10_cars 127 = .ok (.iload 4, 2) := by decide +kernel
theorem dX10_cars_129 : decode cX10_cars 129 = .ok (.istore 4, 2) := by decide +kernel
theorem dX10_cars_131 : decode cX10_cars 131 = .ok (.iinc 5 1, 3) := by decide +kernel
theorem dX10_cars_134 : decode cX10_cars 134 = .ok (.goto (-88), 3) := by decide +kernel
theorem dX10_cars_137 : decode cX10_cars 137 = .ok (.iload 4, 2) := by decide +kernel
theorem dX10_cars_139 : decode cX10_cars 139 = .ok (.ireturn, 1) := by decide +kernel
set_option maxRecDepth 20000 in
theorem ggX10_count_X10_runs : GoodIn wsX10_count wsX10_runs := goodIn_r _ [12, 13, 19, 20, 21, 22, 23, 24, 25, 26, 27, 28, 29, 30, 31, 32, 33, 34, 35, 36, 37, 38, 39, 40, 41, 42, 43, 44, 45, 46, 47, 48, 49, 50, 51, 52, 53, 54, 55, 56, 57, 58, 59, 60, 61, 62, 63, 64, 65, 66, 67, 68, 69, 70, 71] (by decide +kernel) (by decide +kernel)
set_option maxRecDepth 20000 in
theorem gX10_count_X10_runs : GoodIn wsX10_count (wsV RX10 154 RX10 yX10_runs wsX10_runs) := goodIn_app (goodIn_of _ (by decide +kernel)) ggX10_count_X10_runs
set_option maxRecDepth 20000 in
theorem ggX10_count_X10_upTo : GoodIn wsX10_count wsX10_upTo := goodIn_r _ [17, 18, 19, 20, 21, 22, 23, 24, 25, 26, 27, 28, 29, 30, 31, 32, 33, 34, 35, 36, 37, 38, 39, 40, 41, 42, 43, 44, 45, 46, 47, 48, 49, 50, 51, 52, 53, 54, 55, 56, 57, 58, 59, 60, 61, 62, 63, 64, 65, 66, 67, 68, 69, 70, 71] (by decide +kernel) (by decide +kernel)
set_option maxRecDepth 20000 in
theorem gX10_count_X10_upTo : GoodIn wsX10_count (wsV RX10 150 RX10 yX10_upTo wsX10_upTo) := goodIn_app (goodIn_of _ (by decide +kernel)) ggX10_count_X10_upTo
theorem dX10_count_0 : decode cX10_count 0 = .ok (.aload_n 0, 1) := by decide +kernel
theorem dX10_count_1 : decode cX10_count 1 = .ok (.iconst 0, 1) := by decide +kernel
theorem dX10_count_2 : decode cX10_count 2 = .ok (.putfield 139, 3) := by decide +kernel
theorem dX10_count_5 : decode cX10_count 5 = .ok (.iconst 0, 1) := by decide +kernel
theorem dX10_count_6 : decode cX10_count 6 = .ok (.istore_n 2, 1) := by decide +kernel
theorem dX10_count_7 : decode cX10_count 7 = .ok (.iload_n 1, 1) := by decide +kernel
theorem dX10_count_8 : decode cX10_count 8 = .ok (.tableswitch 132 0 7 #[48, 55, 60, 67, 74, 81, 88, 101], 48) := by decide +kernel
theorem dX10_count_56 : decode cX10_count 56 = .ok (.aload_n 0, 1) := by decide +kernel
theorem dX10_count_57 : decode cX10_count 57 = .ok (.getfield 13, 3) := by decide +kernel
theorem dX10_count_60 : decode cX10_count 60 = .ok (.iconst 0, 1) := by decide +kernel
theorem dX10_count_61 : decode cX10_count 61 = .ok (.iaload, 1) := by decide +kernel
theorem dX10_count_62 : decode cX10_count 62 = .ok (.ireturn, 1) := by decide +kernel
theorem dX10_count_63 : decode cX10_count 63 = .ok (.aload_n 0, 1) := by decide +kernel
theorem dX10_count_64 : decode cX10_count 64 = .ok (.invokevirtual 154, 3) := by decide +kernel
theorem dX10_count_67 : decode cX10_count 67 = .ok (.ireturn, 1) := by decide +kernel
theorem dX10_count_68 : decode cX10_count 68 = .ok (.aload_n 0, 1) := by decide +kernel
theorem dX10_count_69 : decode cX10_count 69 = .ok (.getfield 38, 3) := by decide +kernel
theorem dX10_count_72 : decode cX10_count 72 = .ok (.iconst 0, 1) := by decide +kernel
theorem dX10_count_73 : decode cX10_count 73 = .ok (.iaload, 1) := by decide +kernel
theorem dX10_count_74 : decode cX10_count 74 = .ok (.ireturn, 1) := by decide +kernel
theorem dX10_count_75 : decode cX10_count 75 = .ok (.aload_n 0, 1) := by decide +kernel
theorem dX10_count_76 : decode cX10_count 76 = .ok (.getfield 59, 3) := by decide +kernel
theorem dX10_count_79 : decode cX10_count 79 = .ok (.iconst 0, 1) := by decide +kernel
theorem dX10_count_80 : decode cX10_count 80 = .ok (.iaload, 1) := by decide +kernel
theorem dX10_count_81 : decode cX10_count 81 = .ok (.ireturn, 1) := by decide +kernel
theorem dX10_count_82 : decode cX10_count 82 = .ok (.aload_n 0, 1) := by decide +kernel
theorem dX10_count_83 : decode cX10_count 83 = .ok (.getfield 83, 3) := by decide +kernel
theorem dX10_count_86 : decode cX10_count 86 = .ok (.iconst 0, 1) := by decide +kernel
theorem dX10_count_87 : decode cX10_count 87 = .ok (.iaload, 1) := by decide +kernel
theorem dX10_count_88 : decode cX10_count 88 = .ok (.ireturn, 1) := by decide +kernel
theorem dX10_count_89 : decode cX10_count 89 = .ok (.aload_n 0, 1) := by decide +kernel
theorem dX10_count_90 : decode cX10_count 90 = .ok (.getfield 86, 3) := by decide +kernel
theorem dX10_count_93 : decode cX10_count 93 = .ok (.iconst 0, 1) := by decide +kernel
theorem dX10_count_94 : decode cX10_count 94 = .ok (.iaload, 1) := by decide +kernel
theorem dX10_count_95 : decode cX10_count 95 = .ok (.ireturn, 1) := by decide +kernel
theorem dX10_count_96 : decode cX10_count 96 = .ok (.aload_n 0, 1) := by decide +kernel
theorem dX10_count_97 : decode cX10_count 97 = .ok (.aload_n 0, 1) := by decide +kernel
theorem dX10_count_98 : decode cX10_count 98 = .ok (.getfield 13, 3) := by decide +kernel
theorem dX10_count_101 : decode cX10_count 101 = .ok (.iconst 0, 1) := by decide +kernel
theorem dX10_count_102 : decode cX10_count 102 = .ok (.iaload, 1) := by decide +kernel
theorem dX10_count_103 : decode cX10_count 103 = .ok (.iconst 1, 1) := by decide +kernel
theorem dX10_count_104 : decode cX10_count 104 = .ok (.isub, 1) := by decide +kernel
theorem dX10_count_105 : decode cX10_count 105 = .ok (.invokevirtual 150, 3) := by decide +kernel
theorem dX10_count_108 : decode cX10_count 108 = .ok (.ireturn, 1) := by decide +kernel
theorem dX10_count_109 : decode cX10_count 109 = .ok (.iconst 0, 1) := by decide +kernel
theorem dX10_count_110 : decode cX10_count 110 = .ok (.istore_n 3, 1) := by decide +kernel
theorem dX10_count_111 : decode cX10_count 111 = .ok (.iload_n 3, 1) := by decide +kernel
theorem dX10_count_112 : decode cX10_count 112 = .ok (.aload_n 0, 1) := by decide +kernel
theorem dX10_count_113 : decode cX10_count 113 = .ok (.getfield 13, 3) := by decide +kernel
theorem dX10_count_116 : decode cX10_count 116 = .ok (.iconst 0, 1) := by decide +kernel
theorem dX10_count_117 : decode cX10_count 117 = .ok (.iaload, 1) := by decide +kernel
theorem dX10_count_118 : decode cX10_count 118 = .ok (.iconst 1, 1) := by decide +kernel
theorem dX10_count_119 : decode cX10_count 119 = .ok (.isub, 1) := by decide +kernel
theorem dX10_count_120 : decode cX10_count 120 = .ok (.if_icmp .ge 18, 3) := by decide +kernel
theorem dX10_count_123 : decode cX10_count 123 = .ok (.iload_n 2, 1) := by decide +kernel
theorem dX10_count_124 : decode cX10_count 124 = .ok (.aload_n 0, 1) := by decide +kernel
theorem dX10_count_125 : decode cX10_count 125 = .ok (.getfield 17, 3) := by decide +kernel
theorem dX10_count_128 : decode cX10_count 128 = .ok (.iload_n 3, 1) := by decide +kernel
theorem dX10_count_129 : decode cX10_count 129 = .ok (.iaload, 1) := by decide +kernel
theorem dX10_count_130 : decode cX10_count 130 = .ok (.iadd, 1) := by decide +kernel
theorem dX10_count_131 : decode cX10_count 131 = .ok (.istore_n 2, 1) := by decide +kernel
theorem dX10_count_132 : decode cX10_count 132 = .ok (.iinc 3 1, 3) := by decide +kernel
theorem dX10_count_135 : decode cX10_count 135 = .ok (.goto (-24), 3) := by decide +kernel
theorem dX10_count_138 : decode cX10_count 138 = .ok (.iload_n 2, 1) := by decide +kernel
theorem dX10_count_139 : decode cX10_count 139 = .ok (.ireturn, 1) := by decide +kernel
theorem dX10_count_140 : decode cX10_count 140 = .ok (.iconst (-1), 1) := by decide +kernel
theorem dX10_count_141 : decode cX10_count 141 = .ok (.ireturn, 1) := by decide +kernel
set_option maxRecDepth 20000 in
theorem ggX10_image_X10_in : GoodIn wsX10_image wsX10_in := goodIn_r _ [6] (by decide +kernel) (by decide +kernel)
set_option maxRecDepth 20000 in
theorem gX10_image_X10_in : GoodIn wsX10_image (va_wsS RX10 146 yX10_in wsX10_in) := goodIn_app (goodIn_of _ (by decide +kernel)) ggX10_image_X10_in
set_option maxRecDepth 20000 in
theorem ggX10_image_X10_copy : GoodIn wsX10_image wsX10_copy := goodIn_r _ [10, 11, 12, 13, 14, 15, 16, 17, 18, 19, 20, 21, 22, 23, 24, 25, 26, 27, 28, 29, 30, 31, 32, 33, 34, 35, 36, 37, 38, 39, 40, 41, 42, 43, 5, 44, 45, 46, 47, 48, 49, 50, 51, 52, 53, 54, 55, 56, 57, 58, 59, 60, 61, 62, 63, 64, 65, 66, 67, 68, 69, 70, 71, 72, 73, 74, 75, 76, 77, 78, 79, 80, 81, 82, 83, 84, 85, 86, 87, 88, 89, 90, 91, 92, 93, 94, 95, 96, 97] (by decide +kernel) (by decide +kernel)
set_option maxRecDepth 20000 in
theorem gX10_image_X10_copy : GoodIn wsX10_image (wsV RX10 309 RX10 yX10_copy wsX10_copy) := goodIn_app (goodIn_of _ (by decide +kernel)) ggX10_image_X10_copy
theorem dX10_image_0 : decode cX10_image 0 = .ok (.aload_n 0, 1) := by decide +kernel
theorem dX10_image_1 : decode cX10_image 1 = .ok (.iconst 0, 1) := by decide +kernel
theorem dX10_image_2 : decode cX10_image 2 = .ok (.putfield 139, 3) := by decide +kernel
theorem dX10_image_5 : decode cX10_image 5 = .ok (.iload_n 1, 1) := by decide +kernel
theorem dX10_image_6 : decode cX10_image 6 = .ok (.iconst 0, 1) := by decide +kernel
theorem dX10_image_7 : decode cX10_image 7 = .ok (.iconst 2, 1) := by decide +kernel
theorem dX10_image_8 : decode cX10_image 8 = .ok (.invokestatic 146, 3) := by decide +kernel
theorem dX10_image_11 : decode cX10_image 11 = .ok (.ifCond .ne 5, 3) := by decide +kernel
theorem dX10_image_14 : decode cX10_image 14 = .ok (.iconst 0, 1) := by decide +kernel
theorem dX10_image_15 : decode cX10_image 15 = .ok (.ireturn, 1) := by decide +kernel
theorem dX10_image_16 : decode cX10_image 16 = .ok (.aload_n 0, 1) := by decide +kernel
theorem dX10_image_17 : decode cX10_image 17 = .ok (.iconst 0, 1) := by decide +kernel
theorem dX10_image_18 : decode cX10_image 18 = .ok (.iload_n 1, 1) := by decide +kernel
theorem dX10_image_19 : decode cX10_image 19 = .ok (.iconst 1, 1) := by decide +kernel
theorem dX10_image_20 : decode cX10_image 20 = .ok (.iadd, 1) := by decide +kernel
theorem dX10_image_21 : decode cX10_image 21 = .ok (.invokevirtual 309, 3) := by decide +kernel
theorem dX10_image_24 : decode cX10_image 24 = .ok (.aload_n 0, 1) := by decide +kernel
theorem dX10_image_25 : decode cX10_image 25 = .ok (.getfield 135, 3) := by decide +kernel
theorem dX10_image_28 : decode cX10_image 28 = .ok (.iload_n 1, 1) := by decide +kernel
theorem dX10_image_29 : decode cX10_image 29 = .ok (.iconst 1, 1) := by decide +kernel
theorem dX10_image_30 : decode cX10_image 30 = .ok (.bastore, 1) := by decide +kernel
theorem dX10_image_31 : decode cX10_image 31 = .ok (.iconst 1, 1) := by decide +kernel
theorem dX10_image_32 : decode cX10_image 32 = .ok (.ireturn, 1) := by decide +kernel
set_option maxRecDepth 20000 in
theorem ggX10_again_X10_in : GoodIn wsX10_again wsX10_in := goodIn_r _ [6] (by decide +kernel) (by decide +kernel)
set_option maxRecDepth 20000 in
theorem gX10_again_X10_in : GoodIn wsX10_again (va_wsS RX10 146 yX10_in wsX10_in) := goodIn_app (goodIn_of _ (by decide +kernel)) ggX10_again_X10_in
set_option maxRecDepth 20000 in
theorem ggX10_again_X10_copy : GoodIn wsX10_again wsX10_copy := goodIn_r _ [10, 11, 12, 13, 14, 15, 16, 17, 18, 19, 20, 21, 22, 23, 24, 25, 26, 27, 28, 29, 30, 31, 32, 33, 34, 35, 36, 37, 38, 39, 40, 41, 42, 43, 5, 44, 45, 46, 47, 48, 49, 50, 51, 52, 53, 54, 55, 56, 57, 58, 59, 60, 61, 62, 63, 64, 65, 66, 67, 68, 69, 70, 71, 72, 73, 74, 75, 76, 77, 78, 79, 80, 81, 82, 83, 84, 85, 86, 87, 88, 89, 90, 91, 92, 93, 94, 95, 96, 97] (by decide +kernel) (by decide +kernel)
set_option maxRecDepth 20000 in
theorem gX10_again_X10_copy : GoodIn wsX10_again (wsV RX10 309 RX10 yX10_copy wsX10_copy) := goodIn_app (goodIn_of _ (by decide +kernel)) ggX10_again_X10_copy
theorem dX10_again_0 : decode cX10_again 0 = .ok (.aload_n 0, 1) := by decide +kernel
theorem dX10_again_1 : decode cX10_again 1 = .ok (.iconst 0, 1) := by decide +kernel
theorem dX10_again_2 : decode cX10_again 2 = .ok (.putfield 139, 3) := by decide +kernel
theorem dX10_again_5 : decode cX10_again 5 = .ok (.iload_n 1, 1) := by decide +kernel
theorem dX10_again_6 : decode cX10_again 6 = .ok (.iconst 0, 1) := by decide +kernel
theorem dX10_again_7 : decode cX10_again 7 = .ok (.iconst 2, 1) := by decide +kernel
theorem dX10_again_8 : decode cX10_again 8 = .ok (.invokestatic 146, 3) := by decide +kernel
theorem dX10_again_11 : decode cX10_again 11 = .ok (.ifCond .eq 12, 3) := by decide +kernel
theorem dX10_again_14 : decode cX10_again 14 = .ok (.aload_n 0, 1) := by decide +kernel
theorem dX10_again_15 : decode cX10_again 15 = .ok (.getfield 135, 3) := by decide +kernel
theorem dX10_again_18 : decode cX10_again 18 = .ok (.iload_n 1, 1) := by decide +kernel
theorem dX10_again_19 : decode cX10_again 19 = .ok (.baload, 1) := by decide +kernel
theorem dX10_again_20 : decode cX10_again 20 = .ok (.ifCond .ne 5, 3) := by decide +kernel
theorem dX10_again_23 : decode cX10_again 23 = .ok (.iconst 0, 1) := by decide +kernel
theorem dX10_again_24 : decode cX10_again 24 = .ok (.ireturn, 1) := by decide +kernel
theorem dX10_again_25 : decode cX10_again 25 = .ok (.aload_n 0, 1) := by decide +kernel
theorem dX10_again_26 : decode cX10_again 26 = .ok (.iload_n 1, 1) := by decide +kernel
theorem dX10_again_27 : decode cX10_again 27 = .ok (.iconst 1, 1) := by decide +kernel
theorem dX10_again_28 : decode cX10_again 28 = .ok (.iadd, 1) := by decide +kernel
theorem dX10_again_29 : decode cX10_again 29 = .ok (.iconst 0, 1) := by decide +kernel
theorem dX10_again_30 : decode cX10_again 30 = .ok (.invokevirtual 309, 3) := by decide +kernel
theorem dX10_again_33 : decode cX10_again 33 = .ok (.iconst 1, 1) := by decide +kernel
theorem dX10_again_34 : decode cX10_again 34 = .ok (.ireturn, 1) := by decide +kernel
end
