section
-- ===== PART A: goes FIRST, ahead of the names: the tables' words, and 'selects' of the private methods out of them =====
/-- a private method of a class that the tables say can be made, by its rows of tables_1 -/
def lw_okq (q : MethodName × Nat) : Prop := (q.1.cls ≠ "java/lang/invoke/MethodHandle" ∧ q.1.cls ≠ "java/lang/invoke/VarHandle") ∧ Cond.instantiable q.1.cls q.2 ∈ tables_1 ∧ Cond.privateMethod q.1 ∈ tables_1 ∧ Cond.instanceMethod q.1 ∈ tables_1
theorem lw_p0 : lw_okq (⟨"java/lang/Throwable", "fillInStackTrace", "(I)Ljava/lang/Throwable;"⟩, 6) := ⟨⟨by decide +kernel, by decide +kernel⟩, List.mem_of_getElem? (i := 329) (by decide +kernel), List.mem_of_getElem? (i := 327) (by decide +kernel), List.mem_of_getElem? (i := 328) (by decide +kernel)⟩
theorem lw_p1 : lw_okq (⟨"EnclosureReferee$Game", "handicapCell", "(I)I"⟩, 7) := ⟨⟨by decide +kernel, by decide +kernel⟩, List.mem_of_getElem? (i := 30) (by decide +kernel), List.mem_of_getElem? (i := 364) (by decide +kernel), List.mem_of_getElem? (i := 365) (by decide +kernel)⟩
theorem lw_p2 : lw_okq (⟨"EnclosureReferee", "isChoice", "(I)Z"⟩, 6) := ⟨⟨by decide +kernel, by decide +kernel⟩, List.mem_of_getElem? (i := 22) (by decide +kernel), List.mem_of_getElem? (i := 449) (by decide +kernel), List.mem_of_getElem? (i := 450) (by decide +kernel)⟩
theorem lw_p3 : lw_okq (⟨"EnclosureReferee", "admits", "(II)Z"⟩, 6) := ⟨⟨by decide +kernel, by decide +kernel⟩, List.mem_of_getElem? (i := 22) (by decide +kernel), List.mem_of_getElem? (i := 474) (by decide +kernel), List.mem_of_getElem? (i := 475) (by decide +kernel)⟩
theorem lw_p4 : lw_okq (⟨"EnclosureReferee$Refusal", "add", "(II)V"⟩, 3) := ⟨⟨by decide +kernel, by decide +kernel⟩, List.mem_of_getElem? (i := 164) (by decide +kernel), List.mem_of_getElem? (i := 486) (by decide +kernel), List.mem_of_getElem? (i := 487) (by decide +kernel)⟩
theorem lw_p5 : lw_okq (⟨"EnclosureReferee", "canLookAhead", "(I)Z"⟩, 6) := ⟨⟨by decide +kernel, by decide +kernel⟩, List.mem_of_getElem? (i := 22) (by decide +kernel), List.mem_of_getElem? (i := 788) (by decide +kernel), List.mem_of_getElem? (i := 789) (by decide +kernel)⟩
theorem lw_p6 : lw_okq (⟨"EnclosureReferee$Foresight", "leastValue", "(LEnclosureReferee$Game;LEnclosureReferee$Position;III)I"⟩, 2) := ⟨⟨by decide +kernel, by decide +kernel⟩, List.mem_of_getElem? (i := 206) (by decide +kernel), List.mem_of_getElem? (i := 793) (by decide +kernel), List.mem_of_getElem? (i := 794) (by decide +kernel)⟩
theorem lw_p7 : lw_okq (⟨"EnclosureReferee$Foresight", "greatestValue", "(LEnclosureReferee$Game;LEnclosureReferee$Position;II)I"⟩, 2) := ⟨⟨by decide +kernel, by decide +kernel⟩, List.mem_of_getElem? (i := 206) (by decide +kernel), List.mem_of_getElem? (i := 803) (by decide +kernel), List.mem_of_getElem? (i := 804) (by decide +kernel)⟩
theorem lw_p8 : lw_okq (⟨"EnclosureReferee$Input", "addChoice", "(I)V"⟩, 4) := ⟨⟨by decide +kernel, by decide +kernel⟩, List.mem_of_getElem? (i := 184) (by decide +kernel), List.mem_of_getElem? (i := 854) (by decide +kernel), List.mem_of_getElem? (i := 855) (by decide +kernel)⟩
theorem lw_p9 : lw_okq (⟨"EnclosureRefereeModel", "begins", "(I)V"⟩, 33) := ⟨⟨by decide +kernel, by decide +kernel⟩, List.mem_of_getElem? (i := 902) (by decide +kernel), List.mem_of_getElem? (i := 908) (by decide +kernel), List.mem_of_getElem? (i := 909) (by decide +kernel)⟩
theorem lw_p10 : lw_okq (⟨"EnclosureRefereeModel", "many", "(I)I"⟩, 33) := ⟨⟨by decide +kernel, by decide +kernel⟩, List.mem_of_getElem? (i := 902) (by decide +kernel), List.mem_of_getElem? (i := 1023) (by decide +kernel), List.mem_of_getElem? (i := 1024) (by decide +kernel)⟩
theorem lw_p11 : lw_okq (⟨"EnclosureRefereeModel", "cells", "()I"⟩, 33) := ⟨⟨by decide +kernel, by decide +kernel⟩, List.mem_of_getElem? (i := 902) (by decide +kernel), List.mem_of_getElem? (i := 1027) (by decide +kernel), List.mem_of_getElem? (i := 1028) (by decide +kernel)⟩
theorem lw_p12 : lw_okq (⟨"EnclosureRefereeModel", "isChoice", "(I)Z"⟩, 33) := ⟨⟨by decide +kernel, by decide +kernel⟩, List.mem_of_getElem? (i := 902) (by decide +kernel), List.mem_of_getElem? (i := 1043) (by decide +kernel), List.mem_of_getElem? (i := 1044) (by decide +kernel)⟩
theorem lw_p13 : lw_okq (⟨"EnclosureRefereeModel", "isCell", "(I)Z"⟩, 33) := ⟨⟨by decide +kernel, by decide +kernel⟩, List.mem_of_getElem? (i := 902) (by decide +kernel), List.mem_of_getElem? (i := 1047) (by decide +kernel), List.mem_of_getElem? (i := 1048) (by decide +kernel)⟩
theorem lw_p14 : lw_okq (⟨"EnclosureRefereeModel", "over", "()Z"⟩, 33) := ⟨⟨by decide +kernel, by decide +kernel⟩, List.mem_of_getElem? (i := 902) (by decide +kernel), List.mem_of_getElem? (i := 1051) (by decide +kernel), List.mem_of_getElem? (i := 1052) (by decide +kernel)⟩
theorem lw_p15 : lw_okq (⟨"EnclosureRefereeModel", "emptyCells", "()I"⟩, 33) := ⟨⟨by decide +kernel, by decide +kernel⟩, List.mem_of_getElem? (i := 902) (by decide +kernel), List.mem_of_getElem? (i := 1055) (by decide +kernel), List.mem_of_getElem? (i := 1056) (by decide +kernel)⟩
def lw_privs_1 : List (MethodName × Nat) := [(⟨"java/lang/Throwable", "fillInStackTrace", "(I)Ljava/lang/Throwable;"⟩, 6), (⟨"EnclosureReferee$Game", "handicapCell", "(I)I"⟩, 7), (⟨"EnclosureReferee", "isChoice", "(I)Z"⟩, 6), (⟨"EnclosureReferee", "admits", "(II)Z"⟩, 6), (⟨"EnclosureReferee$Refusal", "add", "(II)V"⟩, 3), (⟨"EnclosureReferee", "canLookAhead", "(I)Z"⟩, 6), (⟨"EnclosureReferee$Foresight", "leastValue", "(LEnclosureReferee$Game;LEnclosureReferee$Position;III)I"⟩, 2), (⟨"EnclosureReferee$Foresight", "greatestValue", "(LEnclosureReferee$Game;LEnclosureReferee$Position;II)I"⟩, 2), (⟨"EnclosureReferee$Input", "addChoice", "(I)V"⟩, 4), (⟨"EnclosureRefereeModel", "begins", "(I)V"⟩, 33), (⟨"EnclosureRefereeModel", "many", "(I)I"⟩, 33), (⟨"EnclosureRefereeModel", "cells", "()I"⟩, 33), (⟨"EnclosureRefereeModel", "isChoice", "(I)Z"⟩, 33), (⟨"EnclosureRefereeModel", "isCell", "(I)Z"⟩, 33), (⟨"EnclosureRefereeModel", "over", "()Z"⟩, 33), (⟨"EnclosureRefereeModel", "emptyCells", "()I"⟩, 33)]
theorem lw_r1 : ∀ q ∈ lw_privs_1, lw_okq q := List.forall_mem_cons.mpr ⟨lw_p0, List.forall_mem_cons.mpr ⟨lw_p1, List.forall_mem_cons.mpr ⟨lw_p2, List.forall_mem_cons.mpr ⟨lw_p3, List.forall_mem_cons.mpr ⟨lw_p4, List.forall_mem_cons.mpr ⟨lw_p5, List.forall_mem_cons.mpr ⟨lw_p6, List.forall_mem_cons.mpr ⟨lw_p7, List.forall_mem_cons.mpr ⟨lw_p8, List.forall_mem_cons.mpr ⟨lw_p9, List.forall_mem_cons.mpr ⟨lw_p10, List.forall_mem_cons.mpr ⟨lw_p11, List.forall_mem_cons.mpr ⟨lw_p12, List.forall_mem_cons.mpr ⟨lw_p13, List.forall_mem_cons.mpr ⟨lw_p14, List.forall_mem_cons.mpr ⟨lw_p15, fun _ h => absurd h List.not_mem_nil⟩⟩⟩⟩⟩⟩⟩⟩⟩⟩⟩⟩⟩⟩⟩⟩
theorem lw_p16 : lw_okq (⟨"EnclosureRefereeModel", "goes", "(II)Z"⟩, 33) := ⟨⟨by decide +kernel, by decide +kernel⟩, List.mem_of_getElem? (i := 902) (by decide +kernel), List.mem_of_getElem? (i := 1059) (by decide +kernel), List.mem_of_getElem? (i := 1060) (by decide +kernel)⟩
theorem lw_p17 : lw_okq (⟨"EnclosureRefereeModel", "mayChoose", "(I)Z"⟩, 33) := ⟨⟨by decide +kernel, by decide +kernel⟩, List.mem_of_getElem? (i := 902) (by decide +kernel), List.mem_of_getElem? (i := 1063) (by decide +kernel), List.mem_of_getElem? (i := 1064) (by decide +kernel)⟩
theorem lw_p18 : lw_okq (⟨"EnclosureRefereeModel", "reports", "(II)V"⟩, 33) := ⟨⟨by decide +kernel, by decide +kernel⟩, List.mem_of_getElem? (i := 902) (by decide +kernel), List.mem_of_getElem? (i := 1067) (by decide +kernel), List.mem_of_getElem? (i := 1068) (by decide +kernel)⟩
theorem lw_p19 : lw_okq (⟨"EnclosureRefereeModel", "plays", "(II)V"⟩, 33) := ⟨⟨by decide +kernel, by decide +kernel⟩, List.mem_of_getElem? (i := 902) (by decide +kernel), List.mem_of_getElem? (i := 1071) (by decide +kernel), List.mem_of_getElem? (i := 1072) (by decide +kernel)⟩
theorem lw_p20 : lw_okq (⟨"EnclosureRefereeModel", "score", "(I)I"⟩, 33) := ⟨⟨by decide +kernel, by decide +kernel⟩, List.mem_of_getElem? (i := 902) (by decide +kernel), List.mem_of_getElem? (i := 1075) (by decide +kernel), List.mem_of_getElem? (i := 1076) (by decide +kernel)⟩
theorem lw_p21 : lw_okq (⟨"EnclosureRefereeModel", "becomes", "(III)V"⟩, 33) := ⟨⟨by decide +kernel, by decide +kernel⟩, List.mem_of_getElem? (i := 902) (by decide +kernel), List.mem_of_getElem? (i := 1079) (by decide +kernel), List.mem_of_getElem? (i := 1080) (by decide +kernel)⟩
theorem lw_p22 : lw_okq (⟨"EnclosureRefereeModel", "wave", "(I)I"⟩, 33) := ⟨⟨by decide +kernel, by decide +kernel⟩, List.mem_of_getElem? (i := 902) (by decide +kernel), List.mem_of_getElem? (i := 1083) (by decide +kernel), List.mem_of_getElem? (i := 1084) (by decide +kernel)⟩
theorem lw_p23 : lw_okq (⟨"EnclosureRefereeModel", "encloses", "(I)V"⟩, 33) := ⟨⟨by decide +kernel, by decide +kernel⟩, List.mem_of_getElem? (i := 902) (by decide +kernel), List.mem_of_getElem? (i := 1087) (by decide +kernel), List.mem_of_getElem? (i := 1088) (by decide +kernel)⟩
theorem lw_p24 : lw_okq (⟨"EnclosureRefereeModel", "outside", "(I)J"⟩, 33) := ⟨⟨by decide +kernel, by decide +kernel⟩, List.mem_of_getElem? (i := 902) (by decide +kernel), List.mem_of_getElem? (i := 1091) (by decide +kernel), List.mem_of_getElem? (i := 1092) (by decide +kernel)⟩
theorem lw_p25 : lw_okq (⟨"EnclosureRefereeModel", "all", "()J"⟩, 33) := ⟨⟨by decide +kernel, by decide +kernel⟩, List.mem_of_getElem? (i := 902) (by decide +kernel), List.mem_of_getElem? (i := 1095) (by decide +kernel), List.mem_of_getElem? (i := 1096) (by decide +kernel)⟩
theorem lw_p26 : lw_okq (⟨"EnclosureRefereeModel", "bits", "(I)J"⟩, 33) := ⟨⟨by decide +kernel, by decide +kernel⟩, List.mem_of_getElem? (i := 902) (by decide +kernel), List.mem_of_getElem? (i := 1099) (by decide +kernel), List.mem_of_getElem? (i := 1100) (by decide +kernel)⟩
theorem lw_p27 : lw_okq (⟨"EnclosureRefereeModel", "edge", "()J"⟩, 33) := ⟨⟨by decide +kernel, by decide +kernel⟩, List.mem_of_getElem? (i := 902) (by decide +kernel), List.mem_of_getElem? (i := 1104) (by decide +kernel), List.mem_of_getElem? (i := 1105) (by decide +kernel)⟩
theorem lw_p28 : lw_okq (⟨"EnclosureRefereeModel", "column", "(I)J"⟩, 33) := ⟨⟨by decide +kernel, by decide +kernel⟩, List.mem_of_getElem? (i := 902) (by decide +kernel), List.mem_of_getElem? (i := 1108) (by decide +kernel), List.mem_of_getElem? (i := 1109) (by decide +kernel)⟩
theorem lw_p29 : lw_okq (⟨"EnclosureRefereeModel", "connected", "(JI)J"⟩, 33) := ⟨⟨by decide +kernel, by decide +kernel⟩, List.mem_of_getElem? (i := 902) (by decide +kernel), List.mem_of_getElem? (i := 1115) (by decide +kernel), List.mem_of_getElem? (i := 1116) (by decide +kernel)⟩
theorem lw_p30 : lw_okq (⟨"EnclosureRefereeModel", "grown", "(J)J"⟩, 33) := ⟨⟨by decide +kernel, by decide +kernel⟩, List.mem_of_getElem? (i := 902) (by decide +kernel), List.mem_of_getElem? (i := 1119) (by decide +kernel), List.mem_of_getElem? (i := 1120) (by decide +kernel)⟩
theorem lw_p31 : lw_okq (⟨"EnclosureRefereeModel", "no", "(I)I"⟩, 33) := ⟨⟨by decide +kernel, by decide +kernel⟩, List.mem_of_getElem? (i := 902) (by decide +kernel), List.mem_of_getElem? (i := 1126) (by decide +kernel), List.mem_of_getElem? (i := 1127) (by decide +kernel)⟩
def lw_privs_2 : List (MethodName × Nat) := [(⟨"EnclosureRefereeModel", "goes", "(II)Z"⟩, 33), (⟨"EnclosureRefereeModel", "mayChoose", "(I)Z"⟩, 33), (⟨"EnclosureRefereeModel", "reports", "(II)V"⟩, 33), (⟨"EnclosureRefereeModel", "plays", "(II)V"⟩, 33), (⟨"EnclosureRefereeModel", "score", "(I)I"⟩, 33), (⟨"EnclosureRefereeModel", "becomes", "(III)V"⟩, 33), (⟨"EnclosureRefereeModel", "wave", "(I)I"⟩, 33), (⟨"EnclosureRefereeModel", "encloses", "(I)V"⟩, 33), (⟨"EnclosureRefereeModel", "outside", "(I)J"⟩, 33), (⟨"EnclosureRefereeModel", "all", "()J"⟩, 33), (⟨"EnclosureRefereeModel", "bits", "(I)J"⟩, 33), (⟨"EnclosureRefereeModel", "edge", "()J"⟩, 33), (⟨"EnclosureRefereeModel", "column", "(I)J"⟩, 33), (⟨"EnclosureRefereeModel", "connected", "(JI)J"⟩, 33), (⟨"EnclosureRefereeModel", "grown", "(J)J"⟩, 33), (⟨"EnclosureRefereeModel", "no", "(I)I"⟩, 33)]
theorem lw_r2 : ∀ q ∈ lw_privs_2, lw_okq q := List.forall_mem_cons.mpr ⟨lw_p16, List.forall_mem_cons.mpr ⟨lw_p17, List.forall_mem_cons.mpr ⟨lw_p18, List.forall_mem_cons.mpr ⟨lw_p19, List.forall_mem_cons.mpr ⟨lw_p20, List.forall_mem_cons.mpr ⟨lw_p21, List.forall_mem_cons.mpr ⟨lw_p22, List.forall_mem_cons.mpr ⟨lw_p23, List.forall_mem_cons.mpr ⟨lw_p24, List.forall_mem_cons.mpr ⟨lw_p25, List.forall_mem_cons.mpr ⟨lw_p26, List.forall_mem_cons.mpr ⟨lw_p27, List.forall_mem_cons.mpr ⟨lw_p28, List.forall_mem_cons.mpr ⟨lw_p29, List.forall_mem_cons.mpr ⟨lw_p30, List.forall_mem_cons.mpr ⟨lw_p31, fun _ h => absurd h List.not_mem_nil⟩⟩⟩⟩⟩⟩⟩⟩⟩⟩⟩⟩⟩⟩⟩⟩
theorem lw_p32 : lw_okq (⟨"EnclosureRefereeModel", "regions", "(IZ)I"⟩, 33) := ⟨⟨by decide +kernel, by decide +kernel⟩, List.mem_of_getElem? (i := 902) (by decide +kernel), List.mem_of_getElem? (i := 1154) (by decide +kernel), List.mem_of_getElem? (i := 1155) (by decide +kernel)⟩
theorem lw_p33 : lw_okq (⟨"EnclosureRefereeModel", "isOutside", "(II)Z"⟩, 33) := ⟨⟨by decide +kernel, by decide +kernel⟩, List.mem_of_getElem? (i := 902) (by decide +kernel), List.mem_of_getElem? (i := 1162) (by decide +kernel), List.mem_of_getElem? (i := 1163) (by decide +kernel)⟩
theorem lw_p34 : lw_okq (⟨"EnclosureRefereeModel", "isEnclosed", "(JI)Z"⟩, 33) := ⟨⟨by decide +kernel, by decide +kernel⟩, List.mem_of_getElem? (i := 902) (by decide +kernel), List.mem_of_getElem? (i := 1178) (by decide +kernel), List.mem_of_getElem? (i := 1179) (by decide +kernel)⟩
theorem lw_p35 : lw_okq (⟨"EnclosureRefereeModel", "guaranteed", "(III)I"⟩, 33) := ⟨⟨by decide +kernel, by decide +kernel⟩, List.mem_of_getElem? (i := 902) (by decide +kernel), List.mem_of_getElem? (i := 1198) (by decide +kernel), List.mem_of_getElem? (i := 1199) (by decide +kernel)⟩
theorem lw_p36 : lw_okq (⟨"EnclosureRefereeModel", "near", "(II)I"⟩, 33) := ⟨⟨by decide +kernel, by decide +kernel⟩, List.mem_of_getElem? (i := 902) (by decide +kernel), List.mem_of_getElem? (i := 1202) (by decide +kernel), List.mem_of_getElem? (i := 1203) (by decide +kernel)⟩
theorem lw_p37 : lw_okq (⟨"EnclosureRefereeModel", "makes", "(III)V"⟩, 33) := ⟨⟨by decide +kernel, by decide +kernel⟩, List.mem_of_getElem? (i := 902) (by decide +kernel), List.mem_of_getElem? (i := 1210) (by decide +kernel), List.mem_of_getElem? (i := 1211) (by decide +kernel)⟩
theorem lw_p38 : lw_okq (⟨"EnclosureRefereeModel", "outcome", "(I)I"⟩, 33) := ⟨⟨by decide +kernel, by decide +kernel⟩, List.mem_of_getElem? (i := 902) (by decide +kernel), List.mem_of_getElem? (i := 1214) (by decide +kernel), List.mem_of_getElem? (i := 1215) (by decide +kernel)⟩
theorem lw_p39 : lw_okq (⟨"EnclosureRefereeModel", "far", "(II)I"⟩, 33) := ⟨⟨by decide +kernel, by decide +kernel⟩, List.mem_of_getElem? (i := 902) (by decide +kernel), List.mem_of_getElem? (i := 1218) (by decide +kernel), List.mem_of_getElem? (i := 1219) (by decide +kernel)⟩
theorem lw_p40 : lw_okq (⟨"EnclosureRefereeModel", "bestNear", "(I)I"⟩, 33) := ⟨⟨by decide +kernel, by decide +kernel⟩, List.mem_of_getElem? (i := 902) (by decide +kernel), List.mem_of_getElem? (i := 1222) (by decide +kernel), List.mem_of_getElem? (i := 1223) (by decide +kernel)⟩
theorem lw_p41 : lw_okq (⟨"EnclosureRefereeModel", "isRound", "()Z"⟩, 33) := ⟨⟨by decide +kernel, by decide +kernel⟩, List.mem_of_getElem? (i := 902) (by decide +kernel), List.mem_of_getElem? (i := 1247) (by decide +kernel), List.mem_of_getElem? (i := 1248) (by decide +kernel)⟩
theorem lw_p42 : lw_okq (⟨"EnclosureRefereeModel", "choice", "()I"⟩, 33) := ⟨⟨by decide +kernel, by decide +kernel⟩, List.mem_of_getElem? (i := 902) (by decide +kernel), List.mem_of_getElem? (i := 1251) (by decide +kernel), List.mem_of_getElem? (i := 1252) (by decide +kernel)⟩
theorem lw_p43 : lw_okq (⟨"EnclosureRefereeModel", "isHere", "(CC)Z"⟩, 33) := ⟨⟨by decide +kernel, by decide +kernel⟩, List.mem_of_getElem? (i := 902) (by decide +kernel), List.mem_of_getElem? (i := 1255) (by decide +kernel), List.mem_of_getElem? (i := 1256) (by decide +kernel)⟩
theorem lw_p44 : lw_okq (⟨"EnclosureRefereeModel", "signOf", "(II)C"⟩, 33) := ⟨⟨by decide +kernel, by decide +kernel⟩, List.mem_of_getElem? (i := 902) (by decide +kernel), List.mem_of_getElem? (i := 1266) (by decide +kernel), List.mem_of_getElem? (i := 1267) (by decide +kernel)⟩
def lw_privs_3 : List (MethodName × Nat) := [(⟨"EnclosureRefereeModel", "regions", "(IZ)I"⟩, 33), (⟨"EnclosureRefereeModel", "isOutside", "(II)Z"⟩, 33), (⟨"EnclosureRefereeModel", "isEnclosed", "(JI)Z"⟩, 33), (⟨"EnclosureRefereeModel", "guaranteed", "(III)I"⟩, 33), (⟨"EnclosureRefereeModel", "near", "(II)I"⟩, 33), (⟨"EnclosureRefereeModel", "makes", "(III)V"⟩, 33), (⟨"EnclosureRefereeModel", "outcome", "(I)I"⟩, 33), (⟨"EnclosureRefereeModel", "far", "(II)I"⟩, 33), (⟨"EnclosureRefereeModel", "bestNear", "(I)I"⟩, 33), (⟨"EnclosureRefereeModel", "isRound", "()Z"⟩, 33), (⟨"EnclosureRefereeModel", "choice", "()I"⟩, 33), (⟨"EnclosureRefereeModel", "isHere", "(CC)Z"⟩, 33), (⟨"EnclosureRefereeModel", "signOf", "(II)C"⟩, 33)]
theorem lw_r3 : ∀ q ∈ lw_privs_3, lw_okq q := List.forall_mem_cons.mpr ⟨lw_p32, List.forall_mem_cons.mpr ⟨lw_p33, List.forall_mem_cons.mpr ⟨lw_p34, List.forall_mem_cons.mpr ⟨lw_p35, List.forall_mem_cons.mpr ⟨lw_p36, List.forall_mem_cons.mpr ⟨lw_p37, List.forall_mem_cons.mpr ⟨lw_p38, List.forall_mem_cons.mpr ⟨lw_p39, List.forall_mem_cons.mpr ⟨lw_p40, List.forall_mem_cons.mpr ⟨lw_p41, List.forall_mem_cons.mpr ⟨lw_p42, List.forall_mem_cons.mpr ⟨lw_p43, List.forall_mem_cons.mpr ⟨lw_p44, fun _ h => absurd h List.not_mem_nil⟩⟩⟩⟩⟩⟩⟩⟩⟩⟩⟩⟩⟩
def lw_privs : List (MethodName × Nat) := lw_privs_1 ++ (lw_privs_2 ++ (lw_privs_3))
def lw_tbl : List Cond := k2_sels lw_privs ++ tables_1
theorem lw_privs_ok : ∀ q ∈ lw_privs, lw_okq q := by
  show ∀ q ∈ lw_privs_1 ++ (lw_privs_2 ++ (lw_privs_3)), lw_okq q
  exact List.forall_mem_append.mpr ⟨lw_r1, List.forall_mem_append.mpr ⟨lw_r2, lw_r3⟩⟩
/-- the streams that the claim lets the run draw from -/
abbrev lw_cs : List Choice := [Jvm.Choice.named "NaN.bits"]
theorem lw_bits : nanBits ∈ lw_cs := by first | decide | exact List.mem_cons_self | simp [lw_cs, nanBits]
-- ===== end of PART A; then your names; then what follows =====
/-! ===== BEGIN words of one list among another's, by their places ===== -/
theorem goodIn_r {big : List Cond} (ws : List Cond) (ps : List Nat) (hp : ws = ps.filterMap (fun i => big[i]?)) (h : ws.all goodWord = true) : GoodIn big ws := by
  intro w hw
  have h1 := List.all_eq_true.mp h w hw
  rw [hp] at hw
  obtain ⟨i, -, hi⟩ := List.mem_filterMap.mp hw
  have hm : w ∈ big := by first | exact List.mem_of_getElem? hi | exact List.getElem?_mem hi
  exact ⟨hm, good_of_word h1⟩
theorem goodIn_app {big a b : List Cond} (ha : GoodIn big a) (hb : GoodIn big b) : GoodIn big (a ++ b) := fun w h => (List.mem_append.mp h).elim (ha w) (hb w)
theorem goodIn_ca {big a b : List Cond} {c : Cond} (ha : GoodIn big (c :: a)) (hb : GoodIn big b) : GoodIn big (c :: (a ++ b)) := fun w h => (List.mem_cons.mp h).elim (fun e => ha w (List.mem_cons.mpr (Or.inl e))) (fun h => (List.mem_append.mp h).elim (fun h => ha w (List.mem_cons.mpr (Or.inr h))) (hb w))
theorem goodIn_sub {big ws : List Cond} (hm : ∀ w ∈ ws, w ∈ big) (h : ws.all goodWord = true) : GoodIn big ws := fun w hw => ⟨hm w hw, good_of_word (List.all_eq_true.mp h w hw)⟩
/-! ===== END ===== -/

/-! ===== BEGIN exceptions that leave a method, and their catching by the caller (launches without stack traces) ===== -/
section VXA
/-! The laws vx_back, vx_callV, vx_callS, vx_callSW, vx_throw0, vx_throwS follow proofs of the library, with one case more: JvmDerived/Free/Laws.lean (Back.of_free), Shelf42/LK1.lean (callV, callS), Shelf/KitTraced.lean (throwNew0V, throwNewS). -/
/-- where a method has thrown q: the class by its name, the cell, what was written, the world -/
def vx_T (XC : String → State → State → Prop) (st : State) (q : Addr) (t : State) (mc ms : Nat) (free : Addr → Prop) : Prop :=
  ∃ (E : String) (ce : Cell) (L : List Loc), XC E st t ∧ t.heap[q]? = some ce ∧ ce.vm = .none ∧ st.vm.findClass E = some ce.cls ∧ st.WarmedH t.vm ∧ st.sameButNew ({ t with vm := st.vm } : State) L mc ms ∧ ∀ z ∈ L, free z.base
def vx_Q (Qc : Array Value → State → Outcome → State → Prop) (XC : String → State → State → Prop) (mc ms : Nat) (free : Addr → Prop) : Array Value → State → Outcome → State → Prop := fun a st o t =>
  (Qc a st o t ∧ ∃ L, FrameEnd st o t L mc ms ∧ ∀ q ∈ L, free q.base) ∨ ∃ q, o = .threw q ∧ vx_T XC st q t mc ms free
/-- a callee that returns or throws -/
def vx_Met (l : Launch) (y : MethodName) (ws : List Cond) (rm : Room) (Pc : Array Value → State → Prop) (Qc : Array Value → State → Outcome → State → Prop) (XC : String → State → State → Prop) (mc ms : Nat) (free : Addr → Prop) : Prop :=
  MetFree l y (headSpec ws rm) Pc (fun _ _ _ _ _ => True) (vx_Q Qc XC mc ms free)
def vx_Post (XC : String → State → State → Prop) (mc ms : Nat) (free : Addr → Prop) : Pt → Array Value → Addr → Pt → Prop := fun A a q B =>
  ∃ (g : JFrame) (mk : MethodId) (t : State) (L : List Loc) (E : String) (ce : Cell), B.U.heap = t.heap ∧ B.U.vm = t.vm ∧ XC E (A.U.calling g mk a) t ∧ t.heap[q]? = some ce ∧ ce.vm = .none ∧ A.U.vm.findClass E = some ce.cls ∧ B.locs = A.locs ++ L ∧ (∀ z ∈ L, free z.base) ∧ B.cells = A.cells + mc ∧ B.slots = A.slots + ms
def vx_Back (l : Launch) (R : Room) (p : Program) (e : Env) (below : List Frame) (s : State) (sargs : Array Value) (y : MethodName) (len W9 : Nat)
    (Pre : Pt → Array Value → Prop) (Post : Pt → Array Value → Option Value → Pt → Prop) (PostX : Pt → Array Value → Addr → Pt → Prop) : Prop :=
  ∀ (m : MethodId) (meth : Method) (c : Code) (A : Pt) (g : JFrame) (ig : Instr) (mk : MethodId) (a : Array Value),
    Stand p l e R s m sargs below meth c A.U A.locs A.cells A.slots → g.method = m → g.locals.size = c.maxLocals → decode c.code g.pc = .ok (ig, len) →
    2 * g.monitorRoom + (g.stack.map fun v => v.category).sum ≤ W9 → A.U.methodNamed? y = some mk → Pre A a →
    (∃ (v : Option Value) (B : Pt), Stand p l e R s m sargs below meth c B.U B.locs B.cells B.slots ∧ Post A a v B ∧
      Steps p.tables e below (doInvoke e (A.U.setTop g) [] mk a).1 (B.U.setTop { g with pc := g.pc + len, stack := v.toList ++ g.stack })) ∨
    (∃ (q : Addr) (B : Pt), Stand p l e R s m sargs below meth c B.U B.locs B.cells B.slots ∧ PostX A a q B ∧
      Steps p.tables e below (doInvoke e (A.U.setTop g) [] mk a).1 ((B.U.setTop g).pushFrame (.throwing q)))
section Payer
variable {l : Launch} {R : Room} {p : Program} {e : Env} {below : List Frame} {s : State} {sargs : Array Value} {y : MethodName} {len W9 : Nat}
theorem vx_back {ws : List Cond} {rm : Room} {Pc : Array Value → State → Prop} {Qc : Array Value → State → Outcome → State → Prop} {XC : String → State → State → Prop} {mc ms : Nat} {free : Addr → Prop} {bytes : ByteArray} {maxL : Nat} {ret : Option FieldType}
    (hM : vx_Met l y ws rm Pc Qc XC mc ms free) (hblind : FrameBlind Pc) (hrc : rm.cells = mc) (hrs : rm.slots = ms)
    (hframes : rm.frames + 1 ≤ R.frames) (hlocals : W9 + (maxL + 11) + rm.locals ≤ R.locals)
    (hws : ∀ w ∈ ws, ∀ a' U, s.WarmedH U.vm → w.before a' U = true) (hcode : Cond.code y bytes maxL ret ∈ ws) (hinit : ∀ a' U, s.WarmedH U.vm → (Cond.initialized y.cls).before a' U = true) :
    vx_Back l R p e below s sargs y len W9 (PreOf R mc ms Pc) (PostOf Qc mc ms free) (vx_Post XC mc ms free) := by
  intro m meth c A g ig mk a X hg hsize hdg hW hn hp
  have h1 : (headSpec ws rm).pre.before a A.U = true := atoms_intro fun w hw => hws w hw _ _ X.warmed
  have h2 : (Cond.code y bytes maxL ret).before a A.U = true := hws _ hcode _ _ X.warmed
  have h3 : (Cond.initialized y.cls).before a A.U = true := hinit _ _ X.warmed
  have h4 : A.cells + (headSpec ws rm).room.cells ≤ R.cells := by rw [show (headSpec ws rm).room.cells = mc from hrc]; exact hp.1
  have h5 : A.slots + (headSpec ws rm).room.slots ≤ R.slots := by rw [show (headSpec ws rm).room.slots = ms from hrs]; exact hp.2.1
  have hPc : Pc a (A.U.calling g mk a) := hblind _ _ _ _ hp.2.2
  obtain ⟨U, Ls, c0, s0⟩ := A
  dsimp only [Pt.U, Pt.locs, Pt.cells, Pt.slots] at h1 h2 h3 h4 h5 X hn hPc ⊢
  obtain ⟨methY, cY, hmY, hcY, -, hlY, -, -, -, -⟩ := Cond.code_spec hn h2
  obtain ⟨kY, hkY, -⟩ := className_of_methodNamed hn
  have hinitY : kY.init = .initialized := Cond.initialized_spec (findClass_of_methodNamed hn) hkY h3
  have h : At U g.method c below := by rw [hg]; exact X.here
  have hlocals9 : W9 + (maxL + 11) + (headSpec ws rm).room.locals ≤ R.locals := hlocals
  have happ : (headSpec ws rm).appliesLoose y e.platform (U.calling g mk a) = true :=
    Spec.appliesLoose_calling (g := g) h hdg hn hkY hinitY
      (X.room_calling (g := g) (R' := (headSpec ws rm).room) hsize hmY hcY hframes (by rw [hlY]; omega) h4 h5) h1
  obtain ⟨mid, hmid⟩ := h.above
  have hfr : (U.setTop g).frames = (.java g :: mid) ++ below := by rw [State.frames_setTop' g h.top, hmid]; rfl
  obtain ⟨o, s₂, hsteps, -, hend, hq⟩ := Steps.callFree hM p X.admits X.cas X.clock (acts := []) hfr happ hPc trivial
  have hq' : vx_Q Qc XC mc ms free a (U.calling g mk a) o s₂ := hq
  rw [State.frames_setTop' g h.top] at hend
  obtain ⟨g₀, hg0⟩ := Option.isSome_iff_exists.mp h.top
  obtain ⟨r, hr⟩ := State.topJava?_eq_some.mp hg0
  have hr' : (({ U with heap := s₂.heap, slotsUsed := s₂.slotsUsed } : State).setVm s₂.vm).frames = .java g₀ :: r := hr
  rcases hq' with ⟨hqc, L, hfe, hL⟩ | ⟨q, rfl, E, ce, L, hx, hce, hcv, hcl, hW₂, hsm, hL⟩
  · obtain ⟨⟨v, rfl⟩, hW₂, e2, q2, q3, q4, q5, q6⟩ := id hfe
    have e3 : s₂ = ({ (U.calling g mk a).setFrames s₂.frames with heap := s₂.heap, slotsUsed := s₂.slotsUsed } : State).setVm s₂.vm := by
      have : s₂ = ({ s₂ with vm := (U.calling g mk a).vm } : State).setVm s₂.vm := rfl
      rw [e2] at this
      exact this
    obtain ⟨c₂, i₂, len₂, hc₂, hd₂, hf₂⟩ := hend
    have hW' : U.WarmedH s₂.vm := hW₂
    have hcc : c₂ = c := by
      have h1 : s₂.code? g.method = U.code? g.method := by
        rw [State.code?_eq, State.code?_eq, hW'.alike.method?]
      exact Option.some.inj (hc₂.symm.trans (h1.trans h.code))
    subst hcc
    have hlen : len₂ = len := by rw [hdg] at hd₂; cases hd₂; rfl
    subst hlen
    have hs₂ : s₂ = (({ U with heap := s₂.heap, slotsUsed := s₂.slotsUsed } : State).setVm s₂.vm).setTop { g with pc := g.pc + len₂, stack := v.toList ++ g.stack } := by
      refine e3.trans ?_
      rw [hf₂, State.calling_eq h.top, State.setFrames_setFrames, State.setTop_of_frames _ hr', hr]
      rfl
    have hsame : U.sameButNew ({ U with heap := s₂.heap, slotsUsed := s₂.slotsUsed } : State) L mc ms := by
      refine ⟨?_, q2, q3, q4, q5, q6⟩
      obtain ⟨t, ht, -⟩ := State.frames_cons hr
      show ({ U with heap := s₂.heap, slotsUsed := s₂.slotsUsed } : State) = { U.setFrames U.frames with heap := s₂.heap, slotsUsed := s₂.slotsUsed }
      rw [State.setFrames_self ht]
    subst hg
    refine Or.inl ⟨v, ⟨(({ U with heap := s₂.heap, slotsUsed := s₂.slotsUsed } : State).setVm s₂.vm), Ls ++ L, c0 + mc, s0 + ms⟩,
      ⟨X.admits, X.cas, X.clock, X.frames, X.room, X.hears, X.method, X.code, (X.here.setHeapUsed s₂.heap s₂.slotsUsed).setVm hW'.alike, X.tail, State.WarmedH.trans X.warmed hW', X.limits, X.bytes, X.same.trans (hsame.setVm s.vm)⟩,
      ⟨g, mk, s₂, L, rfl, rfl, hqc, rfl, hL, rfl, rfl⟩, ?_⟩
    show Steps p.tables e below _ ((({ U with heap := s₂.heap, slotsUsed := s₂.slotsUsed } : State).setVm s₂.vm).setTop { g with pc := g.pc + len₂, stack := v.toList ++ g.stack })
    rw [← hs₂]
    exact hsteps
  · obtain ⟨e2, q2, q3, q4, q5, q6⟩ := id hsm
    have e3 : s₂ = ({ (U.calling g mk a).setFrames s₂.frames with heap := s₂.heap, slotsUsed := s₂.slotsUsed } : State).setVm s₂.vm := by
      have : s₂ = ({ s₂ with vm := (U.calling g mk a).vm } : State).setVm s₂.vm := rfl
      rw [e2] at this
      exact this
    have hf₂ : s₂.frames = .throwing q :: .java g :: U.frames.tail := hend
    have hW' : U.WarmedH s₂.vm := hW₂
    have hs₂ : s₂ = ((({ U with heap := s₂.heap, slotsUsed := s₂.slotsUsed } : State).setVm s₂.vm).setTop g).pushFrame (.throwing q) := by
      refine e3.trans ?_
      rw [hf₂, State.calling_eq h.top, State.setFrames_setFrames, State.pushFrame, State.frames_setTop _ hr', State.setTop_of_frames _ hr', State.setFrames_setFrames, hr]
      rfl
    have hsame : U.sameButNew ({ U with heap := s₂.heap, slotsUsed := s₂.slotsUsed } : State) L mc ms := by
      refine ⟨?_, q2, q3, q4, q5, q6⟩
      obtain ⟨t, ht, -⟩ := State.frames_cons hr
      show ({ U with heap := s₂.heap, slotsUsed := s₂.slotsUsed } : State) = { U.setFrames U.frames with heap := s₂.heap, slotsUsed := s₂.slotsUsed }
      rw [State.setFrames_self ht]
    subst hg
    refine Or.inr ⟨q, ⟨(({ U with heap := s₂.heap, slotsUsed := s₂.slotsUsed } : State).setVm s₂.vm), Ls ++ L, c0 + mc, s0 + ms⟩,
      ⟨X.admits, X.cas, X.clock, X.frames, X.room, X.hears, X.method, X.code, (X.here.setHeapUsed s₂.heap s₂.slotsUsed).setVm hW'.alike, X.tail, State.WarmedH.trans X.warmed hW', X.limits, X.bytes, X.same.trans (hsame.setVm s.vm)⟩,
      ⟨g, mk, s₂, L, E, ce, rfl, rfl, hx, hce, hcv, hcl, rfl, hL, rfl, rfl⟩, ?_⟩
    show Steps p.tables e below _ (((({ U with heap := s₂.heap, slotsUsed := s₂.slotsUsed } : State).setVm s₂.vm).setTop g).pushFrame (.throwing q))
    rw [← hs₂]
    exact hsteps
end Payer
section Calls
variable {p : Program} {l : Launch} {e : Env} {R : Room} {s : State} {m : MethodId} {args : Array Value} {below : List Frame} {meth : Method} {c : Code} {T : State} {locs : List Loc} {cells slots : Nat}
theorem vx_callV (X : Stand p l e R s m args below meth c T locs cells slots) (hexec : p.tables.exec = Jvm.exec) {own C : String} {index : Nat} {y : MethodName} {bytes : ByteArray} {maxL : Nat} {ret : Option FieldType}
    (hown : s.vm.findClass own = some m.cls) (hlink : (Cond.methodLink own index y).before args s = true) (hinst : (Cond.instanceMethod y).before args s = true) (hsel : (Cond.selects C y y).before args s = true)
    (hcode : (Cond.code y bytes maxL ret).before args s = true) (hy : y.cls ≠ "java/lang/invoke/MethodHandle" ∧ y.cls ≠ "java/lang/invoke/VarHandle")
    {W9 : Nat} {Pre : Pt → Array Value → Prop} {Post : Pt → Array Value → Option Value → Pt → Prop} {PostX : Pt → Array Value → Addr → Pt → Prop} (hK : vx_Back l R p e below s args y 3 W9 Pre Post PostX)
    {b : Addr} {cellB : Cell} (hcell : T.heap[b]? = some cellB) (hobj : cellB.vm.isStatics = false) (hcls : s.vm.findClass C = some cellB.cls)
    {g : JFrame} (hg : g.method = m) (hsize : g.locals.size = c.maxLocals) {argsL rest : List Value} (hlen : ∀ sig, parseMethodDescriptor y.desc = some sig → argsL.length = sig.parameters.length)
    (hstack : g.stack = argsL.reverse ++ .ref b :: rest) (hW : 2 * g.monitorRoom + (rest.map fun v => v.category).sum ≤ W9) (hdg : decode c.code g.pc = .ok (.invokevirtual index, 3))
    (hpre : ∀ vm₁, s.WarmedH vm₁ → Pre ⟨T.setVm vm₁, locs, cells, slots⟩ (Value.ref b :: argsL).toArray) :
    (∃ (v : Option Value) (vm₁ : Vm) (B : Pt), s.WarmedH vm₁ ∧ Stand p l e R s m args below meth c B.U B.locs B.cells B.slots ∧ Post ⟨T.setVm vm₁, locs, cells, slots⟩ (Value.ref b :: argsL).toArray v B ∧
      ∀ target, Steps p.tables e below (B.U.setTop { g with pc := g.pc + 3, stack := v.toList ++ rest }) target → Steps p.tables e below (T.setTop g) target) ∨
    (∃ (q : Addr) (vm₁ : Vm) (B : Pt), s.WarmedH vm₁ ∧ Stand p l e R s m args below meth c B.U B.locs B.cells B.slots ∧ PostX ⟨T.setVm vm₁, locs, cells, slots⟩ (Value.ref b :: argsL).toArray q B ∧
      Steps p.tables e below (T.setTop g) ((B.U.setTop { g with stack := rest }).pushFrame (.throwing q))) := by
  obtain ⟨mk, methM, hnamed, hmethM, hstM, habM⟩ := Cond.instanceMethod_spec hinst
  obtain ⟨methM', cM, hmethM', -, -, -, -, -, -, hsigM⟩ := Cond.code_spec hnamed hcode
  cases hmethM.symm.trans hmethM'
  obtain ⟨c2, r2, m2, q1, q2, q3, q4, kP, hkP, hkPi⟩ := Cond.selects_spec hsel
  cases hcls.symm.trans q1
  cases (State.methodFound?_of_named hnamed hy).symm.trans q2
  cases hnamed.symm.trans q3
  have hselP : selectMethod e.platform s.vm cellB.cls mk = .method mk := by rw [Launch.admits_selectMethod X.admits]; exact q4
  obtain ⟨vm₁, X₁, hstep₁⟩ := X.invokevirtual hexec hown hlink hnamed hmethM hstM hkP hkPi hy (a := b) (cell := cellB) hcell
    (fun z h => by rw [h] at hobj; cases hobj) hselP hmethM habM hkP hkPi (g := g) hg (argsL := argsL) (rest := rest) (hlen _ hsigM) hstack hdg
  rcases hK m meth c ⟨T.setVm vm₁, locs, cells, slots⟩ { g with stack := rest } (.invokevirtual index) mk (Value.ref b :: argsL).toArray X₁ hg hsize hdg hW (X₁.named hnamed) (hpre vm₁ X₁.warmed) with ⟨v, B, X', hpost, hsteps⟩ | ⟨q, B, X', hpost, hsteps⟩
  · exact Or.inl ⟨v, vm₁, B, X₁.warmed, X', hpost, fun target h => hstep₁ _ fun acts => by rw [doInvoke_state]; exact hsteps.trans h⟩
  · exact Or.inr ⟨q, vm₁, B, X₁.warmed, X', hpost, hstep₁ _ fun acts => by rw [doInvoke_state]; exact hsteps⟩
theorem vx_callS (X : Stand p l e R s m args below meth c T locs cells slots) (hexec : p.tables.exec = Jvm.exec) {own : String} {index : Nat} {y : MethodName} {bytes : ByteArray} {maxL : Nat} {ret : Option FieldType}
    (hown : s.vm.findClass own = some m.cls) (hlink : (Cond.methodLink own index y).before args s = true) (hstat : (Cond.static y).before args s = true) (hinit : (Cond.initialized y.cls).before args s = true)
    (hcode : (Cond.code y bytes maxL ret).before args s = true) (hy : y.cls ≠ "java/lang/invoke/MethodHandle" ∧ y.cls ≠ "java/lang/invoke/VarHandle")
    {W9 : Nat} {Pre : Pt → Array Value → Prop} {Post : Pt → Array Value → Option Value → Pt → Prop} {PostX : Pt → Array Value → Addr → Pt → Prop} (hK : vx_Back l R p e below s args y 3 W9 Pre Post PostX)
    {g : JFrame} (hg : g.method = m) (hsize : g.locals.size = c.maxLocals) {argsL rest : List Value} (hlen : ∀ sig, parseMethodDescriptor y.desc = some sig → argsL.length = sig.parameters.length)
    (hstack : g.stack = argsL.reverse ++ rest) (hW : 2 * g.monitorRoom + (rest.map fun v => v.category).sum ≤ W9) (hdg : decode c.code g.pc = .ok (.invokestatic index, 3))
    (hpre : ∀ vm₁, s.WarmedH vm₁ → Pre ⟨T.setVm vm₁, locs, cells, slots⟩ argsL.toArray) :
    (∃ (v : Option Value) (vm₁ : Vm) (B : Pt), s.WarmedH vm₁ ∧ Stand p l e R s m args below meth c B.U B.locs B.cells B.slots ∧ Post ⟨T.setVm vm₁, locs, cells, slots⟩ argsL.toArray v B ∧
      ∀ target, Steps p.tables e below (B.U.setTop { g with pc := g.pc + 3, stack := v.toList ++ rest }) target → Steps p.tables e below (T.setTop g) target) ∨
    (∃ (q : Addr) (vm₁ : Vm) (B : Pt), s.WarmedH vm₁ ∧ Stand p l e R s m args below meth c B.U B.locs B.cells B.slots ∧ PostX ⟨T.setVm vm₁, locs, cells, slots⟩ argsL.toArray q B ∧
      Steps p.tables e below (T.setTop g) ((B.U.setTop { g with stack := rest }).pushFrame (.throwing q))) := by
  obtain ⟨mk, hnamed⟩ := Cond.code_named hcode
  obtain ⟨methM, cM, hmethM, -, -, -, -, -, -, hsigM⟩ := Cond.code_spec hnamed hcode
  have hstatic : methM.isStatic = true := Cond.static_spec hnamed hmethM hstat
  obtain ⟨kP, hkP, -⟩ := className_of_methodNamed hnamed
  have hinitP : kP.init = .initialized := Cond.initialized_spec (findClass_of_methodNamed hnamed) hkP hinit
  obtain ⟨vm₁, X₁, hstep₁⟩ := X.invokestatic hexec hown hlink hnamed hmethM hstatic hkP hinitP hy (g := g) hg (argsL := argsL) (rest := rest) (hlen _ hsigM) hstack hdg
  rcases hK m meth c ⟨T.setVm vm₁, locs, cells, slots⟩ { g with stack := rest } (.invokestatic index) mk argsL.toArray X₁ hg hsize hdg hW (X₁.named hnamed) (hpre vm₁ X₁.warmed) with ⟨v, B, X', hpost, hsteps⟩ | ⟨q, B, X', hpost, hsteps⟩
  · exact Or.inl ⟨v, vm₁, B, X₁.warmed, X', hpost, fun target h => hstep₁ _ fun acts => by rw [doInvoke_state]; exact hsteps.trans h⟩
  · exact Or.inr ⟨q, vm₁, B, X₁.warmed, X', hpost, hstep₁ _ fun acts => by rw [doInvoke_state]; exact hsteps⟩
end Calls
theorem vx_cls {s : State} {T : State} {vm₁ : Vm} {E : String} {k : ClassId} (hW : s.WarmedH vm₁) (h : (T.setVm vm₁).vm.findClass E = some k) : s.vm.findClass E = some k := by
  have h1 : vm₁.findClass E = some k := h
  rw [hW.alike.findClass] at h1
  exact h1
/-- the method's frame g, with q thrown over it -/
def vx_W (p : Program) (l : Launch) (e : Env) (R : Room) (s : State) (m : MethodId) (args : Array Value) (below : List Frame) (meth : Method) (c : Code) (H : Heap) (locs : List Loc) (cells slots : Nat) (Q : State → Prop) (g : JFrame) (q : Addr) : Prop :=
  ∀ T : State, T.heap = H → Stand p l e R s m args below meth c T locs cells slots → ∃ t, Steps p.tables e below ((T.setTop g).pushFrame (.throwing q)) t ∧ Q t
def vx_Run (p : Program) (l : Launch) (e : Env) (R : Room) (s : State) (m : MethodId) (args : Array Value) (below : List Frame) (meth : Method) (c : Code) (H : Heap) (locs : List Loc) (cells slots mc ms : Nat) (g : JFrame) (rest : List Value) (Qa : State → Outcome → State → Prop) (XC : String → State → State → Prop) (free : Addr → Prop) : Prop :=
  ∀ T : State, T.heap = H → Stand p l e R s m args below meth c T locs cells slots →
    (∃ (v : Option Value) (st₀ t T' : State) (L : List Loc), st₀.heap = H ∧ Stand p l e R s m args below meth c T' (locs ++ L) (cells + mc) (slots + ms) ∧ (∀ q ∈ L, free q.base) ∧ T'.heap = t.heap ∧ T'.vm = t.vm ∧ Qa st₀ (.returned v) t ∧
      Goes p e below T g T' { g with pc := g.pc + 3, stack := v.toList ++ rest }) ∨
    (∃ (q : Addr) (st₀ t T' : State) (L : List Loc) (E : String) (ce : Cell), st₀.heap = H ∧ Stand p l e R s m args below meth c T' (locs ++ L) (cells + mc) (slots + ms) ∧ (∀ z ∈ L, free z.base) ∧ T'.heap = t.heap ∧ T'.vm = t.vm ∧ XC E st₀ t ∧ t.heap[q]? = some ce ∧ ce.vm = .none ∧ s.vm.findClass E = some ce.cls ∧
      Steps p.tables e below (T.setTop g) ((T'.setTop { g with stack := rest }).pushFrame (.throwing q)))
def vx_X {S : Type} (px : S → Prop) (B : String → S → State → Prop) (A : Nat → Prop) : String → State → State → Prop := fun E st t => ∃ u : S, px u ∧ B E u t ∧ va_F A st t
section Runs
variable {p : Program} {l : Launch} {e : Env} {R : Room} {s : State} {m : MethodId} {args : Array Value} {below : List Frame} {meth : Method} {c : Code} {H : Heap} {locs : List Loc} {cells slots : Nat}
variable {y : MethodName} {bytes cc : ByteArray} {maxL nL mc ms n index : Nat} {ret : Option FieldType} {ws : List Cond} {rm : Room} {Pc : Array Value → State → Prop} {Qc : Array Value → State → Outcome → State → Prop} {XC : String → State → State → Prop} {free : Addr → Prop} {Ts : List Cond} {own C : String} {b : Addr} {As rest : List Value} {g : JFrame}
theorem vx_callBack (cb : CallB R s args own index y bytes maxL ret ws rm mc ms n) (hM : vx_Met l y ws rm Pc Qc XC mc ms free) (hbl : FrameBlind Pc) : vx_Back l R p e below s args y 3 8 (PreOf R mc ms Pc) (PostOf Qc mc ms free) (vx_Post XC mc ms free) := by
  obtain ⟨hrc, hrs, hfr, hlo, hws, hcw, -, hini, -⟩ := cb
  exact vx_back (bytes := bytes) (maxL := maxL) (ret := ret) hM hbl hrc hrs hfr hlo hws hcw (fun a' U hW => word_at hW (Or.inl (by first | rfl | simp [Cond.onTables, Cond.keeps, Cond.steady])) hini)
theorem vx_runV (S : CallFix p m c cc nL s args Ts own) (hM : vx_Met l y ws rm Pc Qc XC mc ms free) (cw : CallW R s args own C index y bytes maxL ret ws rm mc ms n) (hp : PreV s H C b Pc As)
    (hg : g.method = m) (hn : As.length = n) (hsize : g.locals.size = nL) (hstack : g.stack = As.reverse ++ .ref b :: rest) (hW : 2 * g.monitorRoom + (rest.map fun v => v.category).sum ≤ 8) (hdg : decode cc g.pc = .ok (.invokevirtual index, 3)) (hf : cells + mc ≤ R.cells ∧ slots + ms ≤ R.slots) :
    vx_Run p l e R s m args below meth c H locs cells slots mc ms g rest (Qc (Value.ref b :: As).toArray) XC free := by
  have hK : vx_Back l R p e below s args y 3 8 (PreOf R mc ms Pc) (PostOf Qc mc ms free) (vx_Post XC mc ms free) := vx_callBack cw.1 hM hp.1
  obtain ⟨⟨-, -, -, -, -, -, hcode, -, hy, hlen, hl⟩, hin, hse⟩ := cw
  obtain ⟨hx, hb, hml, ho, -⟩ := S
  obtain ⟨-, ⟨cellB, hcB, hoB, hclB⟩, hPc⟩ := hp
  intro T hT X
  rcases vx_callV X hx (C := C) (bytes := bytes) (maxL := maxL) (ret := ret) ho hl hin hse hcode hy hK (by rw [hT]; exact hcB) hoB hclB hg (hsize.trans hml.symm) (argsL := As) (rest := rest) (fun sig h => hn.trans (hlen sig h)) hstack hW (by rw [hb]; exact hdg)
    (fun vm₁ hW₁ => ⟨hf.1, hf.2, hPc (T.setVm vm₁) hT hW₁⟩) with ⟨v, vm₁, ⟨U', l2, c2, s2⟩, hW₁, X', ⟨g', mk, t, L, e1, e2, hq, h1, hL, h2, h3⟩, st⟩ | ⟨q, vm₁, ⟨U', l2, c2, s2⟩, hW₁, X', ⟨g', mk, t, L, E, ce, e1, e2, hq, hce, hcv, hcl, h1, hL, h2, h3⟩, st⟩
  · dsimp only [Pt.U, Pt.locs, Pt.cells, Pt.slots] at X' e1 e2 h1 h2 h3 st
    subst h1; subst h2; subst h3
    exact Or.inl ⟨v, (T.setVm vm₁).calling g' mk (Value.ref b :: As).toArray, t, U', L, hT, X', hL, e1, e2, hq, st⟩
  · dsimp only [Pt.U, Pt.locs, Pt.cells, Pt.slots] at X' e1 e2 h1 h2 h3 st hcl
    subst h1; subst h2; subst h3
    exact Or.inr ⟨q, (T.setVm vm₁).calling g' mk (Value.ref b :: As).toArray, t, U', L, E, ce, hT, X', hL, e1, e2, hq, hce, hcv, vx_cls hW₁ hcl, st⟩
theorem vx_runS (S : CallFix p m c cc nL s args Ts own) (hM : vx_Met l y ws rm Pc Qc XC mc ms free) (cw : CallB R s args own index y bytes maxL ret ws rm mc ms n ∧ (Cond.static y).before args s = true) (hp : PreS s H Pc As)
    (hg : g.method = m) (hn : As.length = n) (hsize : g.locals.size = nL) (hstack : g.stack = As.reverse ++ rest) (hW : 2 * g.monitorRoom + (rest.map fun v => v.category).sum ≤ 8) (hdg : decode cc g.pc = .ok (.invokestatic index, 3)) (hf : cells + mc ≤ R.cells ∧ slots + ms ≤ R.slots) :
    vx_Run p l e R s m args below meth c H locs cells slots mc ms g rest (Qc As.toArray) XC free := by
  have hK : vx_Back l R p e below s args y 3 8 (PreOf R mc ms Pc) (PostOf Qc mc ms free) (vx_Post XC mc ms free) := vx_callBack cw.1 hM hp.1
  obtain ⟨⟨-, -, -, -, -, -, hcode, hini, hy, hlen, hl⟩, hstt⟩ := cw
  obtain ⟨hx, hb, hml, ho, -⟩ := S
  intro T hT X
  rcases vx_callS X hx (bytes := bytes) (maxL := maxL) (ret := ret) ho hl hstt hini hcode hy hK hg (hsize.trans hml.symm) (argsL := As) (rest := rest) (fun sig h => hn.trans (hlen sig h)) hstack hW (by rw [hb]; exact hdg)
    (fun vm₁ hW₁ => ⟨hf.1, hf.2, hp.2 (T.setVm vm₁) hT hW₁⟩) with ⟨v, vm₁, ⟨U', l2, c2, s2⟩, hW₁, X', ⟨g', mk, t, L, e1, e2, hq, h1, hL, h2, h3⟩, st⟩ | ⟨q, vm₁, ⟨U', l2, c2, s2⟩, hW₁, X', ⟨g', mk, t, L, E, ce, e1, e2, hq, hce, hcv, hcl, h1, hL, h2, h3⟩, st⟩
  · dsimp only [Pt.U, Pt.locs, Pt.cells, Pt.slots] at X' e1 e2 h1 h2 h3 st
    subst h1; subst h2; subst h3
    exact Or.inl ⟨v, (T.setVm vm₁).calling g' mk As.toArray, t, U', L, hT, X', hL, e1, e2, hq, st⟩
  · dsimp only [Pt.U, Pt.locs, Pt.cells, Pt.slots] at X' e1 e2 h1 h2 h3 st hcl
    subst h1; subst h2; subst h3
    exact Or.inr ⟨q, (T.setVm vm₁).calling g' mk As.toArray, t, U', L, E, ce, hT, X', hL, e1, e2, hq, hce, hcv, vx_cls hW₁ hcl, st⟩
end Runs
section Rows
variable {p : Program} {l : Launch} {e : Env} {R : Room} {s : State} {m : MethodId} {args : Array Value} {below : List Frame} {meth : Method} {c : Code} {H : Heap} {locs : List Loc} {cells slots : Nat} {Q : State → Prop}
variable {mc ms : Nat} {free : Addr → Prop} {A0 A1 : Nat → Prop} {H0 : Heap} {a : Array Value} {pc : Nat} {ls : Array Slot} {st0 rest : List Value}
theorem vx_keep {st₀ t T' : State} {L : List Loc} (h0 : st₀.heap = H) (e1 : T'.heap = t.heap) (hS : va_S A0 H0 H locs) (hA : ∀ q, q < H.size → A1 q → A0 q) (hf : ∀ q, free q → A0 q) (hL : ∀ q ∈ L, free q.base) (hF : va_F A1 st₀ t) :
    H.size ≤ T'.heap.size ∧ (∀ q : Nat, q < H.size → ¬ A1 q → T'.heap[q]? = H[q]?) ∧ va_S A0 H0 T'.heap (locs ++ L) := by
  obtain ⟨hz, hk⟩ := hF
  rw [h0] at hz hk
  exact ⟨by rw [e1]; exact hz, fun q h1 h2 => by rw [e1]; exact hk q h1 h2,
    ⟨Nat.le_trans hS.1 (by rw [e1]; exact hz), fun q h1 h2 => by rw [e1, hk q (Nat.lt_of_lt_of_le h1 hS.1) (fun z => h2 (hA q (Nat.lt_of_lt_of_le h1 hS.1) z))]; exact hS.2.1 q h1 h2, fun q hq => by
      rcases List.mem_append.mp hq with h | h
      · exact hS.2.2 q h
      · exact hf _ (hL q h)⟩⟩
theorem vx_calli {S SX : Type} {post : Int32 → S → Prop} {px : SX → Prop} {B : S → State → Prop} {BX : String → SX → State → Prop} {AX : Nat → Prop} (hr : vx_Run p l e R s m args below meth c H locs cells slots mc ms (F0 m pc ls st0) rest (va_Qi post B A1 a) (vx_X px BX AX) free) (hS : va_S A0 H0 H locs) (hA : ∀ q, q < H.size → A1 q → A0 q) (hf : ∀ q, free q → A0 q) (hAX : ∀ q, q < H.size → AX q → A0 q)
    (kx : ∀ (E : String) (ce : Cell) (q9 : Addr) (u : SX) (t : State) (H1 : Heap) (locs1 : List Loc), t.heap = H1 → s.vm.Alike t.vm → px u → BX E u t → H.size ≤ H1.size → (∀ q : Nat, q < H.size → ¬ AX q → H1[q]? = H[q]?) → va_S A0 H0 H1 locs1 → H1[q9]? = some ce → ce.vm = .none → s.vm.findClass E = some ce.cls → vx_W p l e R s m args below meth c H1 locs1 (cells + mc) (slots + ms) Q (F0 m pc ls rest) q9)
    (kk : ∀ (r : Int32) (u : S) (t : State) (H1 : Heap) (locs1 : List Loc), t.heap = H1 → s.vm.Alike t.vm → post r u → B u t → H.size ≤ H1.size → (∀ q : Nat, q < H.size → ¬ A1 q → H1[q]? = H[q]?) → va_S A0 H0 H1 locs1 → W p l e R s m args below meth c H1 locs1 (cells + mc) (slots + ms) Q (F0 m (pc + 3) ls (.int r :: rest))) : W p l e R s m args below meth c H locs cells slots Q (F0 m pc ls st0) := by
  intro T hT X
  rcases hr T hT X with ⟨v, st₀, t, T', L, h0, X', hL, e1, e2, ⟨⟨r, u, hv, hp, hb⟩, hF⟩, st⟩ | ⟨q, st₀, t, T', L, E, ce, h0, X', hL, e1, e2, ⟨u, hp, hb, hF⟩, hce, hcv, hcl, st⟩
  · cases hv
    obtain ⟨k1, k2, k3⟩ := vx_keep h0 e1 hS hA hf hL hF
    obtain ⟨t2, a1, b1⟩ := kk r u t T'.heap (locs ++ L) e1.symm (by rw [← e2]; exact X'.warmed.alike) hp hb k1 k2 k3 T' rfl X'
    exact ⟨t2, st t2 a1, b1⟩
  · obtain ⟨k1, k2, k3⟩ := vx_keep h0 e1 hS hAX hf hL hF
    obtain ⟨t2, a1, b1⟩ := kx E ce q u t T'.heap (locs ++ L) e1.symm (by rw [← e2]; exact X'.warmed.alike) hp hb k1 k2 k3 (by rw [e1]; exact hce) hcv hcl T' rfl X'
    exact ⟨t2, st.trans a1, b1⟩
theorem vx_calll {S SX : Type} {post : Int64 → S → Prop} {px : SX → Prop} {B : S → State → Prop} {BX : String → SX → State → Prop} {AX : Nat → Prop} (hr : vx_Run p l e R s m args below meth c H locs cells slots mc ms (F0 m pc ls st0) rest (va_Ql post B A1 a) (vx_X px BX AX) free) (hS : va_S A0 H0 H locs) (hA : ∀ q, q < H.size → A1 q → A0 q) (hf : ∀ q, free q → A0 q) (hAX : ∀ q, q < H.size → AX q → A0 q)
    (kx : ∀ (E : String) (ce : Cell) (q9 : Addr) (u : SX) (t : State) (H1 : Heap) (locs1 : List Loc), t.heap = H1 → s.vm.Alike t.vm → px u → BX E u t → H.size ≤ H1.size → (∀ q : Nat, q < H.size → ¬ AX q → H1[q]? = H[q]?) → va_S A0 H0 H1 locs1 → H1[q9]? = some ce → ce.vm = .none → s.vm.findClass E = some ce.cls → vx_W p l e R s m args below meth c H1 locs1 (cells + mc) (slots + ms) Q (F0 m pc ls rest) q9)
    (kk : ∀ (r : Int64) (u : S) (t : State) (H1 : Heap) (locs1 : List Loc), t.heap = H1 → s.vm.Alike t.vm → post r u → B u t → H.size ≤ H1.size → (∀ q : Nat, q < H.size → ¬ A1 q → H1[q]? = H[q]?) → va_S A0 H0 H1 locs1 → W p l e R s m args below meth c H1 locs1 (cells + mc) (slots + ms) Q (F0 m (pc + 3) ls (.long r :: rest))) : W p l e R s m args below meth c H locs cells slots Q (F0 m pc ls st0) := by
  intro T hT X
  rcases hr T hT X with ⟨v, st₀, t, T', L, h0, X', hL, e1, e2, ⟨⟨r, u, hv, hp, hb⟩, hF⟩, st⟩ | ⟨q, st₀, t, T', L, E, ce, h0, X', hL, e1, e2, ⟨u, hp, hb, hF⟩, hce, hcv, hcl, st⟩
  · cases hv
    obtain ⟨k1, k2, k3⟩ := vx_keep h0 e1 hS hA hf hL hF
    obtain ⟨t2, a1, b1⟩ := kk r u t T'.heap (locs ++ L) e1.symm (by rw [← e2]; exact X'.warmed.alike) hp hb k1 k2 k3 T' rfl X'
    exact ⟨t2, st t2 a1, b1⟩
  · obtain ⟨k1, k2, k3⟩ := vx_keep h0 e1 hS hAX hf hL hF
    obtain ⟨t2, a1, b1⟩ := kx E ce q u t T'.heap (locs ++ L) e1.symm (by rw [← e2]; exact X'.warmed.alike) hp hb k1 k2 k3 (by rw [e1]; exact hce) hcv hcl T' rfl X'
    exact ⟨t2, st.trans a1, b1⟩
theorem vx_callf {S SX : Type} {post : UInt32 → S → Prop} {px : SX → Prop} {B : S → State → Prop} {BX : String → SX → State → Prop} {AX : Nat → Prop} (hr : vx_Run p l e R s m args below meth c H locs cells slots mc ms (F0 m pc ls st0) rest (va_Qf post B A1 a) (vx_X px BX AX) free) (hS : va_S A0 H0 H locs) (hA : ∀ q, q < H.size → A1 q → A0 q) (hf : ∀ q, free q → A0 q) (hAX : ∀ q, q < H.size → AX q → A0 q)
    (kx : ∀ (E : String) (ce : Cell) (q9 : Addr) (u : SX) (t : State) (H1 : Heap) (locs1 : List Loc), t.heap = H1 → s.vm.Alike t.vm → px u → BX E u t → H.size ≤ H1.size → (∀ q : Nat, q < H.size → ¬ AX q → H1[q]? = H[q]?) → va_S A0 H0 H1 locs1 → H1[q9]? = some ce → ce.vm = .none → s.vm.findClass E = some ce.cls → vx_W p l e R s m args below meth c H1 locs1 (cells + mc) (slots + ms) Q (F0 m pc ls rest) q9)
    (kk : ∀ (r : UInt32) (u : S) (t : State) (H1 : Heap) (locs1 : List Loc), t.heap = H1 → s.vm.Alike t.vm → post r u → B u t → H.size ≤ H1.size → (∀ q : Nat, q < H.size → ¬ A1 q → H1[q]? = H[q]?) → va_S A0 H0 H1 locs1 → W p l e R s m args below meth c H1 locs1 (cells + mc) (slots + ms) Q (F0 m (pc + 3) ls (.float r :: rest))) : W p l e R s m args below meth c H locs cells slots Q (F0 m pc ls st0) := by
  intro T hT X
  rcases hr T hT X with ⟨v, st₀, t, T', L, h0, X', hL, e1, e2, ⟨⟨r, u, hv, hp, hb⟩, hF⟩, st⟩ | ⟨q, st₀, t, T', L, E, ce, h0, X', hL, e1, e2, ⟨u, hp, hb, hF⟩, hce, hcv, hcl, st⟩
  · cases hv
    obtain ⟨k1, k2, k3⟩ := vx_keep h0 e1 hS hA hf hL hF
    obtain ⟨t2, a1, b1⟩ := kk r u t T'.heap (locs ++ L) e1.symm (by rw [← e2]; exact X'.warmed.alike) hp hb k1 k2 k3 T' rfl X'
    exact ⟨t2, st t2 a1, b1⟩
  · obtain ⟨k1, k2, k3⟩ := vx_keep h0 e1 hS hAX hf hL hF
    obtain ⟨t2, a1, b1⟩ := kx E ce q u t T'.heap (locs ++ L) e1.symm (by rw [← e2]; exact X'.warmed.alike) hp hb k1 k2 k3 (by rw [e1]; exact hce) hcv hcl T' rfl X'
    exact ⟨t2, st.trans a1, b1⟩
theorem vx_calld {S SX : Type} {post : UInt64 → S → Prop} {px : SX → Prop} {B : S → State → Prop} {BX : String → SX → State → Prop} {AX : Nat → Prop} (hr : vx_Run p l e R s m args below meth c H locs cells slots mc ms (F0 m pc ls st0) rest (va_Qd post B A1 a) (vx_X px BX AX) free) (hS : va_S A0 H0 H locs) (hA : ∀ q, q < H.size → A1 q → A0 q) (hf : ∀ q, free q → A0 q) (hAX : ∀ q, q < H.size → AX q → A0 q)
    (kx : ∀ (E : String) (ce : Cell) (q9 : Addr) (u : SX) (t : State) (H1 : Heap) (locs1 : List Loc), t.heap = H1 → s.vm.Alike t.vm → px u → BX E u t → H.size ≤ H1.size → (∀ q : Nat, q < H.size → ¬ AX q → H1[q]? = H[q]?) → va_S A0 H0 H1 locs1 → H1[q9]? = some ce → ce.vm = .none → s.vm.findClass E = some ce.cls → vx_W p l e R s m args below meth c H1 locs1 (cells + mc) (slots + ms) Q (F0 m pc ls rest) q9)
    (kk : ∀ (r : UInt64) (u : S) (t : State) (H1 : Heap) (locs1 : List Loc), t.heap = H1 → s.vm.Alike t.vm → post r u → B u t → H.size ≤ H1.size → (∀ q : Nat, q < H.size → ¬ A1 q → H1[q]? = H[q]?) → va_S A0 H0 H1 locs1 → W p l e R s m args below meth c H1 locs1 (cells + mc) (slots + ms) Q (F0 m (pc + 3) ls (.double r :: rest))) : W p l e R s m args below meth c H locs cells slots Q (F0 m pc ls st0) := by
  intro T hT X
  rcases hr T hT X with ⟨v, st₀, t, T', L, h0, X', hL, e1, e2, ⟨⟨r, u, hv, hp, hb⟩, hF⟩, st⟩ | ⟨q, st₀, t, T', L, E, ce, h0, X', hL, e1, e2, ⟨u, hp, hb, hF⟩, hce, hcv, hcl, st⟩
  · cases hv
    obtain ⟨k1, k2, k3⟩ := vx_keep h0 e1 hS hA hf hL hF
    obtain ⟨t2, a1, b1⟩ := kk r u t T'.heap (locs ++ L) e1.symm (by rw [← e2]; exact X'.warmed.alike) hp hb k1 k2 k3 T' rfl X'
    exact ⟨t2, st t2 a1, b1⟩
  · obtain ⟨k1, k2, k3⟩ := vx_keep h0 e1 hS hAX hf hL hF
    obtain ⟨t2, a1, b1⟩ := kx E ce q u t T'.heap (locs ++ L) e1.symm (by rw [← e2]; exact X'.warmed.alike) hp hb k1 k2 k3 (by rw [e1]; exact hce) hcv hcl T' rfl X'
    exact ⟨t2, st.trans a1, b1⟩
theorem vx_callv {S SX : Type} {post : S → Prop} {px : SX → Prop} {B : S → State → Prop} {BX : String → SX → State → Prop} {AX : Nat → Prop} (hr : vx_Run p l e R s m args below meth c H locs cells slots mc ms (F0 m pc ls st0) rest (va_Qv post B A1 a) (vx_X px BX AX) free) (hS : va_S A0 H0 H locs) (hA : ∀ q, q < H.size → A1 q → A0 q) (hf : ∀ q, free q → A0 q) (hAX : ∀ q, q < H.size → AX q → A0 q)
    (kx : ∀ (E : String) (ce : Cell) (q9 : Addr) (u : SX) (t : State) (H1 : Heap) (locs1 : List Loc), t.heap = H1 → s.vm.Alike t.vm → px u → BX E u t → H.size ≤ H1.size → (∀ q : Nat, q < H.size → ¬ AX q → H1[q]? = H[q]?) → va_S A0 H0 H1 locs1 → H1[q9]? = some ce → ce.vm = .none → s.vm.findClass E = some ce.cls → vx_W p l e R s m args below meth c H1 locs1 (cells + mc) (slots + ms) Q (F0 m pc ls rest) q9)
    (kk : ∀ (u : S) (t : State) (H1 : Heap) (locs1 : List Loc), t.heap = H1 → s.vm.Alike t.vm → post u → B u t → H.size ≤ H1.size → (∀ q : Nat, q < H.size → ¬ A1 q → H1[q]? = H[q]?) → va_S A0 H0 H1 locs1 → W p l e R s m args below meth c H1 locs1 (cells + mc) (slots + ms) Q (F0 m (pc + 3) ls (rest))) : W p l e R s m args below meth c H locs cells slots Q (F0 m pc ls st0) := by
  intro T hT X
  rcases hr T hT X with ⟨v, st₀, t, T', L, h0, X', hL, e1, e2, ⟨⟨u, hv, hp, hb⟩, hF⟩, st⟩ | ⟨q, st₀, t, T', L, E, ce, h0, X', hL, e1, e2, ⟨u, hp, hb, hF⟩, hce, hcv, hcl, st⟩
  · cases hv
    obtain ⟨k1, k2, k3⟩ := vx_keep h0 e1 hS hA hf hL hF
    obtain ⟨t2, a1, b1⟩ := kk u t T'.heap (locs ++ L) e1.symm (by rw [← e2]; exact X'.warmed.alike) hp hb k1 k2 k3 T' rfl X'
    exact ⟨t2, st t2 a1, b1⟩
  · obtain ⟨k1, k2, k3⟩ := vx_keep h0 e1 hS hAX hf hL hF
    obtain ⟨t2, a1, b1⟩ := kx E ce q u t T'.heap (locs ++ L) e1.symm (by rw [← e2]; exact X'.warmed.alike) hp hb k1 k2 k3 (by rw [e1]; exact hce) hcv hcl T' rfl X'
    exact ⟨t2, st.trans a1, b1⟩
/-- caught by the row x of this method's table; the rows ahead don't take it -/
theorem vx_catch {own name : String} {E : String} {ce : Cell} {q : Addr} (hown : s.vm.findClass own = some m.cls) (pre : List ExceptionTableEntry) (x : ExceptionTableEntry) (suf : List ExceptionTableEntry) (hsplit : c.exceptionTable.toList = pre ++ x :: suf)
    (hpass : ∀ z ∈ pre, covers z pc = false ∨ (z.catchType ≠ 0 ∧ ∃ nm : String, (Cond.classLink own z.catchType nm).before args s = true ∧ va_Nc E nm s)) (hx : covers x pc = true) (h0 : x.catchType ≠ 0)
    (hlink : (Cond.classLink own x.catchType name).before args s = true) (hcast : (Cond.castable E name).before args s = true) (hcell : H[q]? = some ce) (hv : ce.vm = .none) (hcl : s.vm.findClass E = some ce.cls)
    (kk : W p l e R s m args below meth c H locs cells slots Q (F0 m x.handlerPc ls [.ref q])) : vx_W p l e R s m args below meth c H locs cells slots Q (F0 m pc ls rest) q := by
  intro T hT X
  have hpl : e.platform.magicAccessors = ({} : Platform).magicAccessors := by rw [X.admits.platform]
  obtain ⟨c3, c4, hc3, hc4, hasg⟩ := Cond.castable_spec hcast
  cases Option.some.inj (hc3.symm.trans hcl)
  obtain ⟨c5, hc5, hcl5⟩ := Cond.classLink_spec hown hlink e.platform hpl
  cases Option.some.inj (hc4.symm.trans hc5)
  obtain ⟨vm', X', st⟩ := X.thenCaughtThrough q (g := F0 m pc ls rest) rfl (Steps.refl _) (by rw [hT]; exact hcell) (by rw [hv]; rfl) (by obtain ⟨k9, h9, -⟩ := Vm.findClass_spec hcl; exact ⟨k9, h9⟩) pre x suf hsplit
    (fun z hz => by
      rcases hpass z hz with h | ⟨hz0, nm, hl1, hn1⟩
      · exact Or.inl h
      · obtain ⟨c6, hc6, hcl6⟩ := Cond.classLink_spec hown hl1 e.platform hpl
        obtain ⟨a8, b8, h1, h2, h3⟩ := hn1
        cases Option.some.inj (h1.symm.trans hcl)
        cases Option.some.inj (h2.symm.trans hc6)
        exact Or.inr ⟨hz0, _, hcl6, h3⟩) hx (Or.inr ⟨h0, c4, hcl5, hasg⟩)
  obtain ⟨t, a1, b1⟩ := kk (T.setVm vm') hT X'
  exact ⟨t, st.trans a1, b1⟩
end Rows
section Ends
variable {p : Program} {l : Launch} {e : Env} {R : Room} {s : State} {m : MethodId} {args : Array Value} {below : List Frame} {meth : Method} {c : Code} {H : Heap} {locs : List Loc} {cells slots : Nat} {Q : State → Prop}
variable {mc ms : Nat} {free : Addr → Prop} {A0 A1 : Nat → Prop} {H0 : Heap} {a : Array Value} {ls : Array Slot} {st0 rest : List Value}
variable {Qc : Array Value → State → Outcome → State → Prop} {XC : String → State → State → Prop}
/-- what a body that may throw owes at its end -/
def vx_MQ (below : List Frame) (Qc : Array Value → State → Outcome → State → Prop) (XC : String → State → State → Prop) (a : Array Value) (s : State) (mc ms : Nat) (free : Addr → Prop) : State → Prop := fun t =>
  ∃ o, t.status = .running ∧ Ended t below o ∧ vx_Q Qc XC mc ms free a s o t
theorem vx_ret {g : JFrame} {mc ms : Nat} (k : W p l e R s m args below meth c H locs cells slots (MQ below Qc args s mc ms free) g) : W p l e R s m args below meth c H locs cells slots (vx_MQ below Qc XC args s mc ms free) g := by
  intro T hT X
  obtain ⟨t, a1, o, b1, b2, b3, b4⟩ := k T hT X
  exact ⟨t, a1, o, b1, b2, Or.inl ⟨b3, b4⟩⟩
/-- not caught here: it goes on to the caller -/
theorem vx_widen {g : JFrame} {q : Addr} {k n : Nat} (h1 : cells ≤ k) (h2 : slots ≤ n) (kk : vx_W p l e R s m args below meth c H locs k n Q g q) : vx_W p l e R s m args below meth c H locs cells slots Q g q := fun T hT X => kk T hT (stand_widen X h1 h2)
theorem vx_out {pc : Nat} {E : String} {ce : Cell} {q : Addr} {mc ms : Nat} (hout : ∀ x ∈ c.exceptionTable.toList, covers x pc = false) (hlocks : meth.locks = false) (hcell : H[q]? = some ce) (hv : ce.vm = .none) (hcl : s.vm.findClass E = some ce.cls)
    (hx : ∀ t : State, t.heap = H → s.vm.Alike t.vm → XC E s t) (hf : ∀ z ∈ locs, free z.base) (hc : cells ≤ mc) (hs : slots ≤ ms) :
    vx_W p l e R s m args below meth c H locs cells slots (vx_MQ below Qc XC args s mc ms free) (F0 m pc ls rest) q := by
  intro T hT X
  obtain ⟨st1, hrun, hend, hW, hsm⟩ := X.leaveThrown q (g := F0 m pc ls rest) rfl rfl rfl hout hlocks
  have hcell9 : (T.setFrames (.throwing q :: below)).heap[q]? = some ce := by
    show T.heap[q]? = some ce
    rw [hT]; exact hcell
  exact ⟨_, st1, .threw q, hrun, hend, Or.inr ⟨q, rfl, E, ce, locs, hx _ hT hW.alike, hcell9, hv, hcl, hW, hsm.mono hc hs, hf⟩⟩
theorem vx_frame {U : State} {k n : Nat} (h : s.sameButNew ({ U with vm := s.vm } : State) locs k n) : s.heap.size ≤ U.heap.size ∧ ∀ q : Nat, q < s.heap.size → (∀ z ∈ locs, z.base ≠ q) → U.heap[q]? = s.heap[q]? := by
  obtain ⟨-, h2, -, -, -, h6⟩ := h
  refine ⟨h2, fun q hq hz => ?_⟩
  obtain ⟨c9, e1, e2, e3, e4⟩ := h6 q _ (Array.getElem?_eq_getElem hq)
  have hs : c9.slots = (s.heap[q]).slots := Array.ext_getElem? fun i => e4 i fun hm => hz _ hm rfl
  have h9 : c9 = s.heap[q] := by
    rw [hs] at e2
    exact e2
  have e5 : U.heap[q]? = some c9 := e1
  rw [e5, h9, Array.getElem?_eq_getElem hq]
/-- the words of a throw but the four that speak of the heap -/
def vx_no (w : Cond) : Bool := decide (w ≠ .isRef (.static Bundle.tN "UNASSIGNED_STACK" Bundle.steD)) && decide (w ≠ .isRef (.static Bundle.tN "SUPPRESSED_SENTINEL" Bundle.listD)) && decide (w ≠ .laysStatic Bundle.tN "UNASSIGNED_STACK" Bundle.steD) && decide (w ≠ .laysStatic Bundle.tN "SUPPRESSED_SENTINEL" Bundle.listD)
def vx_at0 (own : String) (ic : Nat) (X : String) (names : List String) : List Cond := (Bundle.ownAtoms0 own ic X names).filter vx_no
def vx_atS (own : String) (ic : Nat) (X : String) (names : List String) : List Cond := (Bundle.ownAtoms own ic X names).filter vx_no
/-- a word that the tables alone decide, or a good one -/
def vx_ot (w : Cond) : Bool := w.onTables || goodWord w
theorem vx_ot_at {args a' : Array Value} {s U : State} {w : Cond} (hW : s.WarmedH U.vm) (hvm : s.vm = U.vm) (hg : vx_ot w = true) (h : w.before args s = true) : w.before a' U = true := by
  simp only [vx_ot, Bool.or_eq_true] at hg
  rcases hg with hg | hg
  · exact va_tabs hg hvm h
  · exact word_at hW (good_of_word hg) h
/-- a list's words: the good ones out of the method's own list, the others by premises of their own -/
theorem vx_hat {args : Array Value} {s : State} {L B : List Cond} (h1 : ∀ w ∈ L.filter goodWord, w.before args s = true) (h2 : ∀ w ∈ L.filter (fun w => !goodWord w), w ∈ B) (h3 : ∀ w ∈ B, w.before args s = true) : ∀ w ∈ L, w.before args s = true := by
  intro w hw
  by_cases g : goodWord w = true
  · exact h1 w (List.mem_filter.mpr ⟨hw, g⟩)
  · refine h3 w (h2 w (List.mem_filter.mpr ⟨hw, ?_⟩))
    show (!goodWord w) = true
    cases hgw : goodWord w
    · rfl
    · exact absurd hgw g
theorem vx_c {args : Array Value} {s : State} {w : Cond} {B : List Cond} (h : w.before args s = true) (t : ∀ w ∈ B, w.before args s = true) : ∀ w' ∈ w :: B, w'.before args s = true := fun w' h' => (List.mem_cons.mp h').elim (fun e => by rw [e]; exact h) (t w')
theorem vx_n {args : Array Value} {s : State} : ∀ w ∈ ([] : List Cond), w.before args s = true := fun _ h => nomatch h
theorem vx_own {args : Array Value} {s : State} {L : List Cond} (h1 : ∀ w ∈ L.filter vx_no, w.before args s = true)
    (hU : (Cond.isRef (.static Bundle.tN "UNASSIGNED_STACK" Bundle.steD)).before args s = true) (hN : (Cond.isRef (.static Bundle.tN "SUPPRESSED_SENTINEL" Bundle.listD)).before args s = true)
    (lU : (Cond.laysStatic Bundle.tN "UNASSIGNED_STACK" Bundle.steD).before args s = true) (lN : (Cond.laysStatic Bundle.tN "SUPPRESSED_SENTINEL" Bundle.listD).before args s = true) : ∀ w ∈ L, w.before args s = true := by
  intro w hw
  by_cases e1 : w = .isRef (.static Bundle.tN "UNASSIGNED_STACK" Bundle.steD)
  · rw [e1]; exact hU
  · by_cases e2 : w = .isRef (.static Bundle.tN "SUPPRESSED_SENTINEL" Bundle.listD)
    · rw [e2]; exact hN
    · by_cases e3 : w = .laysStatic Bundle.tN "UNASSIGNED_STACK" Bundle.steD
      · rw [e3]; exact lU
      · by_cases e4 : w = .laysStatic Bundle.tN "SUPPRESSED_SENTINEL" Bundle.listD
        · rw [e4]; exact lN
        · exact h1 w (List.mem_filter.mpr ⟨hw, by unfold vx_no; rw [decide_eq_true e1, decide_eq_true e2, decide_eq_true e3, decide_eq_true e4]; rfl⟩)
/-- where a static field lies, its class's statics cell in H -/
def vx_L (C n d : String) (A : Nat → Prop) (U : State) (H : Heap) : Prop := ∃ (c : ClassId) (k : Class) (i : Nat) (f : Field) (a : Nat) (cell : Cell), U.vm.findClass C = some c ∧ U.fieldFound? C n d = some (c, k, i, f) ∧ f.isStatic = true ∧ k.statics = some a ∧ H[a]? = some cell ∧ cell.vm.isStatics = true ∧ cell.cls = c ∧ f.slot < cell.slots.size ∧ k.staticTypes[f.slot]? = some f.type ∧ ¬ A a
theorem vx_L.moved {C n d : String} {A : Nat → Prop} {u U : State} {H : Heap} (hvm : u.vm.Alike U.vm) (h : vx_L C n d A u H) : vx_L C n d A U H := by
  obtain ⟨c, k, i, f, a, cell, h1, h2, h3, h4, h5, h6, h7, h8, h9, h10⟩ := h
  obtain ⟨k', hi', he⟩ := State.fieldFound?_setVm hvm h2
  exact ⟨c, k', i, f, a, cell, by rw [hvm.findClass]; exact h1, hi', h3, by rw [he]; exact h4, h5, h6, h7, h8, by rw [he]; exact h9, h10⟩
theorem vx_L.kept {C n d : String} {A : Nat → Prop} {U : State} {H H1 : Heap} (h : vx_L C n d A U H) (hq : ∀ a : Nat, a < H.size → ¬ A a → H1[a]? = H[a]?) : vx_L C n d A U H1 := by
  obtain ⟨c, k, i, f, a, cell, h1, h2, h3, h4, h5, h6, h7, h8, h9, h10⟩ := h
  exact ⟨c, k, i, f, a, cell, h1, h2, h3, h4, by rw [hq a (Array.getElem?_eq_some_iff.mp h5).1 h10]; exact h5, h6, h7, h8, h9, h10⟩
theorem vx_L.narrow {C n d : String} {A B : Nat → Prop} {U : State} {H : Heap} (h : vx_L C n d A U H) (hAB : ∀ q, B q → A q) : vx_L C n d B U H := by
  obtain ⟨c, k, i, f, a, cell, h1, h2, h3, h4, h5, h6, h7, h8, h9, h10⟩ := h
  exact ⟨c, k, i, f, a, cell, h1, h2, h3, h4, h5, h6, h7, h8, h9, fun z => h10 (hAB _ z)⟩
theorem vx_L.word {C n d : String} {A : Nat → Prop} {s : State} {args : Array Value} (h : vx_L C n d A s s.heap) : (Cond.laysStatic C n d).before args s = true := by
  obtain ⟨c, k, i, f, a, cell, h1, h2, h3, h4, h5, h6, h7, h8, h9, -⟩ := h
  show (Cond.laysStatic C n d).holds args s none s [] = true
  exact Cond.laysStatic_of h1 h2 h3 h4 h5 h6 h7 h8 h9
/-- .. and what it holds: null or some reference -/
def vx_Zq (C n d : String) (A : Nat → Prop) (U : State) (H : Heap) : Prop := va_Zq C n d A U H ∧ vx_L C n d A U H
theorem vx_Zq.moved {C n d : String} {A : Nat → Prop} {u U : State} {H : Heap} (hvm : u.vm.Alike U.vm) (h : vx_Zq C n d A u H) : vx_Zq C n d A U H := ⟨va_Zq.moved hvm h.1, vx_L.moved hvm h.2⟩
theorem vx_Zq.kept {C n d : String} {A : Nat → Prop} {U : State} {H H1 : Heap} (h : vx_Zq C n d A U H) (hq : ∀ a : Nat, a < H.size → ¬ A a → H1[a]? = H[a]?) : vx_Zq C n d A U H1 := ⟨va_Zq.kept h.1 hq, vx_L.kept h.2 hq⟩
theorem vx_Zq.narrow {C n d : String} {A B : Nat → Prop} {U : State} {H : Heap} (h : vx_Zq C n d A U H) (hAB : ∀ q, B q → A q) : vx_Zq C n d B U H := ⟨va_Zq.narrow h.1 hAB, vx_L.narrow h.2 hAB⟩
theorem vx_Zqof {args : Array Value} {s : State} {C n d : String} {A : Nat → Prop} (hl : (Cond.laysStatic C n d).before args s = true) (hini : (Cond.initialized C).before args s = true) (h : (Cond.isRef (.static C n d)).before args s = true) (hA : ∀ a : Nat, a < s.heap.size → ¬ A a) : vx_Zq C n d A s s.heap := by
  refine ⟨va_Zqof hl hini h hA, ?_⟩
  obtain ⟨c, k, i, f, a, cell, h1, h2, h3, h4, h5, h6, h7, h8, h9⟩ := Cond.laysStatic_spec hl
  exact ⟨c, k, i, f, a, cell, h1, h2, h3, h4, h5, h6, h7, h8, h9, hA a (Array.getElem?_eq_some_iff.mp h5).1⟩
theorem vx_isRef {C n d : String} {v : Value} {A : Nat → Prop} {s : State} {args : Array Value} (h : va_Z C n d v A s s.heap) (hv : v.isRef = true) : (Cond.isRef (.static C n d)).before args s = true := by
  obtain ⟨cf, kf, fi, f, a, cell, h1, h2, h3, h4, h5, h6, h7, -⟩ := h
  have he : (Term.static C n d).eval args s none [] s = some v := by
    simp [Term.eval, State.fieldNamed?, h1, h2, h4, h5, h6, h7]
  simp only [Cond.before, Cond.holds, Cond.value, he]
  cases v <;> simp_all [Value.isRef]
theorem vx_isRefq {C n d : String} {A : Nat → Prop} {s : State} {args : Array Value} (h : va_Zq C n d A s s.heap) : (Cond.isRef (.static C n d)).before args s = true := by
  rcases h with h | ⟨t, h⟩
  · exact vx_isRef h rfl
  · exact vx_isRef h rfl
/-- the same frame, seen from here: as if the method were called anew in this heap -/
theorem vx_rebase {T : State} (X : Stand p l e R s m args below meth c T locs cells slots) {R' : Room} (hf : R'.frames ≤ R.frames) (hl : R'.locals ≤ R.locals) (hc : cells + R'.cells ≤ R.cells) (hs : slots + R'.slots ≤ R.slots) :
    Stand p l e R' ((T.setVm s.vm).setFrames (.invoking m args :: below)) m args below meth c T [] 0 0 := by
  have htop : (T.setVm s.vm).topJava?.isSome := X.here.top
  have hF : ((T.setVm s.vm).setFrames (.invoking m args :: below)).frames = .invoking m args :: below := State.frames_setFrames _ (State.cur_lt_of_top htop)
  obtain ⟨g₀, hg0⟩ := Option.isSome_iff_exists.mp htop
  obtain ⟨r, hr⟩ := State.topJava?_eq_some.mp hg0
  have hl9 : e.platform.stackLimits (T.setVm s.vm).me = e.platform.stackLimits s.me := X.limits
  have hb9 : (T.setVm s.vm).me.stackBytes = s.me.stackBytes := X.bytes
  refine ⟨X.admits, X.cas, X.clock, hF, ?_, X.hears, X.method, X.code, X.here, X.tail, X.warmed, ?_, ?_, ?_⟩
  · have h := X.room
    have hU : ((T.setVm s.vm).setFrames (.invoking m args :: below)).localsInUse = s.localsInUse := by
      rw [State.localsInUse_invoking hF (meth := meth) (c := c) X.method X.code, State.localsInUse_invoking X.frames X.method X.code]
    simp only [State.hasRoom, Bool.and_eq_true, decide_eq_true_eq] at h ⊢
    obtain ⟨⟨⟨⟨h1, h2, h3, h4, h5, h6⟩, h7⟩, h8⟩, h9⟩ := h
    rw [X.frames, List.length_cons] at h2 h3
    have q1 := X.heapSize
    have q2 := X.used
    simp only [hF, hU, List.length_cons, State.stackLimits_setFrames, State.stackBytes_setFrames, hl9, hb9]
    refine ⟨⟨⟨⟨by omega, by omega, by omega, by omega, by omega, h6⟩, ?_⟩, ?_⟩, X.book⟩
    · show T.heap.size + R'.cells ≤ e.platform.maxCells
      omega
    · show T.slotsUsed + R'.slots ≤ e.platform.maxSlots
      omega
  · rw [State.stackLimits_setFrames]; rfl
  · rw [State.stackBytes_setFrames]; rfl
  · refine ⟨?_, Nat.le_refl _, Nat.le_refl _, ?_, ?_, fun a c9 h9 => ⟨c9, h9, rfl, rfl, fun _ _ => rfl⟩⟩
    · obtain ⟨t, ht, -⟩ := State.frames_cons hr
      show T.setVm s.vm = { ((T.setVm s.vm).setFrames (.invoking m args :: below)).setFrames (T.setVm s.vm).frames with heap := T.heap, slotsUsed := T.slotsUsed }
      rw [State.setFrames_setFrames, State.setFrames_self ht]
      rfl
    · show T.slotsUsed = T.slotsUsed + ((T.heap.toList.drop T.heap.size).map (·.slots.size)).sum
      rw [List.drop_eq_nil_of_le (Nat.le_of_eq Array.length_toList)]
      rfl
    · show ((T.heap.toList.drop T.heap.size).map (·.slots.size)).sum ≤ 0
      rw [List.drop_eq_nil_of_le (Nat.le_of_eq Array.length_toList)]
      exact Nat.le_refl _
/-- 'throw new E()': new; dup; invokespecial; athrow -/
theorem vx_throw0 {cc : ByteArray} {pc : Nat} (hexec : p.tables.exec = Jvm.exec) (hb : c.code = cc) (hl : l.stackTraces = false) {own cls : String} {names : List String} {ik ic mc ms : Nat} {A : Nat → Prop}
    (hown : s.vm.findClass own = some m.cls) (hcls : Bundle.fit cls = true) (hnames : ∀ n ∈ names, Bundle.fit n = true)
    (hk : (Cond.classLink own ik cls).before args s = true) (hini : (Cond.initialized cls).before args s = true) (hat : ∀ w ∈ vx_at0 own ic cls names, w.before args s = true)
    (hgood : ∀ w ∈ Cond.classLink own ik cls :: Cond.initialized cls :: vx_at0 own ic cls names, vx_ot w = true)
    (hU : vx_Zq Bundle.tN "UNASSIGNED_STACK" Bundle.steD A s s.heap) (hN : vx_Zq Bundle.tN "SUPPRESSED_SENTINEL" Bundle.listD A s s.heap) (hS : va_S A s.heap H locs) (hsize : ls.size = c.maxLocals)
    (d0 : decode cc pc = .ok (.new ik, 3)) (d3 : decode cc (pc + 3) = .ok (.dup, 1)) (d4 : decode cc (pc + 4) = .ok (.invokespecial ic, 3)) (d7 : decode cc (pc + 7) = .ok (.athrow, 1))
    (hout : ∀ x ∈ c.exceptionTable.toList, covers x (pc + 7) = false)
    (hRframes : names.length + 3 < R.frames) (hRlocals : (rest.map fun v => v.category).sum + (13 * (names.length + 1) + 42) ≤ R.locals) (hRcells : cells + 1 ≤ R.cells) (hRslots : slots + 6 ≤ R.slots) (hlocks : meth.locks = false)
    (hx : ∀ t : State, s.vm.Alike t.vm → H.size ≤ t.heap.size → (∀ q : Nat, q < H.size → t.heap[q]? = H[q]?) → XC cls s t)
    (hf : ∀ z ∈ locs, free z.base) (hc : cells + 1 ≤ mc) (hs : slots + 6 ≤ ms) :
    W p l e R s m args below meth c H locs cells slots (vx_MQ below Qc XC args s mc ms free) (F0 m pc ls rest) := by
  intro T hT X
  have htr : e.platform.stackTraces = false := (show e.platform.stackTraces = l.stackTraces by rw [X.admits.platform]).trans hl
  have Y := vx_rebase X (R' := { frames := R.frames, locals := R.locals, cells := 1, slots := 6 }) (Nat.le_refl _) (Nat.le_refl _) hRcells hRslots
  obtain ⟨s', hA⟩ : ∃ z, z = (T.setVm s.vm).setFrames (.invoking m args :: below) := ⟨_, rfl⟩
  rw [← hA] at Y
  have hvm : s'.vm = s.vm := by rw [hA]; rfl
  have hhp : s'.heap = H := by rw [hA]; exact hT
  have hW0 : s.WarmedH s'.vm := by rw [hvm]; exact State.WarmedH.refl s
  have hat' : ∀ w ∈ vx_at0 own ic cls names, w.before args s' = true := fun w hw => vx_ot_at hW0 hvm.symm (hgood w (List.mem_cons_of_mem _ (List.mem_cons_of_mem _ hw))) (hat w hw)
  have hk' : (Cond.classLink own ik cls).before args s' = true := vx_ot_at hW0 hvm.symm (hgood _ List.mem_cons_self) hk
  have hini' : (Cond.initialized cls).before args s' = true := vx_ot_at hW0 hvm.symm (hgood _ (List.mem_cons_of_mem _ List.mem_cons_self)) hini
  have hU' : vx_Zq Bundle.tN "UNASSIGNED_STACK" Bundle.steD A s' s'.heap := by rw [hhp]; exact vx_Zq.moved hW0.alike (hU.kept hS.2.1)
  have hN' : vx_Zq Bundle.tN "SUPPRESSED_SENTINEL" Bundle.listD A s' s'.heap := by rw [hhp]; exact vx_Zq.moved hW0.alike (hN.kept hS.2.1)
  have h : ∀ w ∈ Bundle.ownAtoms0 own ic cls names, w.before args s' = true := vx_own hat' (vx_isRefq hU'.1) (vx_isRefq hN'.1) hU'.2.word hN'.2.word
  have hown' : s'.vm.findClass own = some m.cls := by rw [hvm]; exact hown
  have hins : (Cond.instantiable cls 6).before args s' = true := h _ (by simp [Bundle.ownAtoms0])
  obtain ⟨vm₁, cX, kX, hfX, hkX, -, -, X₁, st1⟩ := Y.newCold hexec (own := own) (C := cls) (index := ik) (n := 6) hown' hk' hins hini'
    (g := F0 m pc ls rest) rfl (by rw [hb]; exact d0) (Nat.le_refl _) (Nat.le_refl _)
  generalize hT1 : (T.setVm vm₁).pushCell { cls := cX, slots := kX.instanceTypes.map defaultValue, vm := .none } = T1 at X₁ st1
  have hcat : (Value.ref T.heap.size).category = 1 := rfl
  have hcellA : T1.heap[T.heap.size]? = some (freshCell cX kX) := by rw [← hT1]; exact State.heap_pushCell_size _ _
  have d3' : decode c.code (pc + 3) = .ok (.dup, 1) := by rw [hb]; exact d3
  obtain ⟨U, hsteps, hrun, hend, hW, hsame, ce, hce, hO⟩ := X₁.ctorThrow0 hexec htr (own := own) (cls := cls) (names := names) (ic := ic) hown' hcls hnames h (fun x hx => nomatch hx) hfX hkX hcellA (by rw [hhp, hT]; exact Nat.le_refl _)
    (g := { method := m, pc := pc + 4, locals := ls, stack := .ref T.heap.size :: .ref T.heap.size :: rest, locked := none }) rfl hsize rfl rfl (rest := rest) rfl
    (by rw [hb]; exact d4) (by rw [hb]; exact d7) hout hRframes (by simp only [List.map_cons, List.sum_cons, hcat]; omega) hlocks
  obtain ⟨f1, f2⟩ := vx_frame hsame
  rw [hhp] at f1 f2
  have hWs : s.WarmedH U.vm := State.WarmedH.trans hW0 hW
  have hcl : s.vm.findClass cls = some ce.cls := by
    have h9 := hO.cls
    rw [hvm] at h9
    exact h9
  have hall : s.sameButNew ({ U with vm := s.vm } : State) locs mc ms := by
    subst hA
    obtain ⟨e1, e2⟩ := hsame
    rw [State.setFrames_setFrames] at e1
    have h2 : (T.setVm s.vm).sameButNew ({ U with vm := s.vm } : State) [] (0 + 1) (0 + 6) := ⟨e1, e2⟩
    have h3 := X.same.trans h2
    rw [List.append_nil] at h3
    exact h3.mono hc hs
  refine ⟨U, ?_, .threw T.heap.size, hrun, hend, Or.inr ⟨T.heap.size, rfl, cls, ce, locs, hx U hWs.alike f1 (fun q hq => f2 q hq (fun z hz => nomatch hz)), hce, hO.vm, hcl, hWs, hall, hf⟩⟩
  refine st1 _ ?_
  show Steps p.tables e below (T1.setTop { method := m, pc := pc + 3, locals := ls, stack := .ref T.heap.size :: rest, locked := none }) _
  jvm_step X₁.here [X₁.here.top, hexec, d3', Value.category]
  exact hsteps
/-- 'throw new E("text")': new; dup; ldc; invokespecial; athrow -/
theorem vx_throwS {cc : ByteArray} {pc : Nat} (hexec : p.tables.exec = Jvm.exec) (hb : c.code = cc) (hl : l.stackTraces = false) {own cls text : String} {names : List String} {ik is ic mc ms sa : Nat} {A : Nat → Prop}
    (hown : s.vm.findClass own = some m.cls) (hcls : Bundle.fit cls = true) (hnames : ∀ n ∈ names, Bundle.fit n = true)
    (hk : (Cond.classLink own ik cls).before args s = true) (hini : (Cond.initialized cls).before args s = true) (hstr : vk_R own is text sa s) (hat : ∀ w ∈ vx_atS own ic cls names, w.before args s = true)
    (hgood : ∀ w ∈ Cond.classLink own ik cls :: Cond.initialized cls :: vx_atS own ic cls names, vx_ot w = true)
    (hU : vx_Zq Bundle.tN "UNASSIGNED_STACK" Bundle.steD A s s.heap) (hN : vx_Zq Bundle.tN "SUPPRESSED_SENTINEL" Bundle.listD A s s.heap) (hS : va_S A s.heap H locs) (hsize : ls.size = c.maxLocals)
    (d0 : decode cc pc = .ok (.new ik, 3)) (d3 : decode cc (pc + 3) = .ok (.dup, 1)) (d4 : decode cc (pc + 4) = .ok (.ldc is, 2)) (d6 : decode cc (pc + 6) = .ok (.invokespecial ic, 3)) (d9 : decode cc (pc + 9) = .ok (.athrow, 1))
    (hout : ∀ x ∈ c.exceptionTable.toList, covers x (pc + 9) = false)
    (hRframes : names.length + 3 < R.frames) (hRlocals : (rest.map fun v => v.category).sum + (13 * (names.length + 1) + 43) ≤ R.locals) (hRcells : cells + 1 ≤ R.cells) (hRslots : slots + 6 ≤ R.slots) (hlocks : meth.locks = false)
    (hx : ∀ t : State, s.vm.Alike t.vm → H.size ≤ t.heap.size → (∀ q : Nat, q < H.size → t.heap[q]? = H[q]?) → XC cls s t)
    (hf : ∀ z ∈ locs, free z.base) (hc : cells + 1 ≤ mc) (hs : slots + 6 ≤ ms) :
    W p l e R s m args below meth c H locs cells slots (vx_MQ below Qc XC args s mc ms free) (F0 m pc ls rest) := by
  intro T hT X
  have htr : e.platform.stackTraces = false := (show e.platform.stackTraces = l.stackTraces by rw [X.admits.platform]).trans hl
  have Y := vx_rebase X (R' := { frames := R.frames, locals := R.locals, cells := 1, slots := 6 }) (Nat.le_refl _) (Nat.le_refl _) hRcells hRslots
  obtain ⟨s', hA⟩ : ∃ z, z = (T.setVm s.vm).setFrames (.invoking m args :: below) := ⟨_, rfl⟩
  rw [← hA] at Y
  have hvm : s'.vm = s.vm := by rw [hA]; rfl
  have hhp : s'.heap = H := by rw [hA]; exact hT
  have hW0 : s.WarmedH s'.vm := by rw [hvm]; exact State.WarmedH.refl s
  have hat' : ∀ w ∈ vx_atS own ic cls names, w.before args s' = true := fun w hw => vx_ot_at hW0 hvm.symm (hgood w (List.mem_cons_of_mem _ (List.mem_cons_of_mem _ hw))) (hat w hw)
  have hk' : (Cond.classLink own ik cls).before args s' = true := vx_ot_at hW0 hvm.symm (hgood _ List.mem_cons_self) hk
  have hini' : (Cond.initialized cls).before args s' = true := vx_ot_at hW0 hvm.symm (hgood _ (List.mem_cons_of_mem _ List.mem_cons_self)) hini
  have hU' : vx_Zq Bundle.tN "UNASSIGNED_STACK" Bundle.steD A s' s'.heap := by rw [hhp]; exact vx_Zq.moved hW0.alike (hU.kept hS.2.1)
  have hN' : vx_Zq Bundle.tN "SUPPRESSED_SENTINEL" Bundle.listD A s' s'.heap := by rw [hhp]; exact vx_Zq.moved hW0.alike (hN.kept hS.2.1)
  have h : ∀ w ∈ Bundle.ownAtoms own ic cls names, w.before args s' = true := vx_own hat' (vx_isRefq hU'.1) (vx_isRefq hN'.1) hU'.2.word hN'.2.word
  have hown' : s'.vm.findClass own = some m.cls := by rw [hvm]; exact hown
  have hins : (Cond.instantiable cls 6).before args s' = true := h _ (by simp [Bundle.ownAtoms])
  obtain ⟨vm₁, cX, kX, hfX, hkX, -, -, X₁, st1⟩ := Y.newCold hexec (own := own) (C := cls) (index := ik) (n := 6) hown' hk' hins hini'
    (g := F0 m pc ls rest) rfl (by rw [hb]; exact d0) (Nat.le_refl _) (Nat.le_refl _)
  generalize hT1 : (T.setVm vm₁).pushCell { cls := cX, slots := kX.instanceTypes.map defaultValue, vm := .none } = T1 at X₁ st1
  have hcat : (Value.ref T.heap.size).category = 1 := rfl
  have hcellA : T1.heap[T.heap.size]? = some (freshCell cX kX) := by rw [← hT1]; exact State.heap_pushCell_size _ _
  have d3' : decode c.code (pc + 3) = .ok (.dup, 1) := by rw [hb]; exact d3
  have d4' : decode c.code (pc + 4) = .ok (.ldc is, 2) := by rw [hb]; exact d4
  have hstr' : vk_R own is text sa s' := vk_R.warm hW0 hstr
  obtain ⟨U, hsteps, hrun, hend, hW, hsame, ce, hce, hO⟩ := X₁.ctorThrowS hexec htr (own := own) (cls := cls) (names := names) (ic := ic) hown' hcls hnames h (fun x hx => nomatch hx) hfX hkX hcellA (by rw [hhp, hT]; exact Nat.le_refl _) (msg := .ref sa) rfl
    (g := { method := m, pc := pc + 6, locals := ls, stack := .ref sa :: .ref T.heap.size :: .ref T.heap.size :: rest, locked := none }) rfl hsize rfl rfl (rest := rest) rfl
    (by rw [hb]; exact d6) (by rw [hb]; exact d9) hout hRframes (by simp only [List.map_cons, List.sum_cons, hcat]; omega) hlocks
  obtain ⟨f1, f2⟩ := vx_frame hsame
  rw [hhp] at f1 f2
  have hWs : s.WarmedH U.vm := State.WarmedH.trans hW0 hW
  have hcl : s.vm.findClass cls = some ce.cls := by
    have h9 := hO.cls
    rw [hvm] at h9
    exact h9
  have hall : s.sameButNew ({ U with vm := s.vm } : State) locs mc ms := by
    subst hA
    obtain ⟨e1, e2⟩ := hsame
    rw [State.setFrames_setFrames] at e1
    have h2 : (T.setVm s.vm).sameButNew ({ U with vm := s.vm } : State) [] (0 + 1) (0 + 6) := ⟨e1, e2⟩
    have h3 := X.same.trans h2
    rw [List.append_nil] at h3
    exact h3.mono hc hs
  refine ⟨U, ?_, .threw T.heap.size, hrun, hend, Or.inr ⟨T.heap.size, rfl, cls, ce, locs, hx U hWs.alike f1 (fun q hq => f2 q hq (fun z hz => nomatch hz)), hce, hO.vm, hcl, hWs, hall, hf⟩⟩
  refine st1 _ ?_
  show Steps p.tables e below (T1.setTop { method := m, pc := pc + 3, locals := ls, stack := .ref T.heap.size :: rest, locked := none }) _
  jvm_step X₁.here [X₁.here.top, hexec, d3', Value.category]
  exact X₁.ldcString hexec (own := own) (text := text) (index := is) (a := sa) hown' hstr'.1 hstr'.2
    (g := { method := m, pc := pc + 4, locals := ls, stack := .ref T.heap.size :: .ref T.heap.size :: rest, locked := none }) rfl d4' _ hsteps
/-- 'throw new E("text")', the text by a wide index -/
theorem vx_throwSW {cc : ByteArray} {pc : Nat} (hexec : p.tables.exec = Jvm.exec) (hb : c.code = cc) (hl : l.stackTraces = false) {own cls text : String} {names : List String} {ik is ic mc ms sa : Nat} {A : Nat → Prop}
    (hown : s.vm.findClass own = some m.cls) (hcls : Bundle.fit cls = true) (hnames : ∀ n ∈ names, Bundle.fit n = true)
    (hk : (Cond.classLink own ik cls).before args s = true) (hini : (Cond.initialized cls).before args s = true) (hstr : vk_R own is text sa s) (hat : ∀ w ∈ vx_atS own ic cls names, w.before args s = true)
    (hgood : ∀ w ∈ Cond.classLink own ik cls :: Cond.initialized cls :: vx_atS own ic cls names, vx_ot w = true)
    (hU : vx_Zq Bundle.tN "UNASSIGNED_STACK" Bundle.steD A s s.heap) (hN : vx_Zq Bundle.tN "SUPPRESSED_SENTINEL" Bundle.listD A s s.heap) (hS : va_S A s.heap H locs) (hsize : ls.size = c.maxLocals)
    (d0 : decode cc pc = .ok (.new ik, 3)) (d3 : decode cc (pc + 3) = .ok (.dup, 1)) (d4 : decode cc (pc + 4) = .ok (.ldc_w is, 3)) (d7 : decode cc (pc + 7) = .ok (.invokespecial ic, 3)) (d10 : decode cc (pc + 10) = .ok (.athrow, 1))
    (hout : ∀ x ∈ c.exceptionTable.toList, covers x (pc + 10) = false)
    (hRframes : names.length + 3 < R.frames) (hRlocals : (rest.map fun v => v.category).sum + (13 * (names.length + 1) + 43) ≤ R.locals) (hRcells : cells + 1 ≤ R.cells) (hRslots : slots + 6 ≤ R.slots) (hlocks : meth.locks = false)
    (hx : ∀ t : State, s.vm.Alike t.vm → H.size ≤ t.heap.size → (∀ q : Nat, q < H.size → t.heap[q]? = H[q]?) → XC cls s t)
    (hf : ∀ z ∈ locs, free z.base) (hc : cells + 1 ≤ mc) (hs : slots + 6 ≤ ms) :
    W p l e R s m args below meth c H locs cells slots (vx_MQ below Qc XC args s mc ms free) (F0 m pc ls rest) := by
  intro T hT X
  have htr : e.platform.stackTraces = false := (show e.platform.stackTraces = l.stackTraces by rw [X.admits.platform]).trans hl
  have Y := vx_rebase X (R' := { frames := R.frames, locals := R.locals, cells := 1, slots := 6 }) (Nat.le_refl _) (Nat.le_refl _) hRcells hRslots
  obtain ⟨s', hA⟩ : ∃ z, z = (T.setVm s.vm).setFrames (.invoking m args :: below) := ⟨_, rfl⟩
  rw [← hA] at Y
  have hvm : s'.vm = s.vm := by rw [hA]; rfl
  have hhp : s'.heap = H := by rw [hA]; exact hT
  have hW0 : s.WarmedH s'.vm := by rw [hvm]; exact State.WarmedH.refl s
  have hat' : ∀ w ∈ vx_atS own ic cls names, w.before args s' = true := fun w hw => vx_ot_at hW0 hvm.symm (hgood w (List.mem_cons_of_mem _ (List.mem_cons_of_mem _ hw))) (hat w hw)
  have hk' : (Cond.classLink own ik cls).before args s' = true := vx_ot_at hW0 hvm.symm (hgood _ List.mem_cons_self) hk
  have hini' : (Cond.initialized cls).before args s' = true := vx_ot_at hW0 hvm.symm (hgood _ (List.mem_cons_of_mem _ List.mem_cons_self)) hini
  have hU' : vx_Zq Bundle.tN "UNASSIGNED_STACK" Bundle.steD A s' s'.heap := by rw [hhp]; exact vx_Zq.moved hW0.alike (hU.kept hS.2.1)
  have hN' : vx_Zq Bundle.tN "SUPPRESSED_SENTINEL" Bundle.listD A s' s'.heap := by rw [hhp]; exact vx_Zq.moved hW0.alike (hN.kept hS.2.1)
  have h : ∀ w ∈ Bundle.ownAtoms own ic cls names, w.before args s' = true := vx_own hat' (vx_isRefq hU'.1) (vx_isRefq hN'.1) hU'.2.word hN'.2.word
  have hown' : s'.vm.findClass own = some m.cls := by rw [hvm]; exact hown
  have hins : (Cond.instantiable cls 6).before args s' = true := h _ (by simp [Bundle.ownAtoms])
  obtain ⟨vm₁, cX, kX, hfX, hkX, -, -, X₁, st1⟩ := Y.newCold hexec (own := own) (C := cls) (index := ik) (n := 6) hown' hk' hins hini'
    (g := F0 m pc ls rest) rfl (by rw [hb]; exact d0) (Nat.le_refl _) (Nat.le_refl _)
  generalize hT1 : (T.setVm vm₁).pushCell { cls := cX, slots := kX.instanceTypes.map defaultValue, vm := .none } = T1 at X₁ st1
  have hcat : (Value.ref T.heap.size).category = 1 := rfl
  have hcellA : T1.heap[T.heap.size]? = some (freshCell cX kX) := by rw [← hT1]; exact State.heap_pushCell_size _ _
  have d3' : decode c.code (pc + 3) = .ok (.dup, 1) := by rw [hb]; exact d3
  have d4' : decode c.code (pc + 4) = .ok (.ldc_w is, 3) := by rw [hb]; exact d4
  have hstr' : vk_R own is text sa s' := vk_R.warm hW0 hstr
  obtain ⟨U, hsteps, hrun, hend, hW, hsame, ce, hce, hO⟩ := X₁.ctorThrowS hexec htr (own := own) (cls := cls) (names := names) (ic := ic) hown' hcls hnames h (fun x hx => nomatch hx) hfX hkX hcellA (by rw [hhp, hT]; exact Nat.le_refl _) (msg := .ref sa) rfl
    (g := { method := m, pc := pc + 7, locals := ls, stack := .ref sa :: .ref T.heap.size :: .ref T.heap.size :: rest, locked := none }) rfl hsize rfl rfl (rest := rest) rfl
    (by rw [hb]; exact d7) (by rw [hb]; exact d10) hout hRframes (by simp only [List.map_cons, List.sum_cons, hcat]; omega) hlocks
  obtain ⟨f1, f2⟩ := vx_frame hsame
  rw [hhp] at f1 f2
  have hWs : s.WarmedH U.vm := State.WarmedH.trans hW0 hW
  have hcl : s.vm.findClass cls = some ce.cls := by
    have h9 := hO.cls
    rw [hvm] at h9
    exact h9
  have hall : s.sameButNew ({ U with vm := s.vm } : State) locs mc ms := by
    subst hA
    obtain ⟨e1, e2⟩ := hsame
    rw [State.setFrames_setFrames] at e1
    have h2 : (T.setVm s.vm).sameButNew ({ U with vm := s.vm } : State) [] (0 + 1) (0 + 6) := ⟨e1, e2⟩
    have h3 := X.same.trans h2
    rw [List.append_nil] at h3
    exact h3.mono hc hs
  refine ⟨U, ?_, .threw T.heap.size, hrun, hend, Or.inr ⟨T.heap.size, rfl, cls, ce, locs, hx U hWs.alike f1 (fun q hq => f2 q hq (fun z hz => nomatch hz)), hce, hO.vm, hcl, hWs, hall, hf⟩⟩
  refine st1 _ ?_
  show Steps p.tables e below (T1.setTop { method := m, pc := pc + 3, locals := ls, stack := .ref T.heap.size :: rest, locked := none }) _
  jvm_step X₁.here [X₁.here.top, hexec, d3', Value.category]
  exact X₁.ldcStringW hexec (own := own) (text := text) (index := is) (a := sa) hown' hstr'.1 hstr'.2
    (g := { method := m, pc := pc + 4, locals := ls, stack := .ref T.heap.size :: .ref T.heap.size :: rest, locked := none }) rfl d4' _ hsteps
end Ends
section Bodies
variable {l : Launch}
theorem vx_ofW {y : MethodName} {ws ws' : List Cond} {rm : Room} {Pc : Array Value → State → Prop} {Qc : Array Value → State → Outcome → State → Prop} {XC : String → State → State → Prop} {mc ms : Nat} {free : Addr → Prop} {cc : ByteArray} {maxL : Nat} {ret : Option FieldType}
    (hy : plainName y.cls = true) (hw : ws = Cond.code y cc maxL ret :: ws')
    (body : ∀ p e s m args below meth c s₁, BodyLoose p l y (headSpec ws rm) cc maxL ret e s m args below meth c s₁ → c.maxLocals = maxL → (∀ x ∈ c.exceptionTable.toList, False) → Pc args s →
      W p l e (headSpec ws rm).room s m args below meth c s.heap [] 0 0 (vx_MQ below Qc XC args s mc ms free) (entryFrame m args maxL)) : vx_Met l y ws rm Pc Qc XC mc ms free := by
  refine MetFree.of_bodyS (code := cc) (maxLocals := maxL) (ret := ret) hy ?_ ?_
  · intro args s m h hn
    obtain ⟨meth, c, h1, h2, h3, h4, h5, h6, -, -⟩ := Cond.code_spec hn (atoms_spec (ws := ws) h _ (by rw [hw]; exact List.mem_cons_self))
    exact ⟨meth, c, h1, h2, h3, h4, h5, h6⟩
  · intro p e s m args below meth c s₁ B hml hP _
    have hh0 : s₁.heap = s.heap := by rw [B.state]; rfl
    have ht : ∀ x ∈ c.exceptionTable.toList, False := by
      obtain ⟨meth9, c9, h1, h2, -, -, -, -, h7, -⟩ := Cond.code_spec B.named (atoms_spec (ws := ws) B.pre _ (by rw [hw]; exact List.mem_cons_self))
      cases Option.some.inj (h1.symm.trans B.method)
      cases Option.some.inj (h2.symm.trans (Stand.of_body B).code)
      intro x hx
      rw [Array.isEmpty_iff.mp h7] at hx
      cases hx
    obtain ⟨t, a1, o, b1, b2, b3⟩ := body p e s m args below meth c s₁ B hml ht hP s₁ hh0 (Stand.of_body B)
    exact ⟨t, o, a1, b1, b2, b3⟩
/-- the table of a body with handlers -/
theorem vx_table {p : Program} {x y : MethodName} {S : Spec} {cc bytes : ByteArray} {maxL maxL' : Nat} {ret ret' : Option FieldType} {e : Env} {s s₁ : State} {m : MethodId} {args : Array Value} {below : List Frame} {meth : Method} {c : Code} {hh : List (Nat × Nat × Nat × Nat)}
    (B : BodyLoose p l y S cc maxL ret e s m args below meth c s₁) (h : (Cond.codeWith y bytes maxL' ret' hh).before args s = true) : c.exceptionTable.toList = tableOf hh := by
  obtain ⟨m9, meth9, c9, hn9, h1, h2, -, -, h6, -⟩ := Cond.codeWith_spec h
  cases Option.some.inj (hn9.symm.trans B.named)
  cases Option.some.inj (h1.symm.trans B.method)
  cases Option.some.inj (h2.symm.trans (Stand.of_body B).code)
  rw [← h6, table_eq]
end Bodies
end VXA
/-! ===== END ===== -/
/-! ===== BEGIN a static call of a method with an exception table ===== -/
section VXS
variable {p : Program} {l : Launch} {e : Env} {R : Room} {s : State} {m : MethodId} {args : Array Value} {below : List Frame} {meth : Method} {c : Code} {T : State} {H : Heap} {locs : List Loc} {cells slots : Nat}
abbrev vx_CSW (R : Room) (s : State) (args : Array Value) (own : String) (index : Nat) (y : MethodName) (bytes : ByteArray) (maxL : Nat) (ret : Option FieldType) (hh : List (Nat × Nat × Nat × Nat)) (ws : List Cond) (rm : Room) (mc ms n : Nat) : Prop :=
  (rm.cells = mc ∧ rm.slots = ms ∧ rm.frames + 1 ≤ R.frames ∧ 8 + (maxL + 11) + rm.locals ≤ R.locals ∧ (∀ w ∈ ws, ∀ (a' : Array Value) (U : State), s.WarmedH U.vm → w.before a' U = true) ∧ Cond.codeWith y bytes maxL ret hh ∈ ws) ∧
  (Cond.codeWith y bytes maxL ret hh).before args s = true ∧ (Cond.initialized y.cls).before args s = true ∧ (y.cls ≠ "java/lang/invoke/MethodHandle" ∧ y.cls ≠ "java/lang/invoke/VarHandle") ∧
  (∀ sig, parseMethodDescriptor y.desc = some sig → n = sig.parameters.length) ∧ (Cond.methodLink own index y).before args s = true ∧ (Cond.static y).before args s = true
theorem vx_cwSW {own : String} {index maxL mc ms : Nat} {y : MethodName} {bytes : ByteArray} {ret : Option FieldType} {hh : List (Nat × Nat × Nat × Nat)} {Ts ws ws' : List Cond} {rm : Room} (n : Nat) (ht : ∀ w ∈ Ts, w.before args s = true) (hT : GoodIn Ts (va_wsS own index y ws)) (hw : ws = Cond.codeWith y bytes maxL ret hh :: ws') (hrc : rm.cells = mc) (hrs : rm.slots = ms)
    (hd : y.cls ≠ "java/lang/invoke/MethodHandle" ∧ y.cls ≠ "java/lang/invoke/VarHandle" ∧ (parseMethodDescriptor y.desc).map (fun d => d.parameters.length) = some n) (hR : rm.frames + 1 ≤ R.frames ∧ 8 + (maxL + 11) + rm.locals ≤ R.locals) :
    vx_CSW R s args own index y bytes maxL ret hh ws rm mc ms n := by
  have ok : ∀ w ∈ va_wsS own index y ws, w.before args s = true := fun w h => ht w (hT w h).1
  have hG : GoodIn Ts ws := fun w h => hT w (by unfold va_wsS; exact List.mem_append_right _ h)
  have hc : Cond.codeWith y bytes maxL ret hh ∈ ws := by rw [hw]; exact List.mem_cons_self
  refine ⟨⟨hrc, hrs, hR.1, hR.2, pay_in ht hG, hc⟩, ht _ (hG _ hc).1, ok _ (by simp [va_wsS]), ⟨hd.1, hd.2.1⟩, fun sig h => ?_, ok _ (by simp [va_wsS]), ok _ (by simp [va_wsS])⟩
  have h2 := hd.2.2
  rw [h] at h2
  exact (Option.some.inj h2).symm
theorem vx_callSW (X : Stand p l e R s m args below meth c T locs cells slots) (hexec : p.tables.exec = Jvm.exec) {own : String} {index : Nat} {y : MethodName} {bytes : ByteArray} {maxL : Nat} {ret : Option FieldType} {hh : List (Nat × Nat × Nat × Nat)}
    (hown : s.vm.findClass own = some m.cls) (hlink : (Cond.methodLink own index y).before args s = true) (hstat : (Cond.static y).before args s = true) (hinit : (Cond.initialized y.cls).before args s = true)
    (hcode : (Cond.codeWith y bytes maxL ret hh).before args s = true) (hy : y.cls ≠ "java/lang/invoke/MethodHandle" ∧ y.cls ≠ "java/lang/invoke/VarHandle")
    {W9 : Nat} {Pre : Pt → Array Value → Prop} {Post : Pt → Array Value → Option Value → Pt → Prop} (hK : Back l R p e below s args y 3 W9 Pre Post)
    {g : JFrame} (hg : g.method = m) (hsize : g.locals.size = c.maxLocals) {argsL rest : List Value} (hlen : ∀ sig, parseMethodDescriptor y.desc = some sig → argsL.length = sig.parameters.length)
    (hstack : g.stack = argsL.reverse ++ rest) (hW : 2 * g.monitorRoom + (rest.map fun v => v.category).sum ≤ W9) (hdg : decode c.code g.pc = .ok (.invokestatic index, 3))
    (hpre : ∀ vm₁, s.WarmedH vm₁ → Pre ⟨T.setVm vm₁, locs, cells, slots⟩ argsL.toArray) :
    ∃ (v : Option Value) (vm₁ : Vm) (B : Pt), s.WarmedH vm₁ ∧ Stand p l e R s m args below meth c B.U B.locs B.cells B.slots ∧ Post ⟨T.setVm vm₁, locs, cells, slots⟩ argsL.toArray v B ∧
      ∀ target, Steps p.tables e below (B.U.setTop { g with pc := g.pc + 3, stack := v.toList ++ rest }) target → Steps p.tables e below (T.setTop g) target := by
  obtain ⟨mk, methM, cM, hnamed, hmethM, -, -, -, -, -, -, hsigM⟩ := Cond.codeWith_spec hcode
  have hstatic : methM.isStatic = true := Cond.static_spec hnamed hmethM hstat
  obtain ⟨kP, hkP, -⟩ := className_of_methodNamed hnamed
  have hinitP : kP.init = .initialized := Cond.initialized_spec (findClass_of_methodNamed hnamed) hkP hinit
  obtain ⟨vm₁, X₁, hstep₁⟩ := X.invokestatic hexec hown hlink hnamed hmethM hstatic hkP hinitP hy (g := g) hg (argsL := argsL) (rest := rest) (hlen _ hsigM) hstack hdg
  obtain ⟨v, B, X', hpost, hsteps⟩ := hK m meth c ⟨T.setVm vm₁, locs, cells, slots⟩ { g with stack := rest } (.invokestatic index) mk argsL.toArray X₁ hg hsize hdg hW (X₁.named hnamed) (hpre vm₁ X₁.warmed)
  exact ⟨v, vm₁, B, X₁.warmed, X', hpost, fun target h => hstep₁ _ fun acts => by rw [doInvoke_state]; exact hsteps.trans h⟩
theorem vx_runSW {y : MethodName} {bytes cc : ByteArray} {maxL nL mc ms n index : Nat} {ret : Option FieldType} {hh : List (Nat × Nat × Nat × Nat)} {ws : List Cond} {rm : Room} {Pc : Array Value → State → Prop} {Qc : Array Value → State → Outcome → State → Prop} {free : Addr → Prop} {Ts : List Cond} {own : String} {As rest : List Value} {g : JFrame}
    (S : CallFix p m c cc nL s args Ts own) (hM : Met l y ws rm Pc Qc mc ms free) (cw : vx_CSW R s args own index y bytes maxL ret hh ws rm mc ms n) (hp : PreS s H Pc As)
    (hg : g.method = m) (hn : As.length = n) (hsize : g.locals.size = nL) (hstack : g.stack = As.reverse ++ rest) (hW : 2 * g.monitorRoom + (rest.map fun v => v.category).sum ≤ 8) (hdg : decode cc g.pc = .ok (.invokestatic index, 3)) (hf : cells + mc ≤ R.cells ∧ slots + ms ≤ R.slots) :
    va_Run p l e R s m args below meth c H locs cells slots mc ms g rest (Qc As.toArray) (free) := by
  obtain ⟨⟨hrc, hrs, hfr, hlo, hws, hcw⟩, hcode, hini, hy, hlen, hl, hstt⟩ := cw
  have hK : Back l R p e below s args y 3 8 (PreOf R mc ms Pc) (PostOf Qc mc ms free) := va_backW (hh := hh) (bytes := bytes) (maxL := maxL) (ret := ret) hM hp.1 hrc hrs hfr hlo hws hcw (fun a' U hW => word_at hW (Or.inl (by first | rfl | simp [Cond.onTables, Cond.keeps, Cond.steady])) hini)
  obtain ⟨hx, hb, hml, ho, -⟩ := S
  intro T hT X
  obtain ⟨v, vm₁, ⟨U', l2, c2, s2⟩, hW₁, X', ⟨g', mk, t, L, e1, e2, hq, h1, hL, h2, h3⟩, st⟩ := vx_callSW X hx (hh := hh) (bytes := bytes) (maxL := maxL) (ret := ret) ho hl hstt hini hcode hy hK hg (hsize.trans hml.symm) (argsL := As) (rest := rest) (fun sig h => hn.trans (hlen sig h)) hstack hW (by rw [hb]; exact hdg)
    (fun vm₁ hW₁ => ⟨hf.1, hf.2, hp.2 (T.setVm vm₁) hT hW₁⟩)
  dsimp only [Pt.U, Pt.locs, Pt.cells, Pt.slots] at X' e1 e2 h1 h2 h3 st
  subst h1; subst h2; subst h3
  exact ⟨v, (T.setVm vm₁).calling g' mk As.toArray, t, U', L, hT, X', hL, e1, e2, hq, st⟩
/-- not caught here, past rows that name other classes: it goes on to the caller -/
theorem vx_outP {p : Program} {l : Launch} {e : Env} {R : Room} {s : State} {m : MethodId} {args : Array Value} {below : List Frame} {meth : Method} {c : Code} {H : Heap} {locs : List Loc} {cells slots : Nat} {free : Addr → Prop} {ls : Array Slot} {rest : List Value} {Qc : Array Value → State → Outcome → State → Prop} {XC : String → State → State → Prop}
    {pc : Nat} {own E : String} {ce : Cell} {q : Addr} {mc ms : Nat} (hown : s.vm.findClass own = some m.cls) (hlocks : meth.locks = false)
    (hpass : ∀ z ∈ c.exceptionTable.toList, covers z pc = false ∨ (z.catchType ≠ 0 ∧ ∃ nm : String, (Cond.classLink own z.catchType nm).before args s = true ∧ va_Nc E nm s)) (hcell : H[q]? = some ce) (hv : ce.vm = .none) (hcl : s.vm.findClass E = some ce.cls)
    (hx : ∀ t : State, t.heap = H → s.vm.Alike t.vm → XC E s t) (hf : ∀ z ∈ locs, free z.base) (hc : cells ≤ mc) (hs : slots ≤ ms) :
    vx_W p l e R s m args below meth c H locs cells slots (vx_MQ below Qc XC args s mc ms free) (F0 m pc ls rest) q := by
  intro T hT X
  have hpl : e.platform.magicAccessors = ({} : Platform).magicAccessors := by rw [X.admits.platform]
  obtain ⟨vm', hW', X', st⟩ := X.outThrough hlocks q (g := F0 m pc ls rest) rfl rfl rfl (cell := ce) (by rw [hT]; exact hcell) (by rw [hv]; rfl)
    (by obtain ⟨k9, h9, -⟩ := Vm.findClass_spec hcl; exact ⟨k9, h9⟩) (fun z hz => by
      rcases hpass z hz with h | ⟨hz0, nm, hl1, hn1⟩
      · exact Or.inl h
      · obtain ⟨c6, hc6, hcl6⟩ := Cond.classLink_spec hown hl1 e.platform hpl
        obtain ⟨a8, b8, h1, h2, h3⟩ := hn1
        cases Option.some.inj (h1.symm.trans hcl)
        cases Option.some.inj (h2.symm.trans hc6)
        exact Or.inr ⟨hz0, _, hcl6, h3⟩)
  obtain ⟨g₀, hfr⟩ := X'.frames_eq
  have hcell9 : ((T.setVm vm').setFrames (.throwing q :: below)).heap[q]? = some ce := by
    show T.heap[q]? = some ce
    rw [hT]; exact hcell
  have hend : Ended ((T.setVm vm').setFrames (.throwing q :: below)) below (.threw q) := State.frames_setFrames _ (State.cur_lt_of_frames hfr)
  refine ⟨(T.setVm vm').setFrames (.throwing q :: below), ?_, .threw q, X'.here.running, hend, Or.inr ⟨q, rfl, E, ce, locs, hx _ hT (X'.ends _).1.alike, hcell9, hv, hcl, (X'.ends _).1, (X'.ends _).2.mono hc hs, hf⟩⟩
  rw [X.pushThrowing_eq]
  exact st
/-- a thing of a world lies in the heap -/
theorem vx_lt {D : va_G} {cl : List vw_C} {ws : va_W} {H1 : Heap} (h : va_P D cl ws H1) {k : Nat} {q : Nat × va_E} (hk : ws[k]? = some q) : q.1 < H1.size := (h k q hk).lt
end VXS
/-! ===== END ===== -/
/-! ===== BEGIN methods with a table of their own: called by a name, returning or throwing ===== -/
section VXH
/-! vx_backW, vx_callVX, vx_callSX, vx_callVW, vx_runVW, vx_runVX, vx_runSX, vx_ofWH follow the same proofs as their sisters above (Free/Laws.lean, Shelf42/LK1.lean); vx_outP calls Shelf42/NT130.lean (outThrough). -/
section
variable {l : Launch} {R : Room} {p : Program} {e : Env} {below : List Frame} {s : State} {sargs : Array Value} {y : MethodName} {len W9 : Nat}
theorem vx_backW {ws : List Cond} {rm : Room} {Pc : Array Value → State → Prop} {Qc : Array Value → State → Outcome → State → Prop} {XC : String → State → State → Prop} {mc ms : Nat} {free : Addr → Prop} {bytes : ByteArray} {maxL : Nat} {ret : Option FieldType} {hh : List (Nat × Nat × Nat × Nat)}
    (hM : vx_Met l y ws rm Pc Qc XC mc ms free) (hblind : FrameBlind Pc) (hrc : rm.cells = mc) (hrs : rm.slots = ms)
    (hframes : rm.frames + 1 ≤ R.frames) (hlocals : W9 + (maxL + 11) + rm.locals ≤ R.locals)
    (hws : ∀ w ∈ ws, ∀ a' U, s.WarmedH U.vm → w.before a' U = true) (hcode : Cond.codeWith y bytes maxL ret hh ∈ ws) (hinit : ∀ a' U, s.WarmedH U.vm → (Cond.initialized y.cls).before a' U = true) :
    vx_Back l R p e below s sargs y len W9 (PreOf R mc ms Pc) (PostOf Qc mc ms free) (vx_Post XC mc ms free) := by
  intro m meth c A g ig mk a X hg hsize hdg hW hn hp
  have h1 : (headSpec ws rm).pre.before a A.U = true := atoms_intro fun w hw => hws w hw _ _ X.warmed
  have h2 : (Cond.codeWith y bytes maxL ret hh).before a A.U = true := hws _ hcode _ _ X.warmed
  have h3 : (Cond.initialized y.cls).before a A.U = true := hinit _ _ X.warmed
  have h4 : A.cells + (headSpec ws rm).room.cells ≤ R.cells := by rw [show (headSpec ws rm).room.cells = mc from hrc]; exact hp.1
  have h5 : A.slots + (headSpec ws rm).room.slots ≤ R.slots := by rw [show (headSpec ws rm).room.slots = ms from hrs]; exact hp.2.1
  have hPc : Pc a (A.U.calling g mk a) := hblind _ _ _ _ hp.2.2
  obtain ⟨U, Ls, c0, s0⟩ := A
  dsimp only [Pt.U, Pt.locs, Pt.cells, Pt.slots] at h1 h2 h3 h4 h5 X hn hPc ⊢
  obtain ⟨m9, methY, cY, hn9, hmY, hcY, -, hlY, -⟩ := Cond.codeWith_spec h2
  cases Option.some.inj (hn9.symm.trans hn)
  obtain ⟨kY, hkY, -⟩ := className_of_methodNamed hn
  have hinitY : kY.init = .initialized := Cond.initialized_spec (findClass_of_methodNamed hn) hkY h3
  have h : At U g.method c below := by rw [hg]; exact X.here
  have hlocals9 : W9 + (maxL + 11) + (headSpec ws rm).room.locals ≤ R.locals := hlocals
  have happ : (headSpec ws rm).appliesLoose y e.platform (U.calling g mk a) = true :=
    Spec.appliesLoose_calling (g := g) h hdg hn hkY hinitY
      (X.room_calling (g := g) (R' := (headSpec ws rm).room) hsize hmY hcY hframes (by rw [hlY]; omega) h4 h5) h1
  obtain ⟨mid, hmid⟩ := h.above
  have hfr : (U.setTop g).frames = (.java g :: mid) ++ below := by rw [State.frames_setTop' g h.top, hmid]; rfl
  obtain ⟨o, s₂, hsteps, -, hend, hq⟩ := Steps.callFree hM p X.admits X.cas X.clock (acts := []) hfr happ hPc trivial
  have hq' : vx_Q Qc XC mc ms free a (U.calling g mk a) o s₂ := hq
  rw [State.frames_setTop' g h.top] at hend
  obtain ⟨g₀, hg0⟩ := Option.isSome_iff_exists.mp h.top
  obtain ⟨r, hr⟩ := State.topJava?_eq_some.mp hg0
  have hr' : (({ U with heap := s₂.heap, slotsUsed := s₂.slotsUsed } : State).setVm s₂.vm).frames = .java g₀ :: r := hr
  rcases hq' with ⟨hqc, L, hfe, hL⟩ | ⟨q, rfl, E, ce, L, hx, hce, hcv, hcl, hW₂, hsm, hL⟩
  · obtain ⟨⟨v, rfl⟩, hW₂, e2, q2, q3, q4, q5, q6⟩ := id hfe
    have e3 : s₂ = ({ (U.calling g mk a).setFrames s₂.frames with heap := s₂.heap, slotsUsed := s₂.slotsUsed } : State).setVm s₂.vm := by
      have : s₂ = ({ s₂ with vm := (U.calling g mk a).vm } : State).setVm s₂.vm := rfl
      rw [e2] at this
      exact this
    obtain ⟨c₂, i₂, len₂, hc₂, hd₂, hf₂⟩ := hend
    have hW' : U.WarmedH s₂.vm := hW₂
    have hcc : c₂ = c := by
      have h1 : s₂.code? g.method = U.code? g.method := by
        rw [State.code?_eq, State.code?_eq, hW'.alike.method?]
      exact Option.some.inj (hc₂.symm.trans (h1.trans h.code))
    subst hcc
    have hlen : len₂ = len := by rw [hdg] at hd₂; cases hd₂; rfl
    subst hlen
    have hs₂ : s₂ = (({ U with heap := s₂.heap, slotsUsed := s₂.slotsUsed } : State).setVm s₂.vm).setTop { g with pc := g.pc + len₂, stack := v.toList ++ g.stack } := by
      refine e3.trans ?_
      rw [hf₂, State.calling_eq h.top, State.setFrames_setFrames, State.setTop_of_frames _ hr', hr]
      rfl
    have hsame : U.sameButNew ({ U with heap := s₂.heap, slotsUsed := s₂.slotsUsed } : State) L mc ms := by
      refine ⟨?_, q2, q3, q4, q5, q6⟩
      obtain ⟨t, ht, -⟩ := State.frames_cons hr
      show ({ U with heap := s₂.heap, slotsUsed := s₂.slotsUsed } : State) = { U.setFrames U.frames with heap := s₂.heap, slotsUsed := s₂.slotsUsed }
      rw [State.setFrames_self ht]
    subst hg
    refine Or.inl ⟨v, ⟨(({ U with heap := s₂.heap, slotsUsed := s₂.slotsUsed } : State).setVm s₂.vm), Ls ++ L, c0 + mc, s0 + ms⟩,
      ⟨X.admits, X.cas, X.clock, X.frames, X.room, X.hears, X.method, X.code, (X.here.setHeapUsed s₂.heap s₂.slotsUsed).setVm hW'.alike, X.tail, State.WarmedH.trans X.warmed hW', X.limits, X.bytes, X.same.trans (hsame.setVm s.vm)⟩,
      ⟨g, mk, s₂, L, rfl, rfl, hqc, rfl, hL, rfl, rfl⟩, ?_⟩
    show Steps p.tables e below _ ((({ U with heap := s₂.heap, slotsUsed := s₂.slotsUsed } : State).setVm s₂.vm).setTop { g with pc := g.pc + len₂, stack := v.toList ++ g.stack })
    rw [← hs₂]
    exact hsteps
  · obtain ⟨e2, q2, q3, q4, q5, q6⟩ := id hsm
    have e3 : s₂ = ({ (U.calling g mk a).setFrames s₂.frames with heap := s₂.heap, slotsUsed := s₂.slotsUsed } : State).setVm s₂.vm := by
      have : s₂ = ({ s₂ with vm := (U.calling g mk a).vm } : State).setVm s₂.vm := rfl
      rw [e2] at this
      exact this
    have hf₂ : s₂.frames = .throwing q :: .java g :: U.frames.tail := hend
    have hW' : U.WarmedH s₂.vm := hW₂
    have hs₂ : s₂ = ((({ U with heap := s₂.heap, slotsUsed := s₂.slotsUsed } : State).setVm s₂.vm).setTop g).pushFrame (.throwing q) := by
      refine e3.trans ?_
      rw [hf₂, State.calling_eq h.top, State.setFrames_setFrames, State.pushFrame, State.frames_setTop _ hr', State.setTop_of_frames _ hr', State.setFrames_setFrames, hr]
      rfl
    have hsame : U.sameButNew ({ U with heap := s₂.heap, slotsUsed := s₂.slotsUsed } : State) L mc ms := by
      refine ⟨?_, q2, q3, q4, q5, q6⟩
      obtain ⟨t, ht, -⟩ := State.frames_cons hr
      show ({ U with heap := s₂.heap, slotsUsed := s₂.slotsUsed } : State) = { U.setFrames U.frames with heap := s₂.heap, slotsUsed := s₂.slotsUsed }
      rw [State.setFrames_self ht]
    subst hg
    refine Or.inr ⟨q, ⟨(({ U with heap := s₂.heap, slotsUsed := s₂.slotsUsed } : State).setVm s₂.vm), Ls ++ L, c0 + mc, s0 + ms⟩,
      ⟨X.admits, X.cas, X.clock, X.frames, X.room, X.hears, X.method, X.code, (X.here.setHeapUsed s₂.heap s₂.slotsUsed).setVm hW'.alike, X.tail, State.WarmedH.trans X.warmed hW', X.limits, X.bytes, X.same.trans (hsame.setVm s.vm)⟩,
      ⟨g, mk, s₂, L, E, ce, rfl, rfl, hx, hce, hcv, hcl, rfl, hL, rfl, rfl⟩, ?_⟩
    show Steps p.tables e below _ (((({ U with heap := s₂.heap, slotsUsed := s₂.slotsUsed } : State).setVm s₂.vm).setTop g).pushFrame (.throwing q))
    rw [← hs₂]
    exact hsteps
end
variable {p : Program} {l : Launch} {e : Env} {R : Room} {s : State} {m : MethodId} {args : Array Value} {below : List Frame} {meth : Method} {c : Code} {T : State} {H : Heap} {locs : List Loc} {cells slots : Nat}
theorem vx_callVX (X : Stand p l e R s m args below meth c T locs cells slots) (hexec : p.tables.exec = Jvm.exec) {own C : String} {index : Nat} {y : MethodName} {bytes : ByteArray} {maxL : Nat} {ret : Option FieldType} {hh : List (Nat × Nat × Nat × Nat)}
    (hown : s.vm.findClass own = some m.cls) (hlink : (Cond.methodLink own index y).before args s = true) (hinst : (Cond.instanceMethod y).before args s = true) (hsel : (Cond.selects C y y).before args s = true)
    (hcode : (Cond.codeWith y bytes maxL ret hh).before args s = true) (hy : y.cls ≠ "java/lang/invoke/MethodHandle" ∧ y.cls ≠ "java/lang/invoke/VarHandle")
    {W9 : Nat} {Pre : Pt → Array Value → Prop} {Post : Pt → Array Value → Option Value → Pt → Prop} {PostX : Pt → Array Value → Addr → Pt → Prop} (hK : vx_Back l R p e below s args y 3 W9 Pre Post PostX)
    {b : Addr} {cellB : Cell} (hcell : T.heap[b]? = some cellB) (hobj : cellB.vm.isStatics = false) (hcls : s.vm.findClass C = some cellB.cls)
    {g : JFrame} (hg : g.method = m) (hsize : g.locals.size = c.maxLocals) {argsL rest : List Value} (hlen : ∀ sig, parseMethodDescriptor y.desc = some sig → argsL.length = sig.parameters.length)
    (hstack : g.stack = argsL.reverse ++ .ref b :: rest) (hW : 2 * g.monitorRoom + (rest.map fun v => v.category).sum ≤ W9) (hdg : decode c.code g.pc = .ok (.invokevirtual index, 3))
    (hpre : ∀ vm₁, s.WarmedH vm₁ → Pre ⟨T.setVm vm₁, locs, cells, slots⟩ (Value.ref b :: argsL).toArray) :
    (∃ (v : Option Value) (vm₁ : Vm) (B : Pt), s.WarmedH vm₁ ∧ Stand p l e R s m args below meth c B.U B.locs B.cells B.slots ∧ Post ⟨T.setVm vm₁, locs, cells, slots⟩ (Value.ref b :: argsL).toArray v B ∧
      ∀ target, Steps p.tables e below (B.U.setTop { g with pc := g.pc + 3, stack := v.toList ++ rest }) target → Steps p.tables e below (T.setTop g) target) ∨
    (∃ (q : Addr) (vm₁ : Vm) (B : Pt), s.WarmedH vm₁ ∧ Stand p l e R s m args below meth c B.U B.locs B.cells B.slots ∧ PostX ⟨T.setVm vm₁, locs, cells, slots⟩ (Value.ref b :: argsL).toArray q B ∧
      Steps p.tables e below (T.setTop g) ((B.U.setTop { g with stack := rest }).pushFrame (.throwing q))) := by
  obtain ⟨mk, methM, hnamed, hmethM, hstM, habM⟩ := Cond.instanceMethod_spec hinst
  obtain ⟨m8, methM', cM, hn8, hmethM', -, -, -, -, -, -, hsigM⟩ := Cond.codeWith_spec hcode
  cases Option.some.inj (hn8.symm.trans hnamed)
  cases hmethM.symm.trans hmethM'
  obtain ⟨c2, r2, m2, q1, q2, q3, q4, kP, hkP, hkPi⟩ := Cond.selects_spec hsel
  cases hcls.symm.trans q1
  cases (State.methodFound?_of_named hnamed hy).symm.trans q2
  cases hnamed.symm.trans q3
  have hselP : selectMethod e.platform s.vm cellB.cls mk = .method mk := by rw [Launch.admits_selectMethod X.admits]; exact q4
  obtain ⟨vm₁, X₁, hstep₁⟩ := X.invokevirtual hexec hown hlink hnamed hmethM hstM hkP hkPi hy (a := b) (cell := cellB) hcell
    (fun z h => by rw [h] at hobj; cases hobj) hselP hmethM habM hkP hkPi (g := g) hg (argsL := argsL) (rest := rest) (hlen _ hsigM) hstack hdg
  rcases hK m meth c ⟨T.setVm vm₁, locs, cells, slots⟩ { g with stack := rest } (.invokevirtual index) mk (Value.ref b :: argsL).toArray X₁ hg hsize hdg hW (X₁.named hnamed) (hpre vm₁ X₁.warmed) with ⟨v, B, X', hpost, hsteps⟩ | ⟨q, B, X', hpost, hsteps⟩
  · exact Or.inl ⟨v, vm₁, B, X₁.warmed, X', hpost, fun target h => hstep₁ _ fun acts => by rw [doInvoke_state]; exact hsteps.trans h⟩
  · exact Or.inr ⟨q, vm₁, B, X₁.warmed, X', hpost, hstep₁ _ fun acts => by rw [doInvoke_state]; exact hsteps⟩
theorem vx_callSX (X : Stand p l e R s m args below meth c T locs cells slots) (hexec : p.tables.exec = Jvm.exec) {own : String} {index : Nat} {y : MethodName} {bytes : ByteArray} {maxL : Nat} {ret : Option FieldType} {hh : List (Nat × Nat × Nat × Nat)}
    (hown : s.vm.findClass own = some m.cls) (hlink : (Cond.methodLink own index y).before args s = true) (hstat : (Cond.static y).before args s = true) (hinit : (Cond.initialized y.cls).before args s = true)
    (hcode : (Cond.codeWith y bytes maxL ret hh).before args s = true) (hy : y.cls ≠ "java/lang/invoke/MethodHandle" ∧ y.cls ≠ "java/lang/invoke/VarHandle")
    {W9 : Nat} {Pre : Pt → Array Value → Prop} {Post : Pt → Array Value → Option Value → Pt → Prop} {PostX : Pt → Array Value → Addr → Pt → Prop} (hK : vx_Back l R p e below s args y 3 W9 Pre Post PostX)
    {g : JFrame} (hg : g.method = m) (hsize : g.locals.size = c.maxLocals) {argsL rest : List Value} (hlen : ∀ sig, parseMethodDescriptor y.desc = some sig → argsL.length = sig.parameters.length)
    (hstack : g.stack = argsL.reverse ++ rest) (hW : 2 * g.monitorRoom + (rest.map fun v => v.category).sum ≤ W9) (hdg : decode c.code g.pc = .ok (.invokestatic index, 3))
    (hpre : ∀ vm₁, s.WarmedH vm₁ → Pre ⟨T.setVm vm₁, locs, cells, slots⟩ argsL.toArray) :
    (∃ (v : Option Value) (vm₁ : Vm) (B : Pt), s.WarmedH vm₁ ∧ Stand p l e R s m args below meth c B.U B.locs B.cells B.slots ∧ Post ⟨T.setVm vm₁, locs, cells, slots⟩ argsL.toArray v B ∧
      ∀ target, Steps p.tables e below (B.U.setTop { g with pc := g.pc + 3, stack := v.toList ++ rest }) target → Steps p.tables e below (T.setTop g) target) ∨
    (∃ (q : Addr) (vm₁ : Vm) (B : Pt), s.WarmedH vm₁ ∧ Stand p l e R s m args below meth c B.U B.locs B.cells B.slots ∧ PostX ⟨T.setVm vm₁, locs, cells, slots⟩ argsL.toArray q B ∧
      Steps p.tables e below (T.setTop g) ((B.U.setTop { g with stack := rest }).pushFrame (.throwing q))) := by
  obtain ⟨mk, methM, cM, hnamed, hmethM, -, -, -, -, -, -, hsigM⟩ := Cond.codeWith_spec hcode
  have hstatic : methM.isStatic = true := Cond.static_spec hnamed hmethM hstat
  obtain ⟨kP, hkP, -⟩ := className_of_methodNamed hnamed
  have hinitP : kP.init = .initialized := Cond.initialized_spec (findClass_of_methodNamed hnamed) hkP hinit
  obtain ⟨vm₁, X₁, hstep₁⟩ := X.invokestatic hexec hown hlink hnamed hmethM hstatic hkP hinitP hy (g := g) hg (argsL := argsL) (rest := rest) (hlen _ hsigM) hstack hdg
  rcases hK m meth c ⟨T.setVm vm₁, locs, cells, slots⟩ { g with stack := rest } (.invokestatic index) mk argsL.toArray X₁ hg hsize hdg hW (X₁.named hnamed) (hpre vm₁ X₁.warmed) with ⟨v, B, X', hpost, hsteps⟩ | ⟨q, B, X', hpost, hsteps⟩
  · exact Or.inl ⟨v, vm₁, B, X₁.warmed, X', hpost, fun target h => hstep₁ _ fun acts => by rw [doInvoke_state]; exact hsteps.trans h⟩
  · exact Or.inr ⟨q, vm₁, B, X₁.warmed, X', hpost, hstep₁ _ fun acts => by rw [doInvoke_state]; exact hsteps⟩
theorem vx_callVW (X : Stand p l e R s m args below meth c T locs cells slots) (hexec : p.tables.exec = Jvm.exec) {own C : String} {index : Nat} {y : MethodName} {bytes : ByteArray} {maxL : Nat} {ret : Option FieldType} {hh : List (Nat × Nat × Nat × Nat)}
    (hown : s.vm.findClass own = some m.cls) (hlink : (Cond.methodLink own index y).before args s = true) (hinst : (Cond.instanceMethod y).before args s = true) (hsel : (Cond.selects C y y).before args s = true)
    (hcode : (Cond.codeWith y bytes maxL ret hh).before args s = true) (hy : y.cls ≠ "java/lang/invoke/MethodHandle" ∧ y.cls ≠ "java/lang/invoke/VarHandle")
    {W9 : Nat} {Pre : Pt → Array Value → Prop} {Post : Pt → Array Value → Option Value → Pt → Prop} (hK : Back l R p e below s args y 3 W9 Pre Post)
    {b : Addr} {cellB : Cell} (hcell : T.heap[b]? = some cellB) (hobj : cellB.vm.isStatics = false) (hcls : s.vm.findClass C = some cellB.cls)
    {g : JFrame} (hg : g.method = m) (hsize : g.locals.size = c.maxLocals) {argsL rest : List Value} (hlen : ∀ sig, parseMethodDescriptor y.desc = some sig → argsL.length = sig.parameters.length)
    (hstack : g.stack = argsL.reverse ++ .ref b :: rest) (hW : 2 * g.monitorRoom + (rest.map fun v => v.category).sum ≤ W9) (hdg : decode c.code g.pc = .ok (.invokevirtual index, 3))
    (hpre : ∀ vm₁, s.WarmedH vm₁ → Pre ⟨T.setVm vm₁, locs, cells, slots⟩ (Value.ref b :: argsL).toArray) :
    ∃ (v : Option Value) (vm₁ : Vm) (B : Pt), s.WarmedH vm₁ ∧ Stand p l e R s m args below meth c B.U B.locs B.cells B.slots ∧ Post ⟨T.setVm vm₁, locs, cells, slots⟩ (Value.ref b :: argsL).toArray v B ∧
      ∀ target, Steps p.tables e below (B.U.setTop { g with pc := g.pc + 3, stack := v.toList ++ rest }) target → Steps p.tables e below (T.setTop g) target := by
  obtain ⟨mk, methM, hnamed, hmethM, hstM, habM⟩ := Cond.instanceMethod_spec hinst
  obtain ⟨m8, methM', cM, hn8, hmethM', -, -, -, -, -, -, hsigM⟩ := Cond.codeWith_spec hcode
  cases Option.some.inj (hn8.symm.trans hnamed)
  cases hmethM.symm.trans hmethM'
  obtain ⟨c2, r2, m2, q1, q2, q3, q4, kP, hkP, hkPi⟩ := Cond.selects_spec hsel
  cases hcls.symm.trans q1
  cases (State.methodFound?_of_named hnamed hy).symm.trans q2
  cases hnamed.symm.trans q3
  have hselP : selectMethod e.platform s.vm cellB.cls mk = .method mk := by rw [Launch.admits_selectMethod X.admits]; exact q4
  obtain ⟨vm₁, X₁, hstep₁⟩ := X.invokevirtual hexec hown hlink hnamed hmethM hstM hkP hkPi hy (a := b) (cell := cellB) hcell
    (fun z h => by rw [h] at hobj; cases hobj) hselP hmethM habM hkP hkPi (g := g) hg (argsL := argsL) (rest := rest) (hlen _ hsigM) hstack hdg
  obtain ⟨v, B, X', hpost, hsteps⟩ := hK m meth c ⟨T.setVm vm₁, locs, cells, slots⟩ { g with stack := rest } (.invokevirtual index) mk (Value.ref b :: argsL).toArray X₁ hg hsize hdg hW (X₁.named hnamed) (hpre vm₁ X₁.warmed)
  exact ⟨v, vm₁, B, X₁.warmed, X', hpost, fun target h => hstep₁ _ fun acts => by rw [doInvoke_state]; exact hsteps.trans h⟩
abbrev vx_CVW (R : Room) (s : State) (args : Array Value) (own C : String) (index : Nat) (y : MethodName) (bytes : ByteArray) (maxL : Nat) (ret : Option FieldType) (hh : List (Nat × Nat × Nat × Nat)) (ws : List Cond) (rm : Room) (mc ms n : Nat) : Prop :=
  (rm.cells = mc ∧ rm.slots = ms ∧ rm.frames + 1 ≤ R.frames ∧ 8 + (maxL + 11) + rm.locals ≤ R.locals ∧ (∀ w ∈ ws, ∀ (a' : Array Value) (U : State), s.WarmedH U.vm → w.before a' U = true) ∧ Cond.codeWith y bytes maxL ret hh ∈ ws) ∧
  (Cond.codeWith y bytes maxL ret hh).before args s = true ∧ (Cond.initialized y.cls).before args s = true ∧ (y.cls ≠ "java/lang/invoke/MethodHandle" ∧ y.cls ≠ "java/lang/invoke/VarHandle") ∧
  (∀ sig, parseMethodDescriptor y.desc = some sig → n = sig.parameters.length) ∧ (Cond.methodLink own index y).before args s = true ∧ (Cond.instanceMethod y).before args s = true ∧ (Cond.selects C y y).before args s = true
theorem vx_cwVW {own C : String} {index maxL mc ms : Nat} {y : MethodName} {bytes : ByteArray} {ret : Option FieldType} {hh : List (Nat × Nat × Nat × Nat)} {Ts ws ws' : List Cond} {rm : Room} (n : Nat) (ht : ∀ w ∈ Ts, w.before args s = true) (hT : GoodIn Ts (wsV own index C y ws)) (hw : ws = Cond.codeWith y bytes maxL ret hh :: ws') (hrc : rm.cells = mc) (hrs : rm.slots = ms)
    (hd : y.cls = C ∧ y.cls ≠ "java/lang/invoke/MethodHandle" ∧ y.cls ≠ "java/lang/invoke/VarHandle" ∧ (parseMethodDescriptor y.desc).map (fun d => d.parameters.length) = some n) (hR : rm.frames + 1 ≤ R.frames ∧ 8 + (maxL + 11) + rm.locals ≤ R.locals) :
    vx_CVW R s args own C index y bytes maxL ret hh ws rm mc ms n := by
  obtain ⟨hC, hd⟩ := hd
  subst hC
  have ok : ∀ w ∈ wsV own index y.cls y ws, w.before args s = true := fun w h => ht w (hT w h).1
  have hG : GoodIn Ts ws := fun w h => hT w (by unfold wsV; exact List.mem_append_right _ h)
  have hc : Cond.codeWith y bytes maxL ret hh ∈ ws := by rw [hw]; exact List.mem_cons_self
  refine ⟨⟨hrc, hrs, hR.1, hR.2, pay_in ht hG, hc⟩, ht _ (hG _ hc).1, ok _ (by simp [wsV]), ⟨hd.1, hd.2.1⟩, fun sig h => ?_, ok _ (by simp [wsV]), ok _ (by simp [wsV]), ok _ (by simp [wsV])⟩
  have h2 := hd.2.2
  rw [h] at h2
  exact (Option.some.inj h2).symm
theorem vx_runVW {y : MethodName} {bytes cc : ByteArray} {maxL nL mc ms n index : Nat} {ret : Option FieldType} {hh : List (Nat × Nat × Nat × Nat)} {ws : List Cond} {rm : Room} {Pc : Array Value → State → Prop} {Qc : Array Value → State → Outcome → State → Prop} {free : Addr → Prop} {Ts : List Cond} {own C : String} {b : Addr} {As rest : List Value} {g : JFrame}
    (S : CallFix p m c cc nL s args Ts own) (hM : Met l y ws rm Pc Qc mc ms free) (cw : vx_CVW R s args own C index y bytes maxL ret hh ws rm mc ms n) (hp : PreV s H C b Pc As)
    (hg : g.method = m) (hn : As.length = n) (hsize : g.locals.size = nL) (hstack : g.stack = As.reverse ++ .ref b :: rest) (hW : 2 * g.monitorRoom + (rest.map fun v => v.category).sum ≤ 8) (hdg : decode cc g.pc = .ok (.invokevirtual index, 3)) (hf : cells + mc ≤ R.cells ∧ slots + ms ≤ R.slots) :
    va_Run p l e R s m args below meth c H locs cells slots mc ms g rest (Qc (Value.ref b :: As).toArray) free := by
  obtain ⟨⟨hrc, hrs, hfr, hlo, hws, hcw⟩, hcode, hini, hy, hlen, hl, hin, hse⟩ := cw
  have hK : Back l R p e below s args y 3 8 (PreOf R mc ms Pc) (PostOf Qc mc ms free) := va_backW (hh := hh) (bytes := bytes) (maxL := maxL) (ret := ret) hM hp.1 hrc hrs hfr hlo hws hcw (fun a' U hW => word_at hW (Or.inl (by first | rfl | simp [Cond.onTables, Cond.keeps, Cond.steady])) hini)
  obtain ⟨hx, hb, hml, ho, -⟩ := S
  obtain ⟨-, ⟨cellB, hcB, hoB, hclB⟩, hPc⟩ := hp
  intro T hT X
  obtain ⟨v, vm₁, ⟨U', l2, c2, s2⟩, hW₁, X', ⟨g', mk, t, L, e1, e2, hq, h1, hL, h2, h3⟩, st⟩ := vx_callVW X hx (C := C) (hh := hh) (bytes := bytes) (maxL := maxL) (ret := ret) ho hl hin hse hcode hy hK (by rw [hT]; exact hcB) hoB hclB hg (hsize.trans hml.symm) (argsL := As) (rest := rest) (fun sig h => hn.trans (hlen sig h)) hstack hW (by rw [hb]; exact hdg)
    (fun vm₁ hW₁ => ⟨hf.1, hf.2, hPc (T.setVm vm₁) hT hW₁⟩)
  dsimp only [Pt.U, Pt.locs, Pt.cells, Pt.slots] at X' e1 e2 h1 h2 h3 st
  subst h1; subst h2; subst h3
  exact ⟨v, (T.setVm vm₁).calling g' mk (Value.ref b :: As).toArray, t, U', L, hT, X', hL, e1, e2, hq, st⟩
section
variable {y : MethodName} {bytes cc : ByteArray} {maxL nL mc ms n index : Nat} {ret : Option FieldType} {ws : List Cond} {rm : Room} {Pc : Array Value → State → Prop} {Qc : Array Value → State → Outcome → State → Prop} {XC : String → State → State → Prop} {free : Addr → Prop} {Ts : List Cond} {own C : String} {b : Addr} {As rest : List Value} {g : JFrame}
theorem vx_runVX {hh : List (Nat × Nat × Nat × Nat)} (S : CallFix p m c cc nL s args Ts own) (hM : vx_Met l y ws rm Pc Qc XC mc ms free) (cw : vx_CVW R s args own C index y bytes maxL ret hh ws rm mc ms n) (hp : PreV s H C b Pc As)
    (hg : g.method = m) (hn : As.length = n) (hsize : g.locals.size = nL) (hstack : g.stack = As.reverse ++ .ref b :: rest) (hW : 2 * g.monitorRoom + (rest.map fun v => v.category).sum ≤ 8) (hdg : decode cc g.pc = .ok (.invokevirtual index, 3)) (hf : cells + mc ≤ R.cells ∧ slots + ms ≤ R.slots) :
    vx_Run p l e R s m args below meth c H locs cells slots mc ms g rest (Qc (Value.ref b :: As).toArray) XC free := by
  obtain ⟨⟨hrc, hrs, hfr, hlo, hws, hcw⟩, hcode, hini, hy, hlen, hl, hin, hse⟩ := cw
  have hK : vx_Back l R p e below s args y 3 8 (PreOf R mc ms Pc) (PostOf Qc mc ms free) (vx_Post XC mc ms free) := vx_backW (hh := hh) (bytes := bytes) (maxL := maxL) (ret := ret) hM hp.1 hrc hrs hfr hlo hws hcw (fun a' U hW => word_at hW (Or.inl (by first | rfl | simp [Cond.onTables, Cond.keeps, Cond.steady])) hini)
  obtain ⟨hx, hb, hml, ho, -⟩ := S
  obtain ⟨-, ⟨cellB, hcB, hoB, hclB⟩, hPc⟩ := hp
  intro T hT X
  rcases vx_callVX X hx (C := C) (hh := hh) (bytes := bytes) (maxL := maxL) (ret := ret) ho hl hin hse hcode hy hK (by rw [hT]; exact hcB) hoB hclB hg (hsize.trans hml.symm) (argsL := As) (rest := rest) (fun sig h => hn.trans (hlen sig h)) hstack hW (by rw [hb]; exact hdg)
    (fun vm₁ hW₁ => ⟨hf.1, hf.2, hPc (T.setVm vm₁) hT hW₁⟩) with ⟨v, vm₁, ⟨U', l2, c2, s2⟩, hW₁, X', ⟨g', mk, t, L, e1, e2, hq, h1, hL, h2, h3⟩, st⟩ | ⟨q, vm₁, ⟨U', l2, c2, s2⟩, hW₁, X', ⟨g', mk, t, L, E, ce, e1, e2, hq, hce, hcv, hcl, h1, hL, h2, h3⟩, st⟩
  · dsimp only [Pt.U, Pt.locs, Pt.cells, Pt.slots] at X' e1 e2 h1 h2 h3 st
    subst h1; subst h2; subst h3
    exact Or.inl ⟨v, (T.setVm vm₁).calling g' mk (Value.ref b :: As).toArray, t, U', L, hT, X', hL, e1, e2, hq, st⟩
  · dsimp only [Pt.U, Pt.locs, Pt.cells, Pt.slots] at X' e1 e2 h1 h2 h3 st hcl
    subst h1; subst h2; subst h3
    exact Or.inr ⟨q, (T.setVm vm₁).calling g' mk (Value.ref b :: As).toArray, t, U', L, E, ce, hT, X', hL, e1, e2, hq, hce, hcv, vx_cls hW₁ hcl, st⟩
theorem vx_runSX {hh : List (Nat × Nat × Nat × Nat)} (S : CallFix p m c cc nL s args Ts own) (hM : vx_Met l y ws rm Pc Qc XC mc ms free) (cw : vx_CSW R s args own index y bytes maxL ret hh ws rm mc ms n) (hp : PreS s H Pc As)
    (hg : g.method = m) (hn : As.length = n) (hsize : g.locals.size = nL) (hstack : g.stack = As.reverse ++ rest) (hW : 2 * g.monitorRoom + (rest.map fun v => v.category).sum ≤ 8) (hdg : decode cc g.pc = .ok (.invokestatic index, 3)) (hf : cells + mc ≤ R.cells ∧ slots + ms ≤ R.slots) :
    vx_Run p l e R s m args below meth c H locs cells slots mc ms g rest (Qc As.toArray) XC free := by
  obtain ⟨⟨hrc, hrs, hfr, hlo, hws, hcw⟩, hcode, hini, hy, hlen, hl, hstt⟩ := cw
  have hK : vx_Back l R p e below s args y 3 8 (PreOf R mc ms Pc) (PostOf Qc mc ms free) (vx_Post XC mc ms free) := vx_backW (hh := hh) (bytes := bytes) (maxL := maxL) (ret := ret) hM hp.1 hrc hrs hfr hlo hws hcw (fun a' U hW => word_at hW (Or.inl (by first | rfl | simp [Cond.onTables, Cond.keeps, Cond.steady])) hini)
  obtain ⟨hx, hb, hml, ho, -⟩ := S
  intro T hT X
  rcases vx_callSX X hx (hh := hh) (bytes := bytes) (maxL := maxL) (ret := ret) ho hl hstt hini hcode hy hK hg (hsize.trans hml.symm) (argsL := As) (rest := rest) (fun sig h => hn.trans (hlen sig h)) hstack hW (by rw [hb]; exact hdg)
    (fun vm₁ hW₁ => ⟨hf.1, hf.2, hp.2 (T.setVm vm₁) hT hW₁⟩) with ⟨v, vm₁, ⟨U', l2, c2, s2⟩, hW₁, X', ⟨g', mk, t, L, e1, e2, hq, h1, hL, h2, h3⟩, st⟩ | ⟨q, vm₁, ⟨U', l2, c2, s2⟩, hW₁, X', ⟨g', mk, t, L, E, ce, e1, e2, hq, hce, hcv, hcl, h1, hL, h2, h3⟩, st⟩
  · dsimp only [Pt.U, Pt.locs, Pt.cells, Pt.slots] at X' e1 e2 h1 h2 h3 st
    subst h1; subst h2; subst h3
    exact Or.inl ⟨v, (T.setVm vm₁).calling g' mk As.toArray, t, U', L, hT, X', hL, e1, e2, hq, st⟩
  · dsimp only [Pt.U, Pt.locs, Pt.cells, Pt.slots] at X' e1 e2 h1 h2 h3 st hcl
    subst h1; subst h2; subst h3
    exact Or.inr ⟨q, (T.setVm vm₁).calling g' mk As.toArray, t, U', L, E, ce, hT, X', hL, e1, e2, hq, hce, hcv, vx_cls hW₁ hcl, st⟩
end
end VXH
theorem vx_ofWH {l : Launch} {y : MethodName} {ws ws' : List Cond} {rm : Room} {Pc : Array Value → State → Prop} {Qc : Array Value → State → Outcome → State → Prop} {XC : String → State → State → Prop} {mc ms : Nat} {free : Addr → Prop} {cc : ByteArray} {maxL : Nat} {ret : Option FieldType} {hh : List (Nat × Nat × Nat × Nat)}
    (hy : plainName y.cls = true) (hw : ws = Cond.codeWith y cc maxL ret hh :: ws')
    (body : ∀ p e s m args below meth c s₁, BodyLoose p l y (headSpec ws rm) cc maxL ret e s m args below meth c s₁ → c.maxLocals = maxL → Pc args s →
      W p l e (headSpec ws rm).room s m args below meth c s.heap [] 0 0 (vx_MQ below Qc XC args s mc ms free) (entryFrame m args maxL)) : vx_Met l y ws rm Pc Qc XC mc ms free := by
  refine MetFree.of_bodyS (code := cc) (maxLocals := maxL) (ret := ret) hy ?_ ?_
  · intro args s m h hn
    obtain ⟨m9, meth, c, hn9, h1, h2, h3, h4, -, h5, h6, -⟩ := Cond.codeWith_spec (atoms_spec (ws := ws) h _ (by rw [hw]; exact List.mem_cons_self))
    cases hn.symm.trans hn9
    exact ⟨meth, c, h1, h2, h3, h4, h5, h6⟩
  · intro p e s m args below meth c s₁ B hml hP _
    have hh0 : s₁.heap = s.heap := by rw [B.state]; rfl
    obtain ⟨t, a1, o, b1, b2, b3⟩ := body p e s m args below meth c s₁ B hml hP s₁ hh0 (Stand.of_body B)
    exact ⟨t, o, a1, b1, b2, b3⟩
/-! ===== END ===== -/
end
section
def RX0 : String := "EnclosureReferee$Board"
def TX0 : u_T := fun k => match k with
  | 0 => ("EnclosureReferee$Board", "width", "I", true)
  | 1 => ("EnclosureReferee$Board", "height", "I", true)
  | 2 => ("EnclosureReferee$Board", "size", "I", true)
  | 3 => ("EnclosureReferee$Board", "all", "J", true)
  | 4 => ("EnclosureReferee$Board", "edge", "J", true)
  | 5 => ("EnclosureReferee$Board", "leftColumn", "J", true)
  | _ => ("EnclosureReferee$Board", "rightColumn", "J", true)
def tyX0 : Nat → FieldType := fun k => match k with
  | 0 => .int
  | 1 => .int
  | 2 => .int
  | 3 => .long
  | 4 => .long
  | 5 => .long
  | _ => .long
abbrev wsX00 : List Cond := u_ws RX0 TX0 7
theorem nmX0 : ∀ a, a < 7 → ∀ b, b < 7 → a ≠ b → (TX0 a).2.1 ≠ (TX0 b).2.1 := by decide +kernel
theorem tyX0_ok : ∀ k, k < 7 → parseFieldDescriptor (TX0 k).2.2.1 = some (tyX0 k) := by decide +kernel
abbrev cX0_init : ByteArray := prog_2_method_1_code
def yX0_init : MethodName := ⟨RX0, "<init>", "(II)V"⟩
abbrev cX0_has : ByteArray := prog_2_method_2_code
def yX0_has : MethodName := ⟨RX0, "has", "(I)Z"⟩
abbrev cX0_cellAt : ByteArray := prog_2_method_3_code
def yX0_cellAt : MethodName := ⟨RX0, "cellAt", "(II)I"⟩
abbrev cX0_rowOf : ByteArray := prog_2_method_4_code
def yX0_rowOf : MethodName := ⟨RX0, "rowOf", "(I)I"⟩
abbrev cX0_columnOf : ByteArray := prog_2_method_5_code
def yX0_columnOf : MethodName := ⟨RX0, "columnOf", "(I)I"⟩
abbrev cX0_partOfBoard : ByteArray := prog_2_method_6_code
def yX0_partOfBoard : MethodName := ⟨RX0, "partOfBoard", "(J)D"⟩
abbrev cX0_flood : ByteArray := prog_2_method_7_code
def yX0_flood : MethodName := ⟨RX0, "flood", "(JJ)J"⟩
abbrev cX0_isInside : ByteArray := prog_2_method_8_code
def yX0_isInside : MethodName := ⟨RX0, "isInside", "(JJ)Z"⟩
def RX1 : String := "EnclosureReferee$Foresight"
def TX1 : u_T := fun k => match k with
  | 0 => ("EnclosureReferee$Foresight", "next", "LEnclosureReferee$Round;", true)
  | _ => ("EnclosureReferee$Foresight", "last", "LEnclosureReferee$Round;", true)
def tyX1 : Nat → FieldType := fun k => match k with
  | 0 => .object "EnclosureReferee$Round"
  | _ => .object "EnclosureReferee$Round"
abbrev wsX10 : List Cond := u_ws RX1 TX1 2
theorem nmX1 : ∀ a, a < 2 → ∀ b, b < 2 → a ≠ b → (TX1 a).2.1 ≠ (TX1 b).2.1 := by decide +kernel
theorem tyX1_ok : ∀ k, k < 2 → parseFieldDescriptor (TX1 k).2.2.1 = some (tyX1 k) := by decide +kernel
abbrev cX1_init : ByteArray := prog_3_method_1_code
def yX1_init : MethodName := ⟨RX1, "<init>", "()V"⟩
abbrev cX1_leastValue : ByteArray := prog_3_method_2_code
def yX1_leastValue : MethodName := ⟨RX1, "leastValue", "(LEnclosureReferee$Game;LEnclosureReferee$Position;III)I"⟩
abbrev cX1_greatestValue : ByteArray := prog_3_method_3_code
def yX1_greatestValue : MethodName := ⟨RX1, "greatestValue", "(LEnclosureReferee$Game;LEnclosureReferee$Position;II)I"⟩
def RX2 : String := "EnclosureReferee$Game"
def TX2 : u_T := fun k => match k with
  | 0 => ("EnclosureReferee$Game", "board", "LEnclosureReferee$Board;", false)
  | 1 => ("EnclosureReferee$Game", "rule", "I", false)
  | 2 => ("EnclosureReferee$Game", "played", "I", false)
  | 3 => ("EnclosureReferee$Game", "rounds", "[LEnclosureReferee$Round;", true)
  | 4 => ("EnclosureReferee$Game", "beginning", "LEnclosureReferee$Position;", true)
  | 5 => ("EnclosureReferee$Game", "bonus0", "I", false)
  | _ => ("EnclosureReferee$Game", "bonus1", "I", false)
def tyX2 : Nat → FieldType := fun k => match k with
  | 0 => .object "EnclosureReferee$Board"
  | 1 => .int
  | 2 => .int
  | 3 => .array (.object "EnclosureReferee$Round")
  | 4 => .object "EnclosureReferee$Position"
  | 5 => .int
  | _ => .int
abbrev wsX20 : List Cond := u_ws RX2 TX2 7
theorem nmX2 : ∀ a, a < 7 → ∀ b, b < 7 → a ≠ b → (TX2 a).2.1 ≠ (TX2 b).2.1 := by decide +kernel
theorem tyX2_ok : ∀ k, k < 7 → parseFieldDescriptor (TX2 k).2.2.1 = some (tyX2 k) := by decide +kernel
abbrev cX2_init : ByteArray := prog_4_method_1_code
def yX2_init : MethodName := ⟨RX2, "<init>", "()V"⟩
abbrev cX2_begin : ByteArray := prog_4_method_2_code
def yX2_begin : MethodName := ⟨RX2, "begin", "(III)V"⟩
abbrev cX2_handicapCell : ByteArray := prog_4_method_3_code
def yX2_handicapCell : MethodName := ⟨RX2, "handicapCell", "(I)I"⟩
abbrev cX2_copyFrom : ByteArray := prog_4_method_4_code
def yX2_copyFrom : MethodName := ⟨RX2, "copyFrom", "(LEnclosureReferee$Game;)V"⟩
abbrev cX2_bonus : ByteArray := prog_4_method_5_code
def yX2_bonus : MethodName := ⟨RX2, "bonus", "(I)I"⟩
abbrev cX2_changeBonus : ByteArray := prog_4_method_6_code
def yX2_changeBonus : MethodName := ⟨RX2, "changeBonus", "(II)V"⟩
abbrev cX2_latest : ByteArray := prog_4_method_7_code
def yX2_latest : MethodName := ⟨RX2, "latest", "()LEnclosureReferee$Position;"⟩
abbrev cX2_hasEnded : ByteArray := prog_4_method_8_code
def yX2_hasEnded : MethodName := ⟨RX2, "hasEnded", "()Z"⟩
abbrev cX2_score : ByteArray := prog_4_method_9_code
def yX2_score : MethodName := ⟨RX2, "score", "(I)I"⟩
abbrev cX2_lead : ByteArray := prog_4_method_10_code
def yX2_lead : MethodName := ⟨RX2, "lead", "(LEnclosureReferee$Position;)I"⟩
abbrev cX2_stateAfterClash : ByteArray := prog_4_method_11_code
def yX2_stateAfterClash : MethodName := ⟨RX2, "stateAfterClash", "(LEnclosureReferee$Position;)I"⟩
abbrev cX2_addRound : ByteArray := prog_4_method_12_code
def yX2_addRound : MethodName := ⟨RX2, "addRound", "(II)I"⟩
abbrev cX2_clashes : ByteArray := prog_4_method_13_code
def yX2_clashes : MethodName := ⟨RX2, "clashes", "()I"⟩
abbrev cX2_waves : ByteArray := prog_4_method_14_code
def yX2_waves : MethodName := ⟨RX2, "waves", "()I"⟩
abbrev cX2_passes : ByteArray := prog_4_method_15_code
def yX2_passes : MethodName := ⟨RX2, "passes", "(I)I"⟩
abbrev cX2_roundThatChanged : ByteArray := prog_4_method_16_code
def yX2_roundThatChanged : MethodName := ⟨RX2, "roundThatChanged", "(I)I"⟩
abbrev cX2_waveThatChanged : ByteArray := prog_4_method_17_code
def yX2_waveThatChanged : MethodName := ⟨RX2, "waveThatChanged", "(I)I"⟩
abbrev cX2_roundOfGreatestChange : ByteArray := prog_4_method_18_code
def yX2_roundOfGreatestChange : MethodName := ⟨RX2, "roundOfGreatestChange", "()I"⟩
def RX3 : String := "EnclosureReferee$Input"
def TX3 : u_T := fun k => match k with
  | 0 => ("EnclosureReferee$Input", "length", "I", false)
  | 1 => ("EnclosureReferee$Input", "choicesRead", "I", false)
  | 2 => ("EnclosureReferee$Input", "signs", "[C", true)
  | _ => ("EnclosureReferee$Input", "choices", "[I", true)
def tyX3 : Nat → FieldType := fun k => match k with
  | 0 => .int
  | 1 => .int
  | 2 => .array .char
  | _ => .array .int
abbrev wsX30 : List Cond := u_ws RX3 TX3 4
theorem nmX3 : ∀ a, a < 4 → ∀ b, b < 4 → a ≠ b → (TX3 a).2.1 ≠ (TX3 b).2.1 := by decide +kernel
theorem tyX3_ok : ∀ k, k < 4 → parseFieldDescriptor (TX3 k).2.2.1 = some (tyX3 k) := by decide +kernel
abbrev cX3_init : ByteArray := prog_5_method_1_code
def yX3_init : MethodName := ⟨RX3, "<init>", "()V"⟩
abbrev cX3_append : ByteArray := prog_5_method_2_code
def yX3_append : MethodName := ⟨RX3, "append", "(C)Z"⟩
abbrev cX3_choice : ByteArray := prog_5_method_3_code
def yX3_choice : MethodName := ⟨RX3, "choice", "(I)I"⟩
abbrev cX3_parse : ByteArray := prog_5_method_4_code
def yX3_parse : MethodName := ⟨RX3, "parse", "(LEnclosureReferee$Board;)I"⟩
abbrev cX3_addChoice : ByteArray := prog_5_method_5_code
def yX3_addChoice : MethodName := ⟨RX3, "addChoice", "(I)V"⟩
def RX4 : String := "EnclosureReferee$Position"
def TX4 : u_T := fun k => match k with
  | 0 => ("EnclosureReferee$Position", "sets", "[J", true)
  | 1 => ("EnclosureReferee$Position", "captured0", "I", false)
  | _ => ("EnclosureReferee$Position", "captured1", "I", false)
def tyX4 : Nat → FieldType := fun k => match k with
  | 0 => .array .long
  | 1 => .int
  | _ => .int
abbrev wsX40 : List Cond := u_ws RX4 TX4 3
theorem nmX4 : ∀ a, a < 3 → ∀ b, b < 3 → a ≠ b → (TX4 a).2.1 ≠ (TX4 b).2.1 := by decide +kernel
theorem tyX4_ok : ∀ k, k < 3 → parseFieldDescriptor (TX4 k).2.2.1 = some (tyX4 k) := by decide +kernel
abbrev cX4_init : ByteArray := prog_6_method_1_code
def yX4_init : MethodName := ⟨RX4, "<init>", "()V"⟩
abbrev cX4_clear : ByteArray := prog_6_method_2_code
def yX4_clear : MethodName := ⟨RX4, "clear", "(J)V"⟩
abbrev cX4_copyFrom : ByteArray := prog_6_method_3_code
def yX4_copyFrom : MethodName := ⟨RX4, "copyFrom", "(LEnclosureReferee$Position;)V"⟩
abbrev cX4_in : ByteArray := prog_6_method_4_code
def yX4_in : MethodName := ⟨RX4, "in", "(I)J"⟩
abbrev cX4_number : ByteArray := prog_6_method_5_code
def yX4_number : MethodName := ⟨RX4, "number", "(I)I"⟩
abbrev cX4_stateOf : ByteArray := prog_6_method_6_code
def yX4_stateOf : MethodName := ⟨RX4, "stateOf", "(I)I"⟩
abbrev cX4_admits : ByteArray := prog_6_method_7_code
def yX4_admits : MethodName := ⟨RX4, "admits", "(I)Z"⟩
abbrev cX4_captured : ByteArray := prog_6_method_8_code
def yX4_captured : MethodName := ⟨RX4, "captured", "(I)I"⟩
abbrev cX4_points : ByteArray := prog_6_method_9_code
def yX4_points : MethodName := ⟨RX4, "points", "(I)I"⟩
abbrev cX4_lead : ByteArray := prog_6_method_10_code
def yX4_lead : MethodName := ⟨RX4, "lead", "()I"⟩
abbrev cX4_own : ByteArray := prog_6_method_11_code
def yX4_own : MethodName := ⟨RX4, "own", "(I)J"⟩
abbrev cX4_open : ByteArray := prog_6_method_12_code
def yX4_open : MethodName := ⟨RX4, "open", "(LEnclosureReferee$Board;I)J"⟩
abbrev cX4_regions : ByteArray := prog_6_method_13_code
def yX4_regions : MethodName := ⟨RX4, "regions", "(LEnclosureReferee$Board;I)I"⟩
abbrev cX4_largestRegion : ByteArray := prog_6_method_14_code
def yX4_largestRegion : MethodName := ⟨RX4, "largestRegion", "(LEnclosureReferee$Board;I)I"⟩
abbrev cX4_turn : ByteArray := prog_6_method_15_code
def yX4_turn : MethodName := ⟨RX4, "turn", "(JI)V"⟩
abbrev cX4_give : ByteArray := prog_6_method_16_code
def yX4_give : MethodName := ⟨RX4, "give", "(II)J"⟩
abbrev cX4_capture : ByteArray := prog_6_method_17_code
def yX4_capture : MethodName := ⟨RX4, "capture", "(LEnclosureReferee$Board;)J"⟩
abbrev cX4_inLargerRegion : ByteArray := prog_6_method_18_code
def yX4_inLargerRegion : MethodName := ⟨RX4, "inLargerRegion", "(LEnclosureReferee$Board;JJJ)J"⟩
abbrev cX4_stonesAround : ByteArray := prog_6_method_19_code
def yX4_stonesAround : MethodName := ⟨RX4, "stonesAround", "(LEnclosureReferee$Board;II)I"⟩
abbrev cX4_oneStoneEncloses : ByteArray := prog_6_method_20_code
def yX4_oneStoneEncloses : MethodName := ⟨RX4, "oneStoneEncloses", "(LEnclosureReferee$Board;JJJ)Z"⟩
def RX5 : String := "EnclosureReferee$Refusal"
def TX5 : u_T := fun k => match k with
  | 0 => ("EnclosureReferee$Refusal", "height", "I", false)
  | 1 => ("EnclosureReferee$Refusal", "codes", "[I", true)
  | _ => ("EnclosureReferee$Refusal", "details", "[I", true)
def tyX5 : Nat → FieldType := fun k => match k with
  | 0 => .int
  | 1 => .array .int
  | _ => .array .int
abbrev wsX50 : List Cond := u_ws RX5 TX5 3
theorem nmX5 : ∀ a, a < 3 → ∀ b, b < 3 → a ≠ b → (TX5 a).2.1 ≠ (TX5 b).2.1 := by decide +kernel
theorem tyX5_ok : ∀ k, k < 3 → parseFieldDescriptor (TX5 k).2.2.1 = some (tyX5 k) := by decide +kernel
abbrev cX5_init : ByteArray := prog_7_method_1_code
def yX5_init : MethodName := ⟨RX5, "<init>", "()V"⟩
abbrev cX5_tell : ByteArray := prog_7_method_2_code
def yX5_tell : MethodName := ⟨RX5, "tell", "(LEnclosureReferee$Game;II)V"⟩
abbrev cX5_add : ByteArray := prog_7_method_3_code
def yX5_add : MethodName := ⟨RX5, "add", "(II)V"⟩
def RX6 : String := "EnclosureReferee$Round"
def TX6 : u_T := fun k => match k with
  | 0 => ("EnclosureReferee$Round", "first", "I", false)
  | 1 => ("EnclosureReferee$Round", "second", "I", false)
  | 2 => ("EnclosureReferee$Round", "score0", "I", false)
  | 3 => ("EnclosureReferee$Round", "score1", "I", false)
  | 4 => ("EnclosureReferee$Round", "after", "LEnclosureReferee$Position;", true)
  | 5 => ("EnclosureReferee$Round", "placed", "J", false)
  | _ => ("EnclosureReferee$Round", "waves", "[J", true)
def tyX6 : Nat → FieldType := fun k => match k with
  | 0 => .int
  | 1 => .int
  | 2 => .int
  | 3 => .int
  | 4 => .object "EnclosureReferee$Position"
  | 5 => .long
  | _ => .array .long
abbrev wsX60 : List Cond := u_ws RX6 TX6 7
theorem nmX6 : ∀ a, a < 7 → ∀ b, b < 7 → a ≠ b → (TX6 a).2.1 ≠ (TX6 b).2.1 := by decide +kernel
theorem tyX6_ok : ∀ k, k < 7 → parseFieldDescriptor (TX6 k).2.2.1 = some (tyX6 k) := by decide +kernel
abbrev cX6_init : ByteArray := prog_8_method_1_code
def yX6_init : MethodName := ⟨RX6, "<init>", "()V"⟩
abbrev cX6_copyFrom : ByteArray := prog_8_method_2_code
def yX6_copyFrom : MethodName := ⟨RX6, "copyFrom", "(LEnclosureReferee$Round;)V"⟩
abbrev cX6_make : ByteArray := prog_8_method_3_code
def yX6_make : MethodName := ⟨RX6, "make", "(LEnclosureReferee$Board;LEnclosureReferee$Position;III)V"⟩
abbrev cX6_choice : ByteArray := prog_8_method_4_code
def yX6_choice : MethodName := ⟨RX6, "choice", "(I)I"⟩
abbrev cX6_isClash : ByteArray := prog_8_method_5_code
def yX6_isClash : MethodName := ⟨RX6, "isClash", "()Z"⟩
abbrev cX6_ends : ByteArray := prog_8_method_6_code
def yX6_ends : MethodName := ⟨RX6, "ends", "(I)Z"⟩
abbrev cX6_waves : ByteArray := prog_8_method_7_code
def yX6_waves : MethodName := ⟨RX6, "waves", "()I"⟩
abbrev cX6_changedByWaves : ByteArray := prog_8_method_8_code
def yX6_changedByWaves : MethodName := ⟨RX6, "changedByWaves", "()I"⟩
abbrev cX6_changedByWave : ByteArray := prog_8_method_9_code
def yX6_changedByWave : MethodName := ⟨RX6, "changedByWave", "(I)I"⟩
abbrev cX6_waveThatChanged : ByteArray := prog_8_method_10_code
def yX6_waveThatChanged : MethodName := ⟨RX6, "waveThatChanged", "(I)I"⟩
abbrev cX6_changed : ByteArray := prog_8_method_11_code
def yX6_changed : MethodName := ⟨RX6, "changed", "(I)Z"⟩
abbrev cX6_signs : ByteArray := prog_8_method_12_code
def yX6_signs : MethodName := ⟨RX6, "signs", "()I"⟩
abbrev cX6_sign : ByteArray := prog_8_method_13_code
def yX6_sign : MethodName := ⟨RX6, "sign", "(LEnclosureReferee$Board;I)C"⟩
abbrev cX6_signsOf : ByteArray := prog_8_method_14_code
def yX6_signsOf : MethodName := ⟨RX6, "signsOf", "(I)I"⟩
abbrev cX6_signOf : ByteArray := prog_8_method_15_code
def yX6_signOf : MethodName := ⟨RX6, "signOf", "(LEnclosureReferee$Board;II)C"⟩
def RX7 : String := "EnclosureReferee"
def TX7 : u_T := fun k => match k with
  | 0 => ("EnclosureReferee", "game", "LEnclosureReferee$Game;", true)
  | 1 => ("EnclosureReferee", "kept", "LEnclosureReferee$Game;", true)
  | 2 => ("EnclosureReferee", "hasKept", "Z", false)
  | 3 => ("EnclosureReferee", "refusal", "LEnclosureReferee$Refusal;", true)
  | 4 => ("EnclosureReferee", "input", "LEnclosureReferee$Input;", true)
  | _ => ("EnclosureReferee", "foresight", "LEnclosureReferee$Foresight;", true)
def tyX7 : Nat → FieldType := fun k => match k with
  | 0 => .object "EnclosureReferee$Game"
  | 1 => .object "EnclosureReferee$Game"
  | 2 => .boolean
  | 3 => .object "EnclosureReferee$Refusal"
  | 4 => .object "EnclosureReferee$Input"
  | _ => .object "EnclosureReferee$Foresight"
abbrev wsX70 : List Cond := u_ws RX7 TX7 6
theorem nmX7 : ∀ a, a < 6 → ∀ b, b < 6 → a ≠ b → (TX7 a).2.1 ≠ (TX7 b).2.1 := by decide +kernel
theorem tyX7_ok : ∀ k, k < 6 → parseFieldDescriptor (TX7 k).2.2.1 = some (tyX7 k) := by decide +kernel
abbrev cX7_init : ByteArray := prog_1_method_1_code
def yX7_init : MethodName := ⟨RX7, "<init>", "()V"⟩
abbrev cX7_start : ByteArray := prog_1_method_2_code
def yX7_start : MethodName := ⟨RX7, "start", "(III)I"⟩
abbrev cX7_setRule : ByteArray := prog_1_method_3_code
def yX7_setRule : MethodName := ⟨RX7, "setRule", "(I)I"⟩
abbrev cX7_setBonus : ByteArray := prog_1_method_4_code
def yX7_setBonus : MethodName := ⟨RX7, "setBonus", "(II)I"⟩
abbrev cX7_play : ByteArray := prog_1_method_5_code
def yX7_play : MethodName := ⟨RX7, "play", "(II)I"⟩
abbrev cX7_undo : ByteArray := prog_1_method_6_code
def yX7_undo : MethodName := ⟨RX7, "undo", "()I"⟩
abbrev cX7_isOver : ByteArray := prog_1_method_7_code
def yX7_isOver : MethodName := ⟨RX7, "isOver", "()Z"⟩
abbrev cX7_cell : ByteArray := prog_1_method_8_code
def yX7_cell : MethodName := ⟨RX7, "cell", "(II)I"⟩
abbrev cX7_since : ByteArray := prog_1_method_9_code
def yX7_since : MethodName := ⟨RX7, "since", "(II)I"⟩
abbrev cX7_count : ByteArray := prog_1_method_10_code
def yX7_count : MethodName := ⟨RX7, "count", "(I)I"⟩
abbrev cX7_player : ByteArray := prog_1_method_11_code
def yX7_player : MethodName := ⟨RX7, "player", "(II)I"⟩
abbrev cX7_region : ByteArray := prog_1_method_12_code
def yX7_region : MethodName := ⟨RX7, "region", "(II)J"⟩
abbrev cX7_cells : ByteArray := prog_1_method_13_code
def yX7_cells : MethodName := ⟨RX7, "cells", "(I)J"⟩
abbrev cX7_chain : ByteArray := prog_1_method_14_code
def yX7_chain : MethodName := ⟨RX7, "chain", "(I)J"⟩
abbrev cX7_stonesToEnclose : ByteArray := prog_1_method_15_code
def yX7_stonesToEnclose : MethodName := ⟨RX7, "stonesToEnclose", "(II)I"⟩
abbrev cX7_share : ByteArray := prog_1_method_16_code
def yX7_share : MethodName := ⟨RX7, "share", "(I)D"⟩
abbrev cX7_round : ByteArray := prog_1_method_17_code
def yX7_round : MethodName := ⟨RX7, "round", "(II)I"⟩
abbrev cX7_turningPoint : ByteArray := prog_1_method_18_code
def yX7_turningPoint : MethodName := ⟨RX7, "turningPoint", "()I"⟩
abbrev cX7_guarantee : ByteArray := prog_1_method_19_code
def yX7_guarantee : MethodName := ⟨RX7, "guarantee", "(III)I"⟩
abbrev cX7_best : ByteArray := prog_1_method_20_code
def yX7_best : MethodName := ⟨RX7, "best", "(II)I"⟩
abbrev cX7_levels : ByteArray := prog_1_method_21_code
def yX7_levels : MethodName := ⟨RX7, "levels", "()I"⟩
abbrev cX7_report : ByteArray := prog_1_method_22_code
def yX7_report : MethodName := ⟨RX7, "report", "(II)I"⟩
abbrev cX7_feed : ByteArray := prog_1_method_23_code
def yX7_feed : MethodName := ⟨RX7, "feed", "(C)I"⟩
abbrev cX7_readRecord : ByteArray := prog_1_method_24_code
def yX7_readRecord : MethodName := ⟨RX7, "readRecord", "()I"⟩
abbrev cX7_written : ByteArray := prog_1_method_25_code
def yX7_written : MethodName := ⟨RX7, "written", "(I)C"⟩
abbrev cX7_save : ByteArray := prog_1_method_26_code
def yX7_save : MethodName := ⟨RX7, "save", "()I"⟩
abbrev cX7_restore : ByteArray := prog_1_method_27_code
def yX7_restore : MethodName := ⟨RX7, "restore", "()I"⟩
abbrev cX7_isPlayer : ByteArray := prog_1_method_28_code
def yX7_isPlayer : MethodName := ⟨RX7, "isPlayer", "(I)Z"⟩
abbrev cX7_isDepth : ByteArray := prog_1_method_29_code
def yX7_isDepth : MethodName := ⟨RX7, "isDepth", "(I)Z"⟩
abbrev cX7_isChoice : ByteArray := prog_1_method_30_code
def yX7_isChoice : MethodName := ⟨RX7, "isChoice", "(I)Z"⟩
abbrev cX7_canLookAhead : ByteArray := prog_1_method_31_code
def yX7_canLookAhead : MethodName := ⟨RX7, "canLookAhead", "(I)Z"⟩
abbrev cX7_admits : ByteArray := prog_1_method_32_code
def yX7_admits : MethodName := ⟨RX7, "admits", "(II)Z"⟩
def RX8 : String := "EnclosureRefereeModel"
def TX8 : u_T := fun k => match k with
  | 0 => ("EnclosureRefereeModel", "thrown", "I", false)
  | 1 => ("EnclosureRefereeModel", "wide", "I", false)
  | 2 => ("EnclosureRefereeModel", "high", "I", false)
  | 3 => ("EnclosureRefereeModel", "rule", "I", false)
  | 4 => ("EnclosureRefereeModel", "bonus", "[I", true)
  | 5 => ("EnclosureRefereeModel", "v", "[I", true)
  | 6 => ("EnclosureRefereeModel", "first", "[I", true)
  | 7 => ("EnclosureRefereeModel", "second", "[I", true)
  | 8 => ("EnclosureRefereeModel", "past", "[I", true)
  | 9 => ("EnclosureRefereeModel", "info", "[I", true)
  | 10 => ("EnclosureRefereeModel", "waveCells", "[I", true)
  | 11 => ("EnclosureRefereeModel", "savedRow", "[I", true)
  | 12 => ("EnclosureRefereeModel", "savedPast", "[I", true)
  | 13 => ("EnclosureRefereeModel", "savedInfo", "[I", true)
  | 14 => ("EnclosureRefereeModel", "savedWaves", "[I", true)
  | 15 => ("EnclosureRefereeModel", "savedBonus", "[I", true)
  | 16 => ("EnclosureRefereeModel", "savedWide", "I", false)
  | 17 => ("EnclosureRefereeModel", "savedHigh", "I", false)
  | 18 => ("EnclosureRefereeModel", "savedRule", "I", false)
  | 19 => ("EnclosureRefereeModel", "isSaved", "Z", false)
  | 20 => ("EnclosureRefereeModel", "enclosed", "[I", true)
  | 21 => ("EnclosureRefereeModel", "changedBy", "[I", true)
  | 22 => ("EnclosureRefereeModel", "clashed", "I", false)
  | 23 => ("EnclosureRefereeModel", "waved", "I", false)
  | 24 => ("EnclosureRefereeModel", "changed", "I", false)
  | 25 => ("EnclosureRefereeModel", "code", "[I", true)
  | 26 => ("EnclosureRefereeModel", "detail", "[I", true)
  | 27 => ("EnclosureRefereeModel", "levelN", "I", false)
  | 28 => ("EnclosureRefereeModel", "text", "[C", true)
  | 29 => ("EnclosureRefereeModel", "textN", "I", false)
  | 30 => ("EnclosureRefereeModel", "at", "I", false)
  | 31 => ("EnclosureRefereeModel", "read", "I", false)
  | _ => ("EnclosureRefereeModel", "readToo", "I", false)
def tyX8 : Nat → FieldType := fun k => match k with
  | 0 => .int
  | 1 => .int
  | 2 => .int
  | 3 => .int
  | 4 => .array .int
  | 5 => .array .int
  | 6 => .array .int
  | 7 => .array .int
  | 8 => .array .int
  | 9 => .array .int
  | 10 => .array .int
  | 11 => .array .int
  | 12 => .array .int
  | 13 => .array .int
  | 14 => .array .int
  | 15 => .array .int
  | 16 => .int
  | 17 => .int
  | 18 => .int
  | 19 => .boolean
  | 20 => .array .int
  | 21 => .array .int
  | 22 => .int
  | 23 => .int
  | 24 => .int
  | 25 => .array .int
  | 26 => .array .int
  | 27 => .int
  | 28 => .array .char
  | 29 => .int
  | 30 => .int
  | 31 => .int
  | _ => .int
abbrev wsX80 : List Cond := u_ws RX8 TX8 33
theorem nmX8 : ∀ a, a < 33 → ∀ b, b < 33 → a ≠ b → (TX8 a).2.1 ≠ (TX8 b).2.1 := by decide +kernel
theorem tyX8_ok : ∀ k, k < 33 → parseFieldDescriptor (TX8 k).2.2.1 = some (tyX8 k) := by decide +kernel
abbrev cX8_init : ByteArray := prog_10_method_1_code
def yX8_init : MethodName := ⟨RX8, "<init>", "()V"⟩
abbrev cX8_thrown : ByteArray := prog_10_method_2_code
def yX8_thrown : MethodName := ⟨RX8, "thrown", "()I"⟩
abbrev cX8_no : ByteArray := prog_10_method_3_code
def yX8_no : MethodName := ⟨RX8, "no", "(I)I"⟩
abbrev cX8_isIn : ByteArray := prog_10_method_4_code
def yX8_isIn : MethodName := ⟨RX8, "isIn", "(III)Z"⟩
abbrev cX8_copies : ByteArray := prog_10_method_5_code
def yX8_copies : MethodName := ⟨RX8, "copies", "([I[II)V"⟩
abbrev cX8_cells : ByteArray := prog_10_method_6_code
def yX8_cells : MethodName := ⟨RX8, "cells", "()I"⟩
abbrev cX8_isCell : ByteArray := prog_10_method_7_code
def yX8_isCell : MethodName := ⟨RX8, "isCell", "(I)Z"⟩
abbrev cX8_begins : ByteArray := prog_10_method_8_code
def yX8_begins : MethodName := ⟨RX8, "begins", "(I)V"⟩
abbrev cX8_many : ByteArray := prog_10_method_9_code
def yX8_many : MethodName := ⟨RX8, "many", "(I)I"⟩
abbrev cX8_start : ByteArray := prog_10_method_10_code
def yX8_start : MethodName := ⟨RX8, "start", "(III)I"⟩
abbrev cX8_setRule : ByteArray := prog_10_method_11_code
def yX8_setRule : MethodName := ⟨RX8, "setRule", "(I)I"⟩
abbrev cX8_setBonus : ByteArray := prog_10_method_12_code
def yX8_setBonus : MethodName := ⟨RX8, "setBonus", "(II)I"⟩
abbrev cX8_bits : ByteArray := prog_10_method_13_code
def yX8_bits : MethodName := ⟨RX8, "bits", "(I)J"⟩
abbrev cX8_all : ByteArray := prog_10_method_14_code
def yX8_all : MethodName := ⟨RX8, "all", "()J"⟩
abbrev cX8_column : ByteArray := prog_10_method_15_code
def yX8_column : MethodName := ⟨RX8, "column", "(I)J"⟩
abbrev cX8_edge : ByteArray := prog_10_method_16_code
def yX8_edge : MethodName := ⟨RX8, "edge", "()J"⟩
abbrev cX8_grown : ByteArray := prog_10_method_17_code
def yX8_grown : MethodName := ⟨RX8, "grown", "(J)J"⟩
abbrev cX8_connected : ByteArray := prog_10_method_18_code
def yX8_connected : MethodName := ⟨RX8, "connected", "(JI)J"⟩
abbrev cX8_size : ByteArray := prog_10_method_19_code
def yX8_size : MethodName := ⟨RX8, "size", "(J)I"⟩
abbrev cX8_lowest : ByteArray := prog_10_method_20_code
def yX8_lowest : MethodName := ⟨RX8, "lowest", "(J)I"⟩
abbrev cX8_outside : ByteArray := prog_10_method_21_code
def yX8_outside : MethodName := ⟨RX8, "outside", "(I)J"⟩
abbrev cX8_score : ByteArray := prog_10_method_22_code
def yX8_score : MethodName := ⟨RX8, "score", "(I)I"⟩
abbrev cX8_emptyCells : ByteArray := prog_10_method_23_code
def yX8_emptyCells : MethodName := ⟨RX8, "emptyCells", "()I"⟩
abbrev cX8_over : ByteArray := prog_10_method_24_code
def yX8_over : MethodName := ⟨RX8, "over", "()Z"⟩
abbrev cX8_becomes : ByteArray := prog_10_method_25_code
def yX8_becomes : MethodName := ⟨RX8, "becomes", "(III)V"⟩
abbrev cX8_encloses : ByteArray := prog_10_method_26_code
def yX8_encloses : MethodName := ⟨RX8, "encloses", "(I)V"⟩
abbrev cX8_wave : ByteArray := prog_10_method_27_code
def yX8_wave : MethodName := ⟨RX8, "wave", "(I)I"⟩
abbrev cX8_plays : ByteArray := prog_10_method_28_code
def yX8_plays : MethodName := ⟨RX8, "plays", "(II)V"⟩
abbrev cX8_mayChoose : ByteArray := prog_10_method_29_code
def yX8_mayChoose : MethodName := ⟨RX8, "mayChoose", "(I)Z"⟩
abbrev cX8_isChoice : ByteArray := prog_10_method_30_code
def yX8_isChoice : MethodName := ⟨RX8, "isChoice", "(I)Z"⟩
abbrev cX8_reports : ByteArray := prog_10_method_31_code
def yX8_reports : MethodName := ⟨RX8, "reports", "(II)V"⟩
abbrev cX8_goes : ByteArray := prog_10_method_32_code
def yX8_goes : MethodName := ⟨RX8, "goes", "(II)Z"⟩
abbrev cX8_play : ByteArray := prog_10_method_33_code
def yX8_play : MethodName := ⟨RX8, "play", "(II)I"⟩
abbrev cX8_undo : ByteArray := prog_10_method_34_code
def yX8_undo : MethodName := ⟨RX8, "undo", "()I"⟩
abbrev cX8_isOver : ByteArray := prog_10_method_35_code
def yX8_isOver : MethodName := ⟨RX8, "isOver", "()Z"⟩
abbrev cX8_cell : ByteArray := prog_10_method_36_code
def yX8_cell : MethodName := ⟨RX8, "cell", "(II)I"⟩
abbrev cX8_since : ByteArray := prog_10_method_37_code
def yX8_since : MethodName := ⟨RX8, "since", "(II)I"⟩
abbrev cX8_count : ByteArray := prog_10_method_38_code
def yX8_count : MethodName := ⟨RX8, "count", "(I)I"⟩
abbrev cX8_regions : ByteArray := prog_10_method_39_code
def yX8_regions : MethodName := ⟨RX8, "regions", "(IZ)I"⟩
abbrev cX8_player : ByteArray := prog_10_method_40_code
def yX8_player : MethodName := ⟨RX8, "player", "(II)I"⟩
abbrev cX8_isOutside : ByteArray := prog_10_method_41_code
def yX8_isOutside : MethodName := ⟨RX8, "isOutside", "(II)Z"⟩
abbrev cX8_region : ByteArray := prog_10_method_42_code
def yX8_region : MethodName := ⟨RX8, "region", "(II)J"⟩
abbrev cX8_cells_ : ByteArray := prog_10_method_43_code
def yX8_cells_ : MethodName := ⟨RX8, "cells", "(I)J"⟩
abbrev cX8_chain : ByteArray := prog_10_method_44_code
def yX8_chain : MethodName := ⟨RX8, "chain", "(I)J"⟩
abbrev cX8_isEnclosed : ByteArray := prog_10_method_45_code
def yX8_isEnclosed : MethodName := ⟨RX8, "isEnclosed", "(JI)Z"⟩
abbrev cX8_stonesToEnclose : ByteArray := prog_10_method_46_code
def yX8_stonesToEnclose : MethodName := ⟨RX8, "stonesToEnclose", "(II)I"⟩
abbrev cX8_share : ByteArray := prog_10_method_47_code
def yX8_share : MethodName := ⟨RX8, "share", "(I)D"⟩
abbrev cX8_round : ByteArray := prog_10_method_48_code
def yX8_round : MethodName := ⟨RX8, "round", "(II)I"⟩
abbrev cX8_turningPoint : ByteArray := prog_10_method_49_code
def yX8_turningPoint : MethodName := ⟨RX8, "turningPoint", "()I"⟩
abbrev cX8_outcome : ByteArray := prog_10_method_50_code
def yX8_outcome : MethodName := ⟨RX8, "outcome", "(I)I"⟩
abbrev cX8_makes : ByteArray := prog_10_method_51_code
def yX8_makes : MethodName := ⟨RX8, "makes", "(III)V"⟩
abbrev cX8_near : ByteArray := prog_10_method_52_code
def yX8_near : MethodName := ⟨RX8, "near", "(II)I"⟩
abbrev cX8_bestNear : ByteArray := prog_10_method_53_code
def yX8_bestNear : MethodName := ⟨RX8, "bestNear", "(I)I"⟩
abbrev cX8_far : ByteArray := prog_10_method_54_code
def yX8_far : MethodName := ⟨RX8, "far", "(II)I"⟩
abbrev cX8_guaranteed : ByteArray := prog_10_method_55_code
def yX8_guaranteed : MethodName := ⟨RX8, "guaranteed", "(III)I"⟩
abbrev cX8_guarantee : ByteArray := prog_10_method_56_code
def yX8_guarantee : MethodName := ⟨RX8, "guarantee", "(III)I"⟩
abbrev cX8_best : ByteArray := prog_10_method_57_code
def yX8_best : MethodName := ⟨RX8, "best", "(II)I"⟩
abbrev cX8_levels : ByteArray := prog_10_method_58_code
def yX8_levels : MethodName := ⟨RX8, "levels", "()I"⟩
abbrev cX8_report : ByteArray := prog_10_method_59_code
def yX8_report : MethodName := ⟨RX8, "report", "(II)I"⟩
abbrev cX8_feed : ByteArray := prog_10_method_60_code
def yX8_feed : MethodName := ⟨RX8, "feed", "(C)I"⟩
abbrev cX8_isHere : ByteArray := prog_10_method_61_code
def yX8_isHere : MethodName := ⟨RX8, "isHere", "(CC)Z"⟩
abbrev cX8_choice : ByteArray := prog_10_method_62_code
def yX8_choice : MethodName := ⟨RX8, "choice", "()I"⟩
abbrev cX8_isRound : ByteArray := prog_10_method_63_code
def yX8_isRound : MethodName := ⟨RX8, "isRound", "()Z"⟩
abbrev cX8_readRecord : ByteArray := prog_10_method_64_code
def yX8_readRecord : MethodName := ⟨RX8, "readRecord", "()I"⟩
abbrev cX8_lengthOf : ByteArray := prog_10_method_65_code
def yX8_lengthOf : MethodName := ⟨RX8, "lengthOf", "(I)I"⟩
abbrev cX8_signOf : ByteArray := prog_10_method_66_code
def yX8_signOf : MethodName := ⟨RX8, "signOf", "(II)C"⟩
abbrev cX8_written : ByteArray := prog_10_method_67_code
def yX8_written : MethodName := ⟨RX8, "written", "(I)C"⟩
abbrev cX8_save : ByteArray := prog_10_method_68_code
def yX8_save : MethodName := ⟨RX8, "save", "()I"⟩
abbrev cX8_restore : ByteArray := prog_10_method_69_code
def yX8_restore : MethodName := ⟨RX8, "restore", "()I"⟩
def RJx145de : String := "java/io/Serializable"
def TJx145de : u_T := fun k => match k with
  | _ => ("", "", "", false)
def tyJx145de : Nat → FieldType := fun k => match k with
  | _ => .int
abbrev wsJx145de0 : List Cond := u_ws RJx145de TJx145de 0
theorem nmJx145de : ∀ a, a < 0 → ∀ b, b < 0 → a ≠ b → (TJx145de a).2.1 ≠ (TJx145de b).2.1 := by decide +kernel
theorem tyJx145de_ok : ∀ k, k < 0 → parseFieldDescriptor (TJx145de k).2.2.1 = some (tyJx145de k) := by decide +kernel
def RJ13 : String := "java/lang/Long"
def TJ13 : u_T := fun k => match k with
  | _ => ("", "", "", false)
def tyJ13 : Nat → FieldType := fun k => match k with
  | _ => .int
abbrev wsJ130 : List Cond := u_ws RJ13 TJ13 0
theorem nmJ13 : ∀ a, a < 0 → ∀ b, b < 0 → a ≠ b → (TJ13 a).2.1 ≠ (TJ13 b).2.1 := by decide +kernel
theorem tyJ13_ok : ∀ k, k < 0 → parseFieldDescriptor (TJ13 k).2.2.1 = some (tyJ13 k) := by decide +kernel
abbrev cJ13_bitCount_95d88 : ByteArray := prog_16_method_50_code
def yJ13_bitCount_95d88 : MethodName := ⟨RJ13, "bitCount", "(J)I"⟩
def RJ9 : String := "java/lang/Math"
def TJ9 : u_T := fun k => match k with
  | _ => ("", "", "", false)
def tyJ9 : Nat → FieldType := fun k => match k with
  | _ => .int
abbrev wsJ90 : List Cond := u_ws RJ9 TJ9 0
theorem nmJ9 : ∀ a, a < 0 → ∀ b, b < 0 → a ≠ b → (TJ9 a).2.1 ≠ (TJ9 b).2.1 := by decide +kernel
theorem tyJ9_ok : ∀ k, k < 0 → parseFieldDescriptor (TJ9 k).2.2.1 = some (tyJ9 k) := by decide +kernel
abbrev cJ9_abs_0f7a4 : ByteArray := prog_17_method_59_code
def yJ9_abs_0f7a4 : MethodName := ⟨RJ9, "abs", "(I)I"⟩
abbrev cJ9_max_7cf53 : ByteArray := prog_17_method_65_code
def yJ9_max_7cf53 : MethodName := ⟨RJ9, "max", "(II)I"⟩
abbrev cJ9_min_7cf53 : ByteArray := prog_17_method_69_code
def yJ9_min_7cf53 : MethodName := ⟨RJ9, "min", "(II)I"⟩
def RJ0 : String := "java/lang/String"
def TJ0 : u_T := fun k => match k with
  | _ => ("", "", "", false)
def tyJ0 : Nat → FieldType := fun k => match k with
  | _ => .int
abbrev wsJ00 : List Cond := u_ws RJ0 TJ0 0
theorem nmJ0 : ∀ a, a < 0 → ∀ b, b < 0 → a ≠ b → (TJ0 a).2.1 ≠ (TJ0 b).2.1 := by decide +kernel
theorem tyJ0_ok : ∀ k, k < 0 → parseFieldDescriptor (TJ0 k).2.2.1 = some (tyJ0 k) := by decide +kernel
def RJ10 : String := "java/lang/System"
def TJ10 : u_T := fun k => match k with
  | _ => ("", "", "", false)
def tyJ10 : Nat → FieldType := fun k => match k with
  | _ => .int
abbrev wsJ100 : List Cond := u_ws RJ10 TJ10 0
theorem nmJ10 : ∀ a, a < 0 → ∀ b, b < 0 → a ≠ b → (TJ10 a).2.1 ≠ (TJ10 b).2.1 := by decide +kernel
theorem tyJ10_ok : ∀ k, k < 0 → parseFieldDescriptor (TJ10 k).2.2.1 = some (tyJ10 k) := by decide +kernel
def RL : String := "EnclosureRefereeLaw"
abbrev cL_start : ByteArray := method_3_code
def yL_start : MethodName := ⟨RL, "start", "(LEnclosureReferee;III[J)I"⟩
abbrev cL_setRule : ByteArray := method_4_code
def yL_setRule : MethodName := ⟨RL, "setRule", "(LEnclosureReferee;I[J)I"⟩
abbrev cL_setBonus : ByteArray := method_5_code
def yL_setBonus : MethodName := ⟨RL, "setBonus", "(LEnclosureReferee;II[J)I"⟩
abbrev cL_play : ByteArray := method_6_code
def yL_play : MethodName := ⟨RL, "play", "(LEnclosureReferee;II[J)I"⟩
abbrev cL_undo : ByteArray := method_7_code
def yL_undo : MethodName := ⟨RL, "undo", "(LEnclosureReferee;[J)I"⟩
abbrev cL_cell : ByteArray := method_8_code
def yL_cell : MethodName := ⟨RL, "cell", "(LEnclosureReferee;II[J)I"⟩
abbrev cL_since : ByteArray := method_9_code
def yL_since : MethodName := ⟨RL, "since", "(LEnclosureReferee;II[J)I"⟩
abbrev cL_count : ByteArray := method_10_code
def yL_count : MethodName := ⟨RL, "count", "(LEnclosureReferee;I[J)I"⟩
abbrev cL_player : ByteArray := method_11_code
def yL_player : MethodName := ⟨RL, "player", "(LEnclosureReferee;II[J)I"⟩
abbrev cL_region : ByteArray := method_12_code
def yL_region : MethodName := ⟨RL, "region", "(LEnclosureReferee;II[J)I"⟩
abbrev cL_cells : ByteArray := method_13_code
def yL_cells : MethodName := ⟨RL, "cells", "(LEnclosureReferee;I[J)I"⟩
abbrev cL_chain : ByteArray := method_14_code
def yL_chain : MethodName := ⟨RL, "chain", "(LEnclosureReferee;I[J)I"⟩
abbrev cL_stonesToEnclose : ByteArray := method_15_code
def yL_stonesToEnclose : MethodName := ⟨RL, "stonesToEnclose", "(LEnclosureReferee;II[J)I"⟩
abbrev cL_share : ByteArray := method_16_code
def yL_share : MethodName := ⟨RL, "share", "(LEnclosureReferee;I[D)I"⟩
abbrev cL_round : ByteArray := method_17_code
def yL_round : MethodName := ⟨RL, "round", "(LEnclosureReferee;II[J)I"⟩
abbrev cL_turningPoint : ByteArray := method_18_code
def yL_turningPoint : MethodName := ⟨RL, "turningPoint", "(LEnclosureReferee;[J)I"⟩
abbrev cL_guarantee : ByteArray := method_19_code
def yL_guarantee : MethodName := ⟨RL, "guarantee", "(LEnclosureReferee;III[J)I"⟩
abbrev cL_best : ByteArray := method_20_code
def yL_best : MethodName := ⟨RL, "best", "(LEnclosureReferee;II[J)I"⟩
abbrev cL_report : ByteArray := method_21_code
def yL_report : MethodName := ⟨RL, "report", "(LEnclosureReferee;II[J)I"⟩
abbrev cL_feed : ByteArray := method_22_code
def yL_feed : MethodName := ⟨RL, "feed", "(LEnclosureReferee;C[J)I"⟩
abbrev cL_readRecord : ByteArray := method_23_code
def yL_readRecord : MethodName := ⟨RL, "readRecord", "(LEnclosureReferee;[J)I"⟩
abbrev cL_written : ByteArray := method_24_code
def yL_written : MethodName := ⟨RL, "written", "(LEnclosureReferee;I[J)I"⟩
abbrev cL_restore : ByteArray := method_25_code
def yL_restore : MethodName := ⟨RL, "restore", "(LEnclosureReferee;[J)I"⟩
abbrev cL_law : ByteArray := code
def yL_law : MethodName := ⟨RL, "law", "([I)Z"⟩
abbrev vwCl : List vw_C := [(RX0, TX0, 7), (RX1, TX1, 2), (RX2, TX2, 7), (RX3, TX3, 4), (RX4, TX4, 3), (RX5, TX5, 3), (RX6, TX6, 7), (RX7, TX7, 6), (RX8, TX8, 33)]
end
section
theorem dX0_init_0 : decode cX0_init 0 = .ok (.aload_n 0, 1) := by decide +kernel
theorem dX0_init_1 : decode cX0_init 1 = .ok (.invokespecial 1, 3) := by decide +kernel
theorem dX0_init_4 : decode cX0_init 4 = .ok (.aload_n 0, 1) := by decide +kernel
theorem dX0_init_5 : decode cX0_init 5 = .ok (.iload_n 1, 1) := by decide +kernel
theorem dX0_init_6 : decode cX0_init 6 = .ok (.putfield 7, 3) := by decide +kernel
theorem dX0_init_9 : decode cX0_init 9 = .ok (.aload_n 0, 1) := by decide +kernel
theorem dX0_init_10 : decode cX0_init 10 = .ok (.iload_n 2, 1) := by decide +kernel
theorem dX0_init_11 : decode cX0_init 11 = .ok (.putfield 13, 3) := by decide +kernel
theorem dX0_init_14 : decode cX0_init 14 = .ok (.aload_n 0, 1) := by decide +kernel
theorem dX0_init_15 : decode cX0_init 15 = .ok (.iload_n 1, 1) := by decide +kernel
theorem dX0_init_16 : decode cX0_init 16 = .ok (.iload_n 2, 1) := by decide +kernel
theorem dX0_init_17 : decode cX0_init 17 = .ok (.imul, 1) := by decide +kernel
theorem dX0_init_18 : decode cX0_init 18 = .ok (.putfield 16, 3) := by decide +kernel
theorem dX0_init_21 : decode cX0_init 21 = .ok (.aload_n 0, 1) := by decide +kernel
theorem dX0_init_22 : decode cX0_init 22 = .ok (.lconst 1, 1) := by decide +kernel
theorem dX0_init_23 : decode cX0_init 23 = .ok (.aload_n 0, 1) := by decide +kernel
theorem dX0_init_24 : decode cX0_init 24 = .ok (.getfield 16, 3) := by decide +kernel
theorem dX0_init_27 : decode cX0_init 27 = .ok (.lshl, 1) := by decide +kernel
theorem dX0_init_28 : decode cX0_init 28 = .ok (.lconst 1, 1) := by decide +kernel
theorem dX0_init_29 : decode cX0_init 29 = .ok (.lsub, 1) := by decide +kernel
theorem dX0_init_30 : decode cX0_init 30 = .ok (.putfield 19, 3) := by decide +kernel
theorem dX0_init_33 : decode cX0_init 33 = .ok (.lconst 0, 1) := by decide +kernel
theorem dX0_init_34 : decode cX0_init 34 = .ok (.lstore_n 3, 1) := by decide +kernel
theorem dX0_init_35 : decode cX0_init 35 = .ok (.iconst 0, 1) := by decide +kernel
theorem dX0_init_36 : decode cX0_init 36 = .ok (.istore 5, 2) := by decide +kernel
theorem dX0_init_38 : decode cX0_init 38 = .ok (.iload 5, 2) := by decide +kernel
theorem dX0_init_40 : decode cX0_init 40 = .ok (.iload_n 2, 1) := by decide +kernel
theorem dX0_init_41 : decode cX0_init 41 = .ok (.if_icmp .ge 18, 3) := by decide +kernel
theorem dX0_init_44 : decode cX0_init 44 = .ok (.lload_n 3, 1) := by decide +kernel
theorem dX0_init_45 : decode cX0_init 45 = .ok (.lconst 1, 1) := by decide +kernel
theorem dX0_init_46 : decode cX0_init 46 = .ok (.iload 5, 2) := by decide +kernel
theorem dX0_init_48 : decode cX0_init 48 = .ok (.iload_n 1, 1) := by decide +kernel
theorem dX0_init_49 : decode cX0_init 49 = .ok (.imul, 1) := by decide +kernel
theorem dX0_init_50 : decode cX0_init 50 = .ok (.lshl, 1) := by decide +kernel
theorem dX0_init_51 : decode cX0_init 51 = .ok (.lor, 1) := by decide +kernel
theorem dX0_init_52 : decode cX0_init 52 = .ok (.lstore_n 3, 1) := by decide +kernel
theorem dX0_init_53 : decode cX0_init 53 = .ok (.iinc 5 1, 3) := by decide +kernel
theorem dX0_init_56 : decode cX0_init 56 = .ok (.goto (-18), 3) := by decide +kernel
theorem dX0_init_59 : decode cX0_init 59 = .ok (.aload_n 0, 1) := by decide +kernel
theorem dX0_init_60 : decode cX0_init 60 = .ok (.lload_n 3, 1) := by decide +kernel
theorem dX0_init_61 : decode cX0_init 61 = .ok (.putfield 23, 3) := by decide +kernel
theorem dX0_init_64 : decode cX0_init 64 = .ok (.aload_n 0, 1) := by decide +kernel
theorem dX0_init_65 : decode cX0_init 65 = .ok (.lload_n 3, 1) := by decide +kernel
theorem dX0_init_66 : decode cX0_init 66 = .ok (.iload_n 1, 1) := by decide +kernel
theorem dX0_init_67 : decode cX0_init 67 = .ok (.iconst 1, 1) := by decide +kernel
theorem dX0_init_68 : decode cX0_init 68 = .ok (.isub, 1) := by decide +kernel
theorem dX0_init_69 : decode cX0_init 69 = .ok (.lshl, 1) := by decide +kernel
theorem dX0_init_70 : decode cX0_init 70 = .ok (.putfield 26, 3) := by decide +kernel
theorem dX0_init_73 : decode cX0_init 73 = .ok (.lconst 1, 1) := by decide +kernel
theorem dX0_init_74 : decode cX0_init 74 = .ok (.iload_n 1, 1) := by decide +kernel
theorem dX0_init_75 : decode cX0_init 75 = .ok (.lshl, 1) := by decide +kernel
theorem dX0_init_76 : decode cX0_init 76 = .ok (.lconst 1, 1) := by decide +kernel
theorem dX0_init_77 : decode cX0_init 77 = .ok (.lsub, 1) := by decide +kernel
theorem dX0_init_78 : decode cX0_init 78 = .ok (.lstore 5, 2) := by decide +kernel
theorem dX0_init_80 : decode cX0_init 80 = .ok (.aload_n 0, 1) := by decide +kernel
theorem dX0_init_81 : decode cX0_init 81 = .ok (.aload_n 0, 1) := by decide +kernel
theorem dX0_init_82 : decode cX0_init 82 = .ok (.getfield 23, 3) := by decide +kernel
theorem dX0_init_85 : decode cX0_init 85 = .ok (.aload_n 0, 1) := by decide +kernel
theorem dX0_init_86 : decode cX0_init 86 = .ok (.getfield 26, 3) := by decide +kernel
theorem dX0_init_89 : decode cX0_init 89 = .ok (.lor, 1) := by decide +kernel
theorem dX0_init_90 : decode cX0_init 90 = .ok (.lload 5, 2) := by decide +kernel
theorem dX0_init_92 : decode cX0_init 92 = .ok (.lor, 1) := by decide +kernel
theorem dX0_init_93 : decode cX0_init 93 = .ok (.lload 5, 2) := by decide +kernel
theorem dX0_init_95 : decode cX0_init 95 = .ok (.aload_n 0, 1) := by decide +kernel
theorem dX0_init_96 : decode cX0_init 96 = .ok (.getfield 16, 3) := by decide +kernel
theorem dX0_init_99 : decode cX0_init 99 = .ok (.iload_n 1, 1) := by decide +kernel
theorem dX0_init_100 : decode cX0_init 100 = .ok (.isub, 1) := by decide +kernel
theorem dX0_init_101 : decode cX0_init 101 = .ok (.lshl, 1) := by decide +kernel
theorem dX0_init_102 : decode cX0_init 102 = .ok (.lor, 1) := by decide +kernel
theorem dX0_init_103 : decode cX0_init 103 = .ok (.putfield 29, 3) := by decide +kernel
theorem dX0_init_106 : decode cX0_init 106 = .ok (.return_, 1) := by decide +kernel
theorem dX0_has_0 : decode cX0_has 0 = .ok (.iload_n 1, 1) := by decide +kernel
theorem dX0_has_1 : decode cX0_has 1 = .ok (.ifCond .lt 15, 3) := by decide +kernel
theorem dX0_has_4 : decode cX0_has 4 = .ok (.iload_n 1, 1) := by decide +kernel
theorem dX0_has_5 : decode cX0_has 5 = .ok (.aload_n 0, 1) := by decide +kernel
theorem dX0_has_6 : decode cX0_has 6 = .ok (.getfield 16, 3) := by decide +kernel
theorem dX0_has_9 : decode cX0_has 9 = .ok (.if_icmp .ge 7, 3) := by decide +kernel
theorem dX0_has_12 : decode cX0_has 12 = .ok (.iconst 1, 1) := by decide +kernel
theorem dX0_has_13 : decode cX0_has 13 = .ok (.goto 4, 3) := by decide +kernel
theorem dX0_has_16 : decode cX0_has 16 = .ok (.iconst 0, 1) := by decide +kernel
theorem dX0_has_17 : decode cX0_has 17 = .ok (.ireturn, 1) := by decide +kernel
theorem dX0_cellAt_0 : decode cX0_cellAt 0 = .ok (.iload_n 2, 1) := by decide +kernel
theorem dX0_cellAt_1 : decode cX0_cellAt 1 = .ok (.aload_n 0, 1) := by decide +kernel
theorem dX0_cellAt_2 : decode cX0_cellAt 2 = .ok (.getfield 7, 3) := by decide +kernel
theorem dX0_cellAt_5 : decode cX0_cellAt 5 = .ok (.imul, 1) := by decide +kernel
theorem dX0_cellAt_6 : decode cX0_cellAt 6 = .ok (.iload_n 1, 1) := by decide +kernel
theorem dX0_cellAt_7 : decode cX0_cellAt 7 = .ok (.iadd, 1) := by decide +kernel
theorem dX0_cellAt_8 : decode cX0_cellAt 8 = .ok (.ireturn, 1) := by decide +kernel
theorem dX0_rowOf_0 : decode cX0_rowOf 0 = .ok (.aload_n 0, 1) := by decide +kernel
theorem dX0_rowOf_1 : decode cX0_rowOf 1 = .ok (.getfield 7, 3) := by decide +kernel
theorem dX0_rowOf_4 : decode cX0_rowOf 4 = .ok (.ifCond .ne 7, 3) := by decide +kernel
theorem dX0_rowOf_7 : decode cX0_rowOf 7 = .ok (.iconst 0, 1) := by decide +kernel
theorem dX0_rowOf_8 : decode cX0_rowOf 8 = .ok (.goto 9, 3) := by decide +kernel
theorem dX0_rowOf_11 : decode cX0_rowOf 11 = .ok (.iload_n 1, 1) := by decide +kernel
theorem dX0_rowOf_12 : decode cX0_rowOf 12 = .ok (.aload_n 0, 1) := by decide +kernel
theorem dX0_rowOf_13 : decode cX0_rowOf 13 = .ok (.getfield 7, 3) := by decide +kernel
theorem dX0_rowOf_16 : decode cX0_rowOf 16 = .ok (.idiv, 1) := by decide +kernel
theorem dX0_rowOf_17 : decode cX0_rowOf 17 = .ok (.ireturn, 1) := by decide +kernel
theorem dX0_columnOf_0 : decode cX0_columnOf 0 = .ok (.iload_n 1, 1) := by decide +kernel
theorem dX0_columnOf_1 : decode cX0_columnOf 1 = .ok (.aload_n 0, 1) := by decide +kernel
theorem dX0_columnOf_2 : decode cX0_columnOf 2 = .ok (.iload_n 1, 1) := by decide +kernel
theorem dX0_columnOf_3 : decode cX0_columnOf 3 = .ok (.invokevirtual 32, 3) := by decide +kernel
theorem dX0_columnOf_6 : decode cX0_columnOf 6 = .ok (.aload_n 0, 1) := by decide +kernel
theorem dX0_columnOf_7 : decode cX0_columnOf 7 = .ok (.getfield 7, 3) := by decide +kernel
theorem dX0_columnOf_10 : decode cX0_columnOf 10 = .ok (.imul, 1) := by decide +kernel
theorem dX0_columnOf_11 : decode cX0_columnOf 11 = .ok (.isub, 1) := by decide +kernel
theorem dX0_columnOf_12 : decode cX0_columnOf 12 = .ok (.ireturn, 1) := by decide +kernel
theorem dX0_partOfBoard_0 : decode cX0_partOfBoard 0 = .ok (.aload_n 0, 1) := by decide +kernel
theorem dX0_partOfBoard_1 : decode cX0_partOfBoard 1 = .ok (.getfield 16, 3) := by decide +kernel
theorem dX0_partOfBoard_4 : decode cX0_partOfBoard 4 = .ok (.ifCond .ne 7, 3) := by decide +kernel
theorem dX0_partOfBoard_7 : decode cX0_partOfBoard 7 = .ok (.dconst 0, 1) := by decide +kernel
theorem dX0_partOfBoard_8 : decode cX0_partOfBoard 8 = .ok (.goto 14, 3) := by decide +kernel
theorem dX0_partOfBoard_11 : decode cX0_partOfBoard 11 = .ok (.lload_n 1, 1) := by decide +kernel
theorem dX0_partOfBoard_12 : decode cX0_partOfBoard 12 = .ok (.invokestatic 36, 3) := by decide +kernel
theorem dX0_partOfBoard_15 : decode cX0_partOfBoard 15 = .ok (.i2d, 1) := by decide +kernel
theorem dX0_partOfBoard_16 : decode cX0_partOfBoard 16 = .ok (.aload_n 0, 1) := by decide +kernel
theorem dX0_partOfBoard_17 : decode cX0_partOfBoard 17 = .ok (.getfield 16, 3) := by decide +kernel
theorem dX0_partOfBoard_20 : decode cX0_partOfBoard 20 = .ok (.i2d, 1) := by decide +kernel
theorem dX0_partOfBoard_21 : decode cX0_partOfBoard 21 = .ok (.ddiv, 1) := by decide +kernel
theorem dX0_partOfBoard_22 : decode cX0_partOfBoard 22 = .ok (.dreturn, 1) := by decide +kernel
theorem dX0_flood_0 : decode cX0_flood 0 = .ok (.lload_n 1, 1) := by decide +kernel
theorem dX0_flood_1 : decode cX0_flood 1 = .ok (.lload_n 3, 1) := by decide +kernel
theorem dX0_flood_2 : decode cX0_flood 2 = .ok (.land, 1) := by decide +kernel
theorem dX0_flood_3 : decode cX0_flood 3 = .ok (.lstore 5, 2) := by decide +kernel
theorem dX0_flood_5 : decode cX0_flood 5 = .ok (.iconst 0, 1) := by decide +kernel
theorem dX0_flood_6 : decode cX0_flood 6 = .ok (.istore 7, 2) := by decide +kernel
theorem dX0_flood_8 : decode cX0_flood 8 = .ok (.iload 7, 2) := by decide +kernel
theorem dX0_flood_10 : decode cX0_flood 10 = .ok (.aload_n 0, 1) := by decide +kernel
theorem dX0_flood_11 : decode cX0_flood 11 = .ok (.getfield 16, 3) := by decide +kernel
theorem dX0_flood_14 : decode cX0_flood 14 = .ok (.if_icmp .ge 82, 3) := by decide +kernel
theorem dX0_flood_17 : decode cX0_flood 17 = .ok (.lload 5, 2) := by decide +kernel
theorem dX0_flood_19 : decode cX0_flood 19 = .ok (.aload_n 0, 1) := by decide +kernel
theorem dX0_flood_20 : decode cX0_flood 20 = .ok (.getfield 26, 3) := by decide +kernel
theorem dX0_flood_23 : decode cX0_flood 23 = .ok (.ldc2_w 42, 3) := by decide +kernel
theorem dX0_flood_26 : decode cX0_flood 26 = .ok (.lxor, 1) := by decide +kernel
theorem dX0_flood_27 : decode cX0_flood 27 = .ok (.land, 1) := by decide +kernel
theorem dX0_flood_28 : decode cX0_flood 28 = .ok (.iconst 1, 1) := by decide +kernel
theorem dX0_flood_29 : decode cX0_flood 29 = .ok (.lshl, 1) := by decide +kernel
theorem dX0_flood_30 : decode cX0_flood 30 = .ok (.lstore 8, 2) := by decide +kernel
theorem dX0_flood_32 : decode cX0_flood 32 = .ok (.lload 5, 2) := by decide +kernel
theorem dX0_flood_34 : decode cX0_flood 34 = .ok (.aload_n 0, 1) := by decide +kernel
theorem dX0_flood_35 : decode cX0_flood 35 = .ok (.getfield 23, 3) := by decide +kernel
theorem dX0_flood_38 : decode cX0_flood 38 = .ok (.ldc2_w 42, 3) := by decide +kernel
theorem dX0_flood_41 : decode cX0_flood 41 = .ok (.lxor, 1) := by decide +kernel
theorem dX0_flood_42 : decode cX0_flood 42 = .ok (.land, 1) := by decide +kernel
theorem dX0_flood_43 : decode cX0_flood 43 = .ok (.iconst 1, 1) := by decide +kernel
theorem dX0_flood_44 : decode cX0_flood 44 = .ok (.lushr, 1) := by decide +kernel
theorem dX0_flood_45 : decode cX0_flood 45 = .ok (.lstore 10, 2) := by decide +kernel
theorem dX0_flood_47 : decode cX0_flood 47 = .ok (.lload 5, 2) := by decide +kernel
theorem dX0_flood_49 : decode cX0_flood 49 = .ok (.lload 8, 2) := by decide +kernel
theorem dX0_flood_51 : decode cX0_flood 51 = .ok (.lor, 1) := by decide +kernel
theorem dX0_flood_52 : decode cX0_flood 52 = .ok (.lload 10, 2) := by decide +kernel
theorem dX0_flood_54 : decode cX0_flood 54 = .ok (.lor, 1) := by decide +kernel
theorem dX0_flood_55 : decode cX0_flood 55 = .ok (.lload 5, 2) := by decide +kernel
theorem dX0_flood_57 : decode cX0_flood 57 = .ok (.aload_n 0, 1) := by decide +kernel
theorem dX0_flood_58 : decode cX0_flood 58 = .ok (.getfield 7, 3) := by decide +kernel
theorem dX0_flood_61 : decode cX0_flood 61 = .ok (.lshl, 1) := by decide +kernel
theorem dX0_flood_62 : decode cX0_flood 62 = .ok (.lor, 1) := by decide +kernel
theorem dX0_flood_63 : decode cX0_flood 63 = .ok (.lload 5, 2) := by decide +kernel
theorem dX0_flood_65 : decode cX0_flood 65 = .ok (.aload_n 0, 1) := by decide +kernel
theorem dX0_flood_66 : decode cX0_flood 66 = .ok (.getfield 7, 3) := by decide +kernel
theorem dX0_flood_69 : decode cX0_flood 69 = .ok (.lushr, 1) := by decide +kernel
theorem dX0_flood_70 : decode cX0_flood 70 = .ok (.lor, 1) := by decide +kernel
theorem dX0_flood_71 : decode cX0_flood 71 = .ok (.lload_n 3, 1) := by decide +kernel
theorem dX0_flood_72 : decode cX0_flood 72 = .ok (.land, 1) := by decide +kernel
theorem dX0_flood_73 : decode cX0_flood 73 = .ok (.lstore 12, 2) := by decide +kernel
theorem dX0_flood_75 : decode cX0_flood 75 = .ok (.lload 12, 2) := by decide +kernel
theorem dX0_flood_77 : decode cX0_flood 77 = .ok (.lload 5, 2) := by decide +kernel
theorem dX0_flood_79 : decode cX0_flood 79 = .ok (.lcmp, 1) := by decide +kernel
theorem dX0_flood_80 : decode cX0_flood 80 = .ok (.ifCond .ne 6, 3) := by decide +kernel
theorem dX0_flood_83 : decode cX0_flood 83 = .ok (.goto 13, 3) := by decide +kernel
theorem dX0_flood_86 : decode cX0_flood 86 = .ok (.lload 12, 2) := by decide +kernel
theorem dX0_flood_88 : decode cX0_flood 88 = .ok (.lstore 5, 2) := by decide +kernel
theorem dX0_flood_90 : decode cX0_flood 90 = .ok (.iinc 7 1, 3) := by decide +kernel
theorem dX0_flood_93 : decode cX0_flood 93 = .ok (.goto (-85), 3) := by decide +kernel
theorem dX0_flood_96 : decode cX0_flood 96 = .ok (.lload 5, 2) := by decide +kernel
theorem dX0_flood_98 : decode cX0_flood 98 = .ok (.lreturn, 1) := by decide +kernel
theorem dX0_isInside_0 : decode cX0_isInside 0 = .ok (.aload_n 0, 1) := by decide +kernel
theorem dX0_isInside_1 : decode cX0_isInside 1 = .ok (.lload_n 1, 1) := by decide +kernel
theorem dX0_isInside_2 : decode cX0_isInside 2 = .ok (.lload_n 3, 1) := by decide +kernel
theorem dX0_isInside_3 : decode cX0_isInside 3 = .ok (.invokevirtual 44, 3) := by decide +kernel
theorem dX0_isInside_6 : decode cX0_isInside 6 = .ok (.aload_n 0, 1) := by decide +kernel
theorem dX0_isInside_7 : decode cX0_isInside 7 = .ok (.getfield 29, 3) := by decide +kernel
theorem dX0_isInside_10 : decode cX0_isInside 10 = .ok (.land, 1) := by decide +kernel
theorem dX0_isInside_11 : decode cX0_isInside 11 = .ok (.lconst 0, 1) := by decide +kernel
theorem dX0_isInside_12 : decode cX0_isInside 12 = .ok (.lcmp, 1) := by decide +kernel
theorem dX0_isInside_13 : decode cX0_isInside 13 = .ok (.ifCond .ne 7, 3) := by decide +kernel
theorem dX0_isInside_16 : decode cX0_isInside 16 = .ok (.iconst 1, 1) := by decide +kernel
theorem dX0_isInside_17 : decode cX0_isInside 17 = .ok (.goto 4, 3) := by decide +kernel
theorem dX0_isInside_20 : decode cX0_isInside 20 = .ok (.iconst 0, 1) := by decide +kernel
theorem dX0_isInside_21 : decode cX0_isInside 21 = .ok (.ireturn, 1) := by decide +kernel
theorem dX1_init_0 : decode cX1_init 0 = .ok (.aload_n 0, 1) := by decide +kernel
theorem dX1_init_1 : decode cX1_init 1 = .ok (.invokespecial 3, 3) := by decide +kernel
theorem dX1_init_4 : decode cX1_init 4 = .ok (.aload_n 0, 1) := by decide +kernel
theorem dX1_init_5 : decode cX1_init 5 = .ok (.new 9, 3) := by decide +kernel
theorem dX1_init_8 : decode cX1_init 8 = .ok (.dup, 1) := by decide +kernel
theorem dX1_init_9 : decode cX1_init 9 = .ok (.invokespecial 11, 3) := by decide +kernel
theorem dX1_init_12 : decode cX1_init 12 = .ok (.putfield 12, 3) := by decide +kernel
theorem dX1_init_15 : decode cX1_init 15 = .ok (.aload_n 0, 1) := by decide +kernel
theorem dX1_init_16 : decode cX1_init 16 = .ok (.new 9, 3) := by decide +kernel
theorem dX1_init_19 : decode cX1_init 19 = .ok (.dup, 1) := by decide +kernel
theorem dX1_init_20 : decode cX1_init 20 = .ok (.invokespecial 11, 3) := by decide +kernel
theorem dX1_init_23 : decode cX1_init 23 = .ok (.putfield 18, 3) := by decide +kernel
theorem dX1_init_26 : decode cX1_init 26 = .ok (.return_, 1) := by decide +kernel
theorem dX1_leastValue_0 : decode cX1_leastValue 0 = .ok (.iload 5, 2) := by decide +kernel
theorem dX1_leastValue_2 : decode cX1_leastValue 2 = .ok (.iconst 1, 1) := by decide +kernel
theorem dX1_leastValue_3 : decode cX1_leastValue 3 = .ok (.if_icmp .le 10, 3) := by decide +kernel
theorem dX1_leastValue_6 : decode cX1_leastValue 6 = .ok (.aload_n 0, 1) := by decide +kernel
theorem dX1_leastValue_7 : decode cX1_leastValue 7 = .ok (.getfield 12, 3) := by decide +kernel
theorem dX1_leastValue_10 : decode cX1_leastValue 10 = .ok (.goto 7, 3) := by decide +kernel
theorem dX1_leastValue_13 : decode cX1_leastValue 13 = .ok (.aload_n 0, 1) := by decide +kernel
theorem dX1_leastValue_14 : decode cX1_leastValue 14 = .ok (.getfield 18, 3) := by decide +kernel
theorem dX1_leastValue_17 : decode cX1_leastValue 17 = .ok (.astore 6, 2) := by decide +kernel
theorem dX1_leastValue_19 : decode cX1_leastValue 19 = .ok (.aload_n 1, 1) := by decide +kernel
theorem dX1_leastValue_20 : decode cX1_leastValue 20 = .ok (.aload_n 2, 1) := by decide +kernel
theorem dX1_leastValue_21 : decode cX1_leastValue 21 = .ok (.invokevirtual 21, 3) := by decide +kernel
theorem dX1_leastValue_24 : decode cX1_leastValue 24 = .ok (.istore 7, 2) := by decide +kernel
theorem dX1_leastValue_26 : decode cX1_leastValue 26 = .ok (.ldc 27, 2) := by decide +kernel
theorem dX1_leastValue_28 : decode cX1_leastValue 28 = .ok (.istore 8, 2) := by decide +kernel
theorem dX1_leastValue_30 : decode cX1_leastValue 30 = .ok (.iconst (-1), 1) := by decide +kernel
theorem dX1_leastValue_31 : decode cX1_leastValue 31 = .ok (.istore 9, 2) := by decide +kernel
theorem dX1_leastValue_33 : decode cX1_leastValue 33 = .ok (.iload 9, 2) := by decide +kernel
theorem dX1_leastValue_35 : decode cX1_leastValue 35 = .ok (.aload_n 1, 1) := by decide +kernel
theorem dX1_leastValue_36 : decode cX1_leastValue 36 = .ok (.getfield 28, 3) := by decide +kernel
theorem dX1_leastValue_39 : decode cX1_leastValue 39 = .ok (.getfield 32, 3) := by decide +kernel
theorem dX1_leastValue_42 : decode cX1_leastValue 42 = .ok (.if_icmp .ge 144, 3) := by decide +kernel
theorem dX1_leastValue_45 : decode cX1_leastValue 45 = .ok (.aload_n 2, 1) := by decide +kernel
theorem dX1_leastValue_46 : decode cX1_leastValue 46 = .ok (.iload 9, 2) := by decide +kernel
theorem dX1_leastValue_48 : decode cX1_leastValue 48 = .ok (.invokevirtual 38, 3) := by decide +kernel
theorem dX1_leastValue_51 : decode cX1_leastValue 51 = .ok (.ifCond .eq 129, 3) := by decide +kernel
theorem dX1_leastValue_54 : decode cX1_leastValue 54 = .ok (.iload_n 3, 1) := by decide +kernel
theorem dX1_leastValue_55 : decode cX1_leastValue 55 = .ok (.ifCond .ne 8, 3) := by decide +kernel
theorem dX1_leastValue_58 : decode cX1_leastValue 58 = .ok (.iload 4, 2) := by decide +kernel
theorem dX1_leastValue_60 : decode cX1_leastValue 60 = .ok (.goto 5, 3) := by decide +kernel
theorem dX1_leastValue_63 : decode cX1_leastValue 63 = .ok (.iload 9, 2) := by decide +kernel
theorem dX1_leastValue_65 : decode cX1_leastValue 65 = .ok (.istore 10, 2) := by decide +kernel
theorem dX1_leastValue_67 : decode cX1_leastValue 67 = .ok (.iload_n 3, 1) := by decide +kernel
theorem dX1_leastValue_68 : decode cX1_leastValue 68 = .ok (.ifCond .ne 8, 3) := by decide +kernel
theorem dX1_leastValue_71 : decode cX1_leastValue 71 = .ok (.iload 9, 2) := by decide +kernel
theorem dX1_leastValue_73 : decode cX1_leastValue 73 = .ok (.goto 5, 3) := by decide +kernel
theorem dX1_leastValue_76 : decode cX1_leastValue 76 = .ok (.iload 4, 2) := by decide +kernel
theorem dX1_leastValue_78 : decode cX1_leastValue 78 = .ok (.istore 11, 2) := by decide +kernel
theorem dX1_leastValue_80 : decode cX1_leastValue 80 = .ok (.aload 6, 2) := by decide +kernel
theorem dX1_leastValue_82 : decode cX1_leastValue 82 = .ok (.aload_n 1, 1) := by decide +kernel
theorem dX1_leastValue_83 : decode cX1_leastValue 83 = .ok (.getfield 28, 3) := by decide +kernel
theorem dX1_leastValue_86 : decode cX1_leastValue 86 = .ok (.aload_n 2, 1) := by decide +kernel
theorem dX1_leastValue_87 : decode cX1_leastValue 87 = .ok (.iload 10, 2) := by decide +kernel
theorem dX1_leastValue_89 : decode cX1_leastValue 89 = .ok (.iload 11, 2) := by decide +kernel
theorem dX1_leastValue_91 : decode cX1_leastValue 91 = .ok (.iload 7, 2) := by decide +kernel
theorem dX1_leastValue_93 : decode cX1_leastValue 93 = .ok (.invokevirtual 44, 3) := by decide +kernel
theorem dX1_leastValue_96 : decode cX1_leastValue 96 = .ok (.iload 5, 2) := by decide +kernel
theorem dX1_leastValue_98 : decode cX1_leastValue 98 = .ok (.iconst 1, 1) := by decide +kernel
theorem dX1_leastValue_99 : decode cX1_leastValue 99 = .ok (.if_icmp .le 17, 3) := by decide +kernel
theorem dX1_leastValue_102 : decode cX1_leastValue 102 = .ok (.aload 6, 2) := by decide +kernel
theorem dX1_leastValue_104 : decode cX1_leastValue 104 = .ok (.aload_n 1, 1) := by decide +kernel
theorem dX1_leastValue_105 : decode cX1_leastValue 105 = .ok (.getfield 48, 3) := by decide +kernel
theorem dX1_leastValue_108 : decode cX1_leastValue 108 = .ok (.iconst 1, 1) := by decide +kernel
theorem dX1_leastValue_109 : decode cX1_leastValue 109 = .ok (.iadd, 1) := by decide +kernel
theorem dX1_leastValue_110 : decode cX1_leastValue 110 = .ok (.invokevirtual 51, 3) := by decide +kernel
theorem dX1_leastValue_113 : decode cX1_leastValue 113 = .ok (.ifCond .eq 7, 3) := by decide +kernel
theorem dX1_leastValue_116 : decode cX1_leastValue 116 = .ok (.iconst 1, 1) := by decide +kernel
theorem dX1_leastValue_117 : decode cX1_leastValue 117 = .ok (.goto 4, 3) := by decide +kernel
theorem dX1_leastValue_120 : decode cX1_leastValue 120 = .ok (.iconst 0, 1) := by decide +kernel
theorem dX1_leastValue_121 : decode cX1_leastValue 121 = .ok (.istore 12, 2) := by decide +kernel
theorem dX1_leastValue_123 : decode cX1_leastValue 123 = .ok (.aload_n 1, 1) := by decide +kernel
theorem dX1_leastValue_124 : decode cX1_leastValue 124 = .ok (.aload 6, 2) := by decide +kernel
theorem dX1_leastValue_126 : decode cX1_leastValue 126 = .ok (.getfield 54, 3) := by decide +kernel
theorem dX1_leastValue_129 : decode cX1_leastValue 129 = .ok (.invokevirtual 58, 3) := by decide +kernel
theorem dX1_leastValue_132 : decode cX1_leastValue 132 = .ok (.istore 13, 2) := by decide +kernel
theorem dX1_leastValue_134 : decode cX1_leastValue 134 = .ok (.iload_n 3, 1) := by decide +kernel
theorem dX1_leastValue_135 : decode cX1_leastValue 135 = .ok (.ifCond .ne 8, 3) := by decide +kernel
theorem dX1_leastValue_138 : decode cX1_leastValue 138 = .ok (.iload 13, 2) := by decide +kernel
theorem dX1_leastValue_140 : decode cX1_leastValue 140 = .ok (.goto 6, 3) := by decide +kernel
theorem dX1_leastValue_143 : decode cX1_leastValue 143 = .ok (.iload 13, 2) := by decide +kernel
theorem dX1_leastValue_145 : decode cX1_leastValue 145 = .ok (.ineg, 1) := by decide +kernel
theorem dX1_leastValue_146 : decode cX1_leastValue 146 = .ok (.istore 14, 2) := by decide +kernel
theorem dX1_leastValue_148 : decode cX1_leastValue 148 = .ok (.iload 8, 2) := by decide +kernel
theorem dX1_leastValue_150 : decode cX1_leastValue 150 = .ok (.iload 12, 2) := by decide +kernel
theorem dX1_leastValue_152 : decode cX1_leastValue 152 = .ok (.ifCond .eq 8, 3) := by decide +kernel
theorem dX1_leastValue_155 : decode cX1_leastValue 155 = .ok (.iload 14, 2) := by decide +kernel
theorem dX1_leastValue_157 : decode cX1_leastValue 157 = .ok (.goto 18, 3) := by decide +kernel
theorem dX1_leastValue_160 : decode cX1_leastValue 160 = .ok (.aload_n 0, 1) := by decide +kernel
theorem dX1_leastValue_161 : decode cX1_leastValue 161 = .ok (.aload_n 1, 1) := by decide +kernel
theorem dX1_leastValue_162 : decode cX1_leastValue 162 = .ok (.aload 6, 2) := by decide +kernel
theorem dX1_leastValue_164 : decode cX1_leastValue 164 = .ok (.getfield 54, 3) := by decide +kernel
theorem dX1_leastValue_167 : decode cX1_leastValue 167 = .ok (.iload_n 3, 1) := by decide +kernel
theorem dX1_leastValue_168 : decode cX1_leastValue 168 = .ok (.iload 5, 2) := by decide +kernel
theorem dX1_leastValue_170 : decode cX1_leastValue 170 = .ok (.iconst 1, 1) := by decide +kernel
theorem dX1_leastValue_171 : decode cX1_leastValue 171 = .ok (.isub, 1) := by decide +kernel
theorem dX1_leastValue_172 : decode cX1_leastValue 172 = .ok (.invokevirtual 61, 3) := by decide +kernel
theorem dX1_leastValue_175 : decode cX1_leastValue 175 = .ok (.invokestatic 65, 3) := by decide +kernel
theorem dX1_leastValue_178 : decode cX1_leastValue 178 = .ok (.istore 8, 2) := by decide +kernel
theorem dX1_leastValue_180 : decode cX1_leastValue 180 = .ok (.iinc 9 1, 3) := by decide +kernel
theorem dX1_leastValue_183 : decode cX1_leastValue 183 = .ok (.goto (-150), 3) := by decide +kernel
theorem dX1_leastValue_186 : decode cX1_leastValue 186 = .ok (.iload 8, 2) := by decide +kernel
theorem dX1_leastValue_188 : decode cX1_leastValue 188 = .ok (.ireturn, 1) := by decide +kernel
theorem dX1_greatestValue_0 : decode cX1_greatestValue 0 = .ok (.ldc 71, 2) := by decide +kernel
theorem dX1_greatestValue_2 : decode cX1_greatestValue 2 = .ok (.istore 5, 2) := by decide +kernel
theorem dX1_greatestValue_4 : decode cX1_greatestValue 4 = .ok (.iconst (-1), 1) := by decide +kernel
theorem dX1_greatestValue_5 : decode cX1_greatestValue 5 = .ok (.istore 6, 2) := by decide +kernel
theorem dX1_greatestValue_7 : decode cX1_greatestValue 7 = .ok (.iload 6, 2) := by decide +kernel
theorem dX1_greatestValue_9 : decode cX1_greatestValue 9 = .ok (.aload_n 1, 1) := by decide +kernel
theorem dX1_greatestValue_10 : decode cX1_greatestValue 10 = .ok (.getfield 28, 3) := by decide +kernel
theorem dX1_greatestValue_13 : decode cX1_greatestValue 13 = .ok (.getfield 32, 3) := by decide +kernel
theorem dX1_greatestValue_16 : decode cX1_greatestValue 16 = .ok (.if_icmp .ge 36, 3) := by decide +kernel
theorem dX1_greatestValue_19 : decode cX1_greatestValue 19 = .ok (.aload_n 2, 1) := by decide +kernel
theorem dX1_greatestValue_20 : decode cX1_greatestValue 20 = .ok (.iload 6, 2) := by decide +kernel
theorem dX1_greatestValue_22 : decode cX1_greatestValue 22 = .ok (.invokevirtual 38, 3) := by decide +kernel
theorem dX1_greatestValue_25 : decode cX1_greatestValue 25 = .ok (.ifCond .eq 21, 3) := by decide +kernel
theorem dX1_greatestValue_28 : decode cX1_greatestValue 28 = .ok (.iload 5, 2) := by decide +kernel
theorem dX1_greatestValue_30 : decode cX1_greatestValue 30 = .ok (.aload_n 0, 1) := by decide +kernel
theorem dX1_greatestValue_31 : decode cX1_greatestValue 31 = .ok (.aload_n 1, 1) := by decide +kernel
theorem dX1_greatestValue_32 : decode cX1_greatestValue 32 = .ok (.aload_n 2, 1) := by decide +kernel
theorem dX1_greatestValue_33 : decode cX1_greatestValue 33 = .ok (.iload_n 3, 1) := by decide +kernel
theorem dX1_greatestValue_34 : decode cX1_greatestValue 34 = .ok (.iload 6, 2) := by decide +kernel
theorem dX1_greatestValue_36 : decode cX1_greatestValue 36 = .ok (.iload 4, 2) := by decide +kernel
theorem dX1_greatestValue_38 : decode cX1_greatestValue 38 = .ok (.invokevirtual 72, 3) := by decide +kernel
theorem dX1_greatestValue_41 : decode cX1_greatestValue 41 = .ok (.invokestatic 76, 3) := by decide +kernel
theorem dX1_greatestValue_44 : decode cX1_greatestValue 44 = .ok (.istore 5, 2) := by decide +kernel
theorem dX1_greatestValue_46 : decode cX1_greatestValue 46 = .ok (.iinc 6 1, 3) := by decide +kernel
theorem dX1_greatestValue_49 : decode cX1_greatestValue 49 = .ok (.goto (-42), 3) := by decide +kernel
theorem dX1_greatestValue_52 : decode cX1_greatestValue 52 = .ok (.iload 5, 2) := by decide +kernel
theorem dX1_greatestValue_54 : decode cX1_greatestValue 54 = .ok (.ireturn, 1) := by decide +kernel
theorem dX2_init_0 : decode cX2_init 0 = .ok (.aload_n 0, 1) := by decide +kernel
theorem dX2_init_1 : decode cX2_init 1 = .ok (.invokespecial 3, 3) := by decide +kernel
theorem dX2_init_4 : decode cX2_init 4 = .ok (.aload_n 0, 1) := by decide +kernel
theorem dX2_init_5 : decode cX2_init 5 = .ok (.new 9, 3) := by decide +kernel
theorem dX2_init_8 : decode cX2_init 8 = .ok (.dup, 1) := by decide +kernel
theorem dX2_init_9 : decode cX2_init 9 = .ok (.iconst 5, 1) := by decide +kernel
theorem dX2_init_10 : decode cX2_init 10 = .ok (.iconst 5, 1) := by decide +kernel
theorem dX2_init_11 : decode cX2_init 11 = .ok (.invokespecial 11, 3) := by decide +kernel
theorem dX2_init_14 : decode cX2_init 14 = .ok (.putfield 14, 3) := by decide +kernel
theorem dX2_init_17 : decode cX2_init 17 = .ok (.aload_n 0, 1) := by decide +kernel
theorem dX2_init_18 : decode cX2_init 18 = .ok (.iconst 0, 1) := by decide +kernel
theorem dX2_init_19 : decode cX2_init 19 = .ok (.putfield 20, 3) := by decide +kernel
theorem dX2_init_22 : decode cX2_init 22 = .ok (.aload_n 0, 1) := by decide +kernel
theorem dX2_init_23 : decode cX2_init 23 = .ok (.bipush 60, 2) := by decide +kernel
theorem dX2_init_25 : decode cX2_init 25 = .ok (.anewarray 24, 3) := by decide +kernel
theorem dX2_init_28 : decode cX2_init 28 = .ok (.putfield 26, 3) := by decide +kernel
theorem dX2_init_31 : decode cX2_init 31 = .ok (.aload_n 0, 1) := by decide +kernel
theorem dX2_init_32 : decode cX2_init 32 = .ok (.new 30, 3) := by decide +kernel
theorem dX2_init_35 : decode cX2_init 35 = .ok (.dup, 1) := by decide +kernel
theorem dX2_init_36 : decode cX2_init 36 = .ok (.invokespecial 32, 3) := by decide +kernel
theorem dX2_init_39 : decode cX2_init 39 = .ok (.putfield 33, 3) := by decide +kernel
theorem dX2_init_42 : decode cX2_init 42 = .ok (.iconst 0, 1) := by decide +kernel
theorem dX2_init_43 : decode cX2_init 43 = .ok (.istore_n 1, 1) := by decide +kernel
theorem dX2_init_44 : decode cX2_init 44 = .ok (.iload_n 1, 1) := by decide +kernel
theorem dX2_init_45 : decode cX2_init 45 = .ok (.aload_n 0, 1) := by decide +kernel
theorem dX2_init_46 : decode cX2_init 46 = .ok (.getfield 26, 3) := by decide +kernel
theorem dX2_init_49 : decode cX2_init 49 = .ok (.arraylength, 1) := by decide +kernel
theorem dX2_init_50 : decode cX2_init 50 = .ok (.if_icmp .ge 22, 3) := by decide +kernel
theorem dX2_init_53 : decode cX2_init 53 = .ok (.aload_n 0, 1) := by decide +kernel
theorem dX2_init_54 : decode cX2_init 54 = .ok (.getfield 26, 3) := by decide +kernel
theorem dX2_init_57 : decode cX2_init 57 = .ok (.iload_n 1, 1) := by decide +kernel
theorem dX2_init_58 : decode cX2_init 58 = .ok (.new 24, 3) := by decide +kernel
theorem dX2_init_61 : decode cX2_init 61 = .ok (.dup, 1) := by decide +kernel
theorem dX2_init_62 : decode cX2_init 62 = .ok (.invokespecial 37, 3) := by decide +kernel
theorem dX2_init_65 : decode cX2_init 65 = .ok (.aastore, 1) := by decide +kernel
theorem dX2_init_66 : decode cX2_init 66 = .ok (.iinc 1 1, 3) := by decide +kernel
theorem dX2_init_69 : decode cX2_init 69 = .ok (.goto (-25), 3) := by decide +kernel
theorem dX2_init_72 : decode cX2_init 72 = .ok (.aload_n 0, 1) := by decide +kernel
theorem dX2_init_73 : decode cX2_init 73 = .ok (.getfield 33, 3) := by decide +kernel
theorem dX2_init_76 : decode cX2_init 76 = .ok (.aload_n 0, 1) := by decide +kernel
theorem dX2_init_77 : decode cX2_init 77 = .ok (.getfield 14, 3) := by decide +kernel
theorem dX2_init_80 : decode cX2_init 80 = .ok (.getfield 38, 3) := by decide +kernel
theorem dX2_init_83 : decode cX2_init 83 = .ok (.invokevirtual 42, 3) := by decide +kernel
theorem dX2_init_86 : decode cX2_init 86 = .ok (.return_, 1) := by decide +kernel
theorem dX2_begin_0 : decode cX2_begin 0 = .ok (.aload_n 0, 1) := by decide +kernel
theorem dX2_begin_1 : decode cX2_begin 1 = .ok (.getfield 14, 3) := by decide +kernel
theorem dX2_begin_4 : decode cX2_begin 4 = .ok (.getfield 46, 3) := by decide +kernel
theorem dX2_begin_7 : decode cX2_begin 7 = .ok (.iload_n 1, 1) := by decide +kernel
theorem dX2_begin_8 : decode cX2_begin 8 = .ok (.if_icmp .ne 14, 3) := by decide +kernel
theorem dX2_begin_11 : decode cX2_begin 11 = .ok (.aload_n 0, 1) := by decide +kernel
theorem dX2_begin_12 : decode cX2_begin 12 = .ok (.getfield 14, 3) := by decide +kernel
theorem dX2_begin_15 : decode cX2_begin 15 = .ok (.getfield 49, 3) := by decide +kernel
theorem dX2_begin_18 : decode cX2_begin 18 = .ok (.iload_n 2, 1) := by decide +kernel
theorem dX2_begin_19 : decode cX2_begin 19 = .ok (.if_icmp .eq 16, 3) := by decide +kernel
theorem dX2_begin_22 : decode cX2_begin 22 = .ok (.aload_n 0, 1) := by decide +kernel
theorem dX2_begin_23 : decode cX2_begin 23 = .ok (.new 9, 3) := by decide +kernel
theorem dX2_begin_26 : decode cX2_begin 26 = .ok (.dup, 1) := by decide +kernel
theorem dX2_begin_27 : decode cX2_begin 27 = .ok (.iload_n 1, 1) := by decide +kernel
theorem dX2_begin_28 : decode cX2_begin 28 = .ok (.iload_n 2, 1) := by decide +kernel
theorem dX2_begin_29 : decode cX2_begin 29 = .ok (.invokespecial 11, 3) := by decide +kernel
theorem dX2_begin_32 : decode cX2_begin 32 = .ok (.putfield 14, 3) := by decide +kernel
theorem dX2_begin_35 : decode cX2_begin 35 = .ok (.aload_n 0, 1) := by decide +kernel
theorem dX2_begin_36 : decode cX2_begin 36 = .ok (.getfield 33, 3) := by decide +kernel
theorem dX2_begin_39 : decode cX2_begin 39 = .ok (.aload_n 0, 1) := by decide +kernel
theorem dX2_begin_40 : decode cX2_begin 40 = .ok (.getfield 14, 3) := by decide +kernel
theorem dX2_begin_43 : decode cX2_begin 43 = .ok (.getfield 38, 3) := by decide +kernel
theorem dX2_begin_46 : decode cX2_begin 46 = .ok (.invokevirtual 42, 3) := by decide +kernel
theorem dX2_begin_49 : decode cX2_begin 49 = .ok (.iconst 0, 1) := by decide +kernel
theorem dX2_begin_50 : decode cX2_begin 50 = .ok (.istore 4, 2) := by decide +kernel
theorem dX2_begin_52 : decode cX2_begin 52 = .ok (.iload 4, 2) := by decide +kernel
theorem dX2_begin_54 : decode cX2_begin 54 = .ok (.iload_n 3, 1) := by decide +kernel
theorem dX2_begin_55 : decode cX2_begin 55 = .ok (.if_icmp .ge 24, 3) := by decide +kernel
theorem dX2_begin_58 : decode cX2_begin 58 = .ok (.aload_n 0, 1) := by decide +kernel
theorem dX2_begin_59 : decode cX2_begin 59 = .ok (.getfield 33, 3) := by decide +kernel
theorem dX2_begin_62 : decode cX2_begin 62 = .ok (.aload_n 0, 1) := by decide +kernel
theorem dX2_begin_63 : decode cX2_begin 63 = .ok (.iload 4, 2) := by decide +kernel
theorem dX2_begin_65 : decode cX2_begin 65 = .ok (.invokevirtual 52, 3) := by decide +kernel
theorem dX2_begin_68 : decode cX2_begin 68 = .ok (.iconst 2, 1) := by decide +kernel
theorem dX2_begin_69 : decode cX2_begin 69 = .ok (.invokevirtual 56, 3) := by decide +kernel
theorem dX2_begin_72 : decode cX2_begin 72 = .ok (.pop2, 1) := by decide +kernel
theorem dX2_begin_73 : decode cX2_begin 73 = .ok (.iinc 4 1, 3) := by decide +kernel
theorem dX2_begin_76 : decode cX2_begin 76 = .ok (.goto (-24), 3) := by decide +kernel
theorem dX2_begin_79 : decode cX2_begin 79 = .ok (.aload_n 0, 1) := by decide +kernel
theorem dX2_begin_80 : decode cX2_begin 80 = .ok (.iconst 0, 1) := by decide +kernel
theorem dX2_begin_81 : decode cX2_begin 81 = .ok (.putfield 60, 3) := by decide +kernel
theorem dX2_begin_84 : decode cX2_begin 84 = .ok (.aload_n 0, 1) := by decide +kernel
theorem dX2_begin_85 : decode cX2_begin 85 = .ok (.iconst 0, 1) := by decide +kernel
theorem dX2_begin_86 : decode cX2_begin 86 = .ok (.putfield 63, 3) := by decide +kernel
theorem dX2_begin_89 : decode cX2_begin 89 = .ok (.aload_n 0, 1) := by decide +kernel
theorem dX2_begin_90 : decode cX2_begin 90 = .ok (.iconst 0, 1) := by decide +kernel
theorem dX2_begin_91 : decode cX2_begin 91 = .ok (.putfield 66, 3) := by decide +kernel
theorem dX2_begin_94 : decode cX2_begin 94 = .ok (.return_, 1) := by decide +kernel
theorem dX2_handicapCell_0 : decode cX2_handicapCell 0 = .ok (.aload_n 0, 1) := by decide +kernel
theorem dX2_handicapCell_1 : decode cX2_handicapCell 1 = .ok (.getfield 14, 3) := by decide +kernel
theorem dX2_handicapCell_4 : decode cX2_handicapCell 4 = .ok (.getfield 46, 3) := by decide +kernel
theorem dX2_handicapCell_7 : decode cX2_handicapCell 7 = .ok (.iconst 2, 1) := by decide +kernel
theorem dX2_handicapCell_8 : decode cX2_handicapCell 8 = .ok (.isub, 1) := by decide +kernel
theorem dX2_handicapCell_9 : decode cX2_handicapCell 9 = .ok (.istore_n 2, 1) := by decide +kernel
theorem dX2_handicapCell_10 : decode cX2_handicapCell 10 = .ok (.aload_n 0, 1) := by decide +kernel
theorem dX2_handicapCell_11 : decode cX2_handicapCell 11 = .ok (.getfield 14, 3) := by decide +kernel
theorem dX2_handicapCell_14 : decode cX2_handicapCell 14 = .ok (.getfield 49, 3) := by decide +kernel
theorem dX2_handicapCell_17 : decode cX2_handicapCell 17 = .ok (.iconst 2, 1) := by decide +kernel
theorem dX2_handicapCell_18 : decode cX2_handicapCell 18 = .ok (.isub, 1) := by decide +kernel
theorem dX2_handicapCell_19 : decode cX2_handicapCell 19 = .ok (.istore_n 3, 1) := by decide +kernel
theorem dX2_handicapCell_20 : decode cX2_handicapCell 20 = .ok (.iload_n 1, 1) := by decide +kernel
theorem dX2_handicapCell_21 : decode cX2_handicapCell 21 = .ok (.tableswitch 57 0 2 #[27, 37, 47], 27) := by decide +kernel
theorem dX2_handicapCell_48 : decode cX2_handicapCell 48 = .ok (.aload_n 0, 1) := by decide +kernel
theorem dX2_handicapCell_49 : decode cX2_handicapCell 49 = .ok (.getfield 14, 3) := by decide +kernel
theorem dX2_handicapCell_52 : decode cX2_handicapCell 52 = .ok (.iconst 1, 1) := by decide +kernel
theorem dX2_handicapCell_53 : decode cX2_handicapCell 53 = .ok (.iconst 1, 1) := by decide +kernel
theorem dX2_handicapCell_54 : decode cX2_handicapCell 54 = .ok (.invokevirtual 69, 3) := by decide +kernel
theorem dX2_handicapCell_57 : decode cX2_handicapCell 57 = .ok (.ireturn, 1) := by decide +kernel
theorem dX2_handicapCell_58 : decode cX2_handicapCell 58 = .ok (.aload_n 0, 1) := by decide +kernel
theorem dX2_handicapCell_59 : decode cX2_handicapCell 59 = .ok (.getfield 14, 3) := by decide +kernel
theorem dX2_handicapCell_62 : decode cX2_handicapCell 62 = .ok (.iload_n 2, 1) := by decide +kernel
theorem dX2_handicapCell_63 : decode cX2_handicapCell 63 = .ok (.iload_n 3, 1) := by decide +kernel
theorem dX2_handicapCell_64 : decode cX2_handicapCell 64 = .ok (.invokevirtual 69, 3) := by decide +kernel
theorem dX2_handicapCell_67 : decode cX2_handicapCell 67 = .ok (.ireturn, 1) := by decide +kernel
theorem dX2_handicapCell_68 : decode cX2_handicapCell 68 = .ok (.aload_n 0, 1) := by decide +kernel
theorem dX2_handicapCell_69 : decode cX2_handicapCell 69 = .ok (.getfield 14, 3) := by decide +kernel
theorem dX2_handicapCell_72 : decode cX2_handicapCell 72 = .ok (.iload_n 2, 1) := by decide +kernel
theorem dX2_handicapCell_73 : decode cX2_handicapCell 73 = .ok (.iconst 1, 1) := by decide +kernel
theorem dX2_handicapCell_74 : decode cX2_handicapCell 74 = .ok (.invokevirtual 69, 3) := by decide +kernel
theorem dX2_handicapCell_77 : decode cX2_handicapCell 77 = .ok (.ireturn, 1) := by decide +kernel
theorem dX2_handicapCell_78 : decode cX2_handicapCell 78 = .ok (.aload_n 0, 1) := by decide +kernel
theorem dX2_handicapCell_79 : decode cX2_handicapCell 79 = .ok (.getfield 14, 3) := by decide +kernel
theorem dX2_handicapCell_82 : decode cX2_handicapCell 82 = .ok (.iconst 1, 1) := by decide +kernel
theorem dX2_handicapCell_83 : decode cX2_handicapCell 83 = .ok (.iload_n 3, 1) := by decide +kernel
theorem dX2_handicapCell_84 : decode cX2_handicapCell 84 = .ok (.invokevirtual 69, 3) := by decide +kernel
theorem dX2_handicapCell_87 : decode cX2_handicapCell 87 = .ok (.ireturn, 1) := by decide +kernel
theorem dX2_copyFrom_0 : decode cX2_copyFrom 0 = .ok (.aload_n 0, 1) := by decide +kernel
theorem dX2_copyFrom_1 : decode cX2_copyFrom 1 = .ok (.aload_n 1, 1) := by decide +kernel
theorem dX2_copyFrom_2 : decode cX2_copyFrom 2 = .ok (.getfield 14, 3) := by decide +kernel
theorem dX2_copyFrom_5 : decode cX2_copyFrom 5 = .ok (.putfield 14, 3) := by decide +kernel
theorem dX2_copyFrom_8 : decode cX2_copyFrom 8 = .ok (.aload_n 0, 1) := by decide +kernel
theorem dX2_copyFrom_9 : decode cX2_copyFrom 9 = .ok (.aload_n 1, 1) := by decide +kernel
theorem dX2_copyFrom_10 : decode cX2_copyFrom 10 = .ok (.getfield 20, 3) := by decide +kernel
theorem dX2_copyFrom_13 : decode cX2_copyFrom 13 = .ok (.putfield 20, 3) := by decide +kernel
theorem dX2_copyFrom_16 : decode cX2_copyFrom 16 = .ok (.aload_n 0, 1) := by decide +kernel
theorem dX2_copyFrom_17 : decode cX2_copyFrom 17 = .ok (.aload_n 1, 1) := by decide +kernel
theorem dX2_copyFrom_18 : decode cX2_copyFrom 18 = .ok (.getfield 63, 3) := by decide +kernel
theorem dX2_copyFrom_21 : decode cX2_copyFrom 21 = .ok (.putfield 63, 3) := by decide +kernel
theorem dX2_copyFrom_24 : decode cX2_copyFrom 24 = .ok (.aload_n 0, 1) := by decide +kernel
theorem dX2_copyFrom_25 : decode cX2_copyFrom 25 = .ok (.aload_n 1, 1) := by decide +kernel
theorem dX2_copyFrom_26 : decode cX2_copyFrom 26 = .ok (.getfield 66, 3) := by decide +kernel
theorem dX2_copyFrom_29 : decode cX2_copyFrom 29 = .ok (.putfield 66, 3) := by decide +kernel
theorem dX2_copyFrom_32 : decode cX2_copyFrom 32 = .ok (.aload_n 0, 1) := by decide +kernel
theorem dX2_copyFrom_33 : decode cX2_copyFrom 33 = .ok (.getfield 33, 3) := by decide +kernel
theorem dX2_copyFrom_36 : decode cX2_copyFrom 36 = .ok (.aload_n 1, 1) := by decide +kernel
theorem dX2_copyFrom_37 : decode cX2_copyFrom 37 = .ok (.getfield 33, 3) := by decide +kernel
theorem dX2_copyFrom_40 : decode cX2_copyFrom 40 = .ok (.invokevirtual 73, 3) := by decide +kernel
theorem dX2_copyFrom_43 : decode cX2_copyFrom 43 = .ok (.aload_n 0, 1) := by decide +kernel
theorem dX2_copyFrom_44 : decode cX2_copyFrom 44 = .ok (.aload_n 1, 1) := by decide +kernel
theorem dX2_copyFrom_45 : decode cX2_copyFrom 45 = .ok (.getfield 60, 3) := by decide +kernel
theorem dX2_copyFrom_48 : decode cX2_copyFrom 48 = .ok (.putfield 60, 3) := by decide +kernel
theorem dX2_copyFrom_51 : decode cX2_copyFrom 51 = .ok (.iconst 0, 1) := by decide +kernel
theorem dX2_copyFrom_52 : decode cX2_copyFrom 52 = .ok (.istore_n 2, 1) := by decide +kernel
theorem dX2_copyFrom_53 : decode cX2_copyFrom 53 = .ok (.iload_n 2, 1) := by decide +kernel
theorem dX2_copyFrom_54 : decode cX2_copyFrom 54 = .ok (.aload_n 0, 1) := by decide +kernel
theorem dX2_copyFrom_55 : decode cX2_copyFrom 55 = .ok (.getfield 60, 3) := by decide +kernel
theorem dX2_copyFrom_58 : decode cX2_copyFrom 58 = .ok (.if_icmp .ge 30, 3) := by decide +kernel
theorem dX2_copyFrom_61 : decode cX2_copyFrom 61 = .ok (.iload_n 2, 1) := by decide +kernel
theorem dX2_copyFrom_62 : decode cX2_copyFrom 62 = .ok (.bipush 60, 2) := by decide +kernel
theorem dX2_copyFrom_64 : decode cX2_copyFrom 64 = .ok (.if_icmp .ge 24, 3) := by decide +kernel
theorem dX2_copyFrom_67 : decode cX2_copyFrom 67 = .ok (.aload_n 0, 1) := by decide +kernel
theorem dX2_copyFrom_68 : decode cX2_copyFrom 68 = .ok (.getfield 26, 3) := by decide +kernel
theorem dX2_copyFrom_71 : decode cX2_copyFrom 71 = .ok (.iload_n 2, 1) := by decide +kernel
theorem dX2_copyFrom_72 : decode cX2_copyFrom 72 = .ok (.aaload, 1) := by decide +kernel
theorem dX2_copyFrom_73 : decode cX2_copyFrom 73 = .ok (.aload_n 1, 1) := by decide +kernel
theorem dX2_copyFrom_74 : decode cX2_copyFrom 74 = .ok (.getfield 26, 3) := by decide +kernel
theorem dX2_copyFrom_77 : decode cX2_copyFrom 77 = .ok (.iload_n 2, 1) := by decide +kernel
theorem dX2_copyFrom_78 : decode cX2_copyFrom 78 = .ok (.aaload, 1) := by decide +kernel
theorem dX2_copyFrom_79 : decode cX2_copyFrom 79 = .ok (.invokevirtual 77, 3) := by decide +kernel
theorem dX2_copyFrom_82 : decode cX2_copyFrom 82 = .ok (.iinc 2 1, 3) := by decide +kernel
theorem dX2_copyFrom_85 : decode cX2_copyFrom 85 = .ok (.goto (-32), 3) := by decide +kernel
theorem dX2_copyFrom_88 : decode cX2_copyFrom 88 = .ok (.return_, 1) := by decide +kernel
theorem dX2_bonus_0 : decode cX2_bonus 0 = .ok (.iload_n 1, 1) := by decide +kernel
theorem dX2_bonus_1 : decode cX2_bonus 1 = .ok (.ifCond .ne 10, 3) := by decide +kernel
theorem dX2_bonus_4 : decode cX2_bonus 4 = .ok (.aload_n 0, 1) := by decide +kernel
theorem dX2_bonus_5 : decode cX2_bonus 5 = .ok (.getfield 63, 3) := by decide +kernel
theorem dX2_bonus_8 : decode cX2_bonus 8 = .ok (.goto 7, 3) := by decide +kernel
theorem dX2_bonus_11 : decode cX2_bonus 11 = .ok (.aload_n 0, 1) := by decide +kernel
theorem dX2_bonus_12 : decode cX2_bonus 12 = .ok (.getfield 66, 3) := by decide +kernel
theorem dX2_bonus_15 : decode cX2_bonus 15 = .ok (.ireturn, 1) := by decide +kernel
theorem dX2_changeBonus_0 : decode cX2_changeBonus 0 = .ok (.iload_n 1, 1) := by decide +kernel
theorem dX2_changeBonus_1 : decode cX2_changeBonus 1 = .ok (.ifCond .ne 11, 3) := by decide +kernel
theorem dX2_changeBonus_4 : decode cX2_changeBonus 4 = .ok (.aload_n 0, 1) := by decide +kernel
theorem dX2_changeBonus_5 : decode cX2_changeBonus 5 = .ok (.iload_n 2, 1) := by decide +kernel
theorem dX2_changeBonus_6 : decode cX2_changeBonus 6 = .ok (.putfield 63, 3) := by decide +kernel
theorem dX2_changeBonus_9 : decode cX2_changeBonus 9 = .ok (.goto 8, 3) := by decide +kernel
theorem dX2_changeBonus_12 : decode cX2_changeBonus 12 = .ok (.aload_n 0, 1) := by decide +kernel
theorem dX2_changeBonus_13 : decode cX2_changeBonus 13 = .ok (.iload_n 2, 1) := by decide +kernel
theorem dX2_changeBonus_14 : decode cX2_changeBonus 14 = .ok (.putfield 66, 3) := by decide +kernel
theorem dX2_changeBonus_17 : decode cX2_changeBonus 17 = .ok (.return_, 1) := by decide +kernel
theorem dX2_latest_0 : decode cX2_latest 0 = .ok (.aload_n 0, 1) := by decide +kernel
theorem dX2_latest_1 : decode cX2_latest 1 = .ok (.getfield 60, 3) := by decide +kernel
theorem dX2_latest_4 : decode cX2_latest 4 = .ok (.ifCond .le 29, 3) := by decide +kernel
theorem dX2_latest_7 : decode cX2_latest 7 = .ok (.aload_n 0, 1) := by decide +kernel
theorem dX2_latest_8 : decode cX2_latest 8 = .ok (.getfield 60, 3) := by decide +kernel
theorem dX2_latest_11 : decode cX2_latest 11 = .ok (.bipush 60, 2) := by decide +kernel
theorem dX2_latest_13 : decode cX2_latest 13 = .ok (.if_icmp .gt 20, 3) := by decide +kernel
theorem dX2_latest_16 : decode cX2_latest 16 = .ok (.aload_n 0, 1) := by decide +kernel
theorem dX2_latest_17 : decode cX2_latest 17 = .ok (.getfield 26, 3) := by decide +kernel
theorem dX2_latest_20 : decode cX2_latest 20 = .ok (.aload_n 0, 1) := by decide +kernel
theorem dX2_latest_21 : decode cX2_latest 21 = .ok (.getfield 60, 3) := by decide +kernel
theorem dX2_latest_24 : decode cX2_latest 24 = .ok (.iconst 1, 1) := by decide +kernel
theorem dX2_latest_25 : decode cX2_latest 25 = .ok (.isub, 1) := by decide +kernel
theorem dX2_latest_26 : decode cX2_latest 26 = .ok (.aaload, 1) := by decide +kernel
theorem dX2_latest_27 : decode cX2_latest 27 = .ok (.getfield 80, 3) := by decide +kernel
theorem dX2_latest_30 : decode cX2_latest 30 = .ok (.goto 7, 3) := by decide +kernel
theorem dX2_latest_33 : decode cX2_latest 33 = .ok (.aload_n 0, 1) := by decide +kernel
theorem dX2_latest_34 : decode cX2_latest 34 = .ok (.getfield 33, 3) := by decide +kernel
theorem dX2_latest_37 : decode cX2_latest 37 = .ok (.areturn, 1) := by decide +kernel
theorem dX2_hasEnded_0 : decode cX2_hasEnded 0 = .ok (.aload_n 0, 1) := by decide +kernel
theorem dX2_hasEnded_1 : decode cX2_hasEnded 1 = .ok (.getfield 60, 3) := by decide +kernel
theorem dX2_hasEnded_4 : decode cX2_hasEnded 4 = .ok (.ifCond .le 37, 3) := by decide +kernel
theorem dX2_hasEnded_7 : decode cX2_hasEnded 7 = .ok (.aload_n 0, 1) := by decide +kernel
theorem dX2_hasEnded_8 : decode cX2_hasEnded 8 = .ok (.getfield 60, 3) := by decide +kernel
theorem dX2_hasEnded_11 : decode cX2_hasEnded 11 = .ok (.bipush 60, 2) := by decide +kernel
theorem dX2_hasEnded_13 : decode cX2_hasEnded 13 = .ok (.if_icmp .gt 28, 3) := by decide +kernel
theorem dX2_hasEnded_16 : decode cX2_hasEnded 16 = .ok (.aload_n 0, 1) := by decide +kernel
theorem dX2_hasEnded_17 : decode cX2_hasEnded 17 = .ok (.getfield 26, 3) := by decide +kernel
theorem dX2_hasEnded_20 : decode cX2_hasEnded 20 = .ok (.aload_n 0, 1) := by decide +kernel
theorem dX2_hasEnded_21 : decode cX2_hasEnded 21 = .ok (.getfield 60, 3) := by decide +kernel
theorem dX2_hasEnded_24 : decode cX2_hasEnded 24 = .ok (.iconst 1, 1) := by decide +kernel
theorem dX2_hasEnded_25 : decode cX2_hasEnded 25 = .ok (.isub, 1) := by decide +kernel
theorem dX2_hasEnded_26 : decode cX2_hasEnded 26 = .ok (.aaload, 1) := by decide +kernel
theorem dX2_hasEnded_27 : decode cX2_hasEnded 27 = .ok (.aload_n 0, 1) := by decide +kernel
theorem dX2_hasEnded_28 : decode cX2_hasEnded 28 = .ok (.getfield 60, 3) := by decide +kernel
theorem dX2_hasEnded_31 : decode cX2_hasEnded 31 = .ok (.invokevirtual 83, 3) := by decide +kernel
theorem dX2_hasEnded_34 : decode cX2_hasEnded 34 = .ok (.ifCond .eq 7, 3) := by decide +kernel
theorem dX2_hasEnded_37 : decode cX2_hasEnded 37 = .ok (.iconst 1, 1) := by decide +kernel
theorem dX2_hasEnded_38 : decode cX2_hasEnded 38 = .ok (.goto 4, 3) := by decide +kernel
theorem dX2_hasEnded_41 : decode cX2_hasEnded 41 = .ok (.iconst 0, 1) := by decide +kernel
theorem dX2_hasEnded_42 : decode cX2_hasEnded 42 = .ok (.ireturn, 1) := by decide +kernel
theorem dX2_score_0 : decode cX2_score 0 = .ok (.aload_n 0, 1) := by decide +kernel
theorem dX2_score_1 : decode cX2_score 1 = .ok (.invokevirtual 87, 3) := by decide +kernel
theorem dX2_score_4 : decode cX2_score 4 = .ok (.iload_n 1, 1) := by decide +kernel
theorem dX2_score_5 : decode cX2_score 5 = .ok (.invokevirtual 91, 3) := by decide +kernel
theorem dX2_score_8 : decode cX2_score 8 = .ok (.aload_n 0, 1) := by decide +kernel
theorem dX2_score_9 : decode cX2_score 9 = .ok (.iload_n 1, 1) := by decide +kernel
theorem dX2_score_10 : decode cX2_score 10 = .ok (.invokevirtual 94, 3) := by decide +kernel
theorem dX2_score_13 : decode cX2_score 13 = .ok (.iadd, 1) := by decide +kernel
theorem dX2_score_14 : decode cX2_score 14 = .ok (.ireturn, 1) := by decide +kernel
theorem dX2_lead_0 : decode cX2_lead 0 = .ok (.aload_n 1, 1) := by decide +kernel
theorem dX2_lead_1 : decode cX2_lead 1 = .ok (.invokevirtual 97, 3) := by decide +kernel
theorem dX2_lead_4 : decode cX2_lead 4 = .ok (.aload_n 0, 1) := by decide +kernel
theorem dX2_lead_5 : decode cX2_lead 5 = .ok (.getfield 63, 3) := by decide +kernel
theorem dX2_lead_8 : decode cX2_lead 8 = .ok (.iadd, 1) := by decide +kernel
theorem dX2_lead_9 : decode cX2_lead 9 = .ok (.aload_n 0, 1) := by decide +kernel
theorem dX2_lead_10 : decode cX2_lead 10 = .ok (.getfield 66, 3) := by decide +kernel
theorem dX2_lead_13 : decode cX2_lead 13 = .ok (.isub, 1) := by decide +kernel
theorem dX2_lead_14 : decode cX2_lead 14 = .ok (.ireturn, 1) := by decide +kernel
theorem dX2_stateAfterClash_0 : decode cX2_stateAfterClash 0 = .ok (.aload_n 0, 1) := by decide +kernel
theorem dX2_stateAfterClash_1 : decode cX2_stateAfterClash 1 = .ok (.aload_n 1, 1) := by decide +kernel
theorem dX2_stateAfterClash_2 : decode cX2_stateAfterClash 2 = .ok (.invokevirtual 101, 3) := by decide +kernel
theorem dX2_stateAfterClash_5 : decode cX2_stateAfterClash 5 = .ok (.istore_n 2, 1) := by decide +kernel
theorem dX2_stateAfterClash_6 : decode cX2_stateAfterClash 6 = .ok (.aload_n 0, 1) := by decide +kernel
theorem dX2_stateAfterClash_7 : decode cX2_stateAfterClash 7 = .ok (.getfield 20, 3) := by decide +kernel
theorem dX2_stateAfterClash_10 : decode cX2_stateAfterClash 10 = .ok (.iconst 1, 1) := by decide +kernel
theorem dX2_stateAfterClash_11 : decode cX2_stateAfterClash 11 = .ok (.if_icmp .ne 5, 3) := by decide +kernel
theorem dX2_stateAfterClash_14 : decode cX2_stateAfterClash 14 = .ok (.iconst 0, 1) := by decide +kernel
theorem dX2_stateAfterClash_15 : decode cX2_stateAfterClash 15 = .ok (.ireturn, 1) := by decide +kernel
theorem dX2_stateAfterClash_16 : decode cX2_stateAfterClash 16 = .ok (.aload_n 0, 1) := by decide +kernel
theorem dX2_stateAfterClash_17 : decode cX2_stateAfterClash 17 = .ok (.getfield 20, 3) := by decide +kernel
theorem dX2_stateAfterClash_20 : decode cX2_stateAfterClash 20 = .ok (.ifCond .eq 7, 3) := by decide +kernel
theorem dX2_stateAfterClash_23 : decode cX2_stateAfterClash 23 = .ok (.iload_n 2, 1) := by decide +kernel
theorem dX2_stateAfterClash_24 : decode cX2_stateAfterClash 24 = .ok (.ifCond .ne 5, 3) := by decide +kernel
theorem dX2_stateAfterClash_27 : decode cX2_stateAfterClash 27 = .ok (.iconst 5, 1) := by decide +kernel
theorem dX2_stateAfterClash_28 : decode cX2_stateAfterClash 28 = .ok (.ireturn, 1) := by decide +kernel
theorem dX2_stateAfterClash_29 : decode cX2_stateAfterClash 29 = .ok (.iload_n 2, 1) := by decide +kernel
theorem dX2_stateAfterClash_30 : decode cX2_stateAfterClash 30 = .ok (.ifCond .ge 7, 3) := by decide +kernel
theorem dX2_stateAfterClash_33 : decode cX2_stateAfterClash 33 = .ok (.iconst 1, 1) := by decide +kernel
theorem dX2_stateAfterClash_34 : decode cX2_stateAfterClash 34 = .ok (.goto 4, 3) := by decide +kernel
theorem dX2_stateAfterClash_37 : decode cX2_stateAfterClash 37 = .ok (.iconst 2, 1) := by decide +kernel
theorem dX2_stateAfterClash_38 : decode cX2_stateAfterClash 38 = .ok (.ireturn, 1) := by decide +kernel
theorem dX2_addRound_0 : decode cX2_addRound 0 = .ok (.aload_n 0, 1) := by decide +kernel
theorem dX2_addRound_1 : decode cX2_addRound 1 = .ok (.getfield 60, 3) := by decide +kernel
theorem dX2_addRound_4 : decode cX2_addRound 4 = .ok (.ifCond .lt 12, 3) := by decide +kernel
theorem dX2_addRound_7 : decode cX2_addRound 7 = .ok (.aload_n 0, 1) := by decide +kernel
theorem dX2_addRound_8 : decode cX2_addRound 8 = .ok (.getfield 60, 3) := by decide +kernel
theorem dX2_addRound_11 : decode cX2_addRound 11 = .ok (.bipush 60, 2) := by decide +kernel
theorem dX2_addRound_13 : decode cX2_addRound 13 = .ok (.if_icmp .lt 5, 3) := by decide +kernel
theorem dX2_addRound_16 : decode cX2_addRound 16 = .ok (.iconst 0, 1) := by decide +kernel
theorem dX2_addRound_17 : decode cX2_addRound 17 = .ok (.ireturn, 1) := by decide +kernel
theorem dX2_addRound_18 : decode cX2_addRound 18 = .ok (.aload_n 0, 1) := by decide +kernel
theorem dX2_addRound_19 : decode cX2_addRound 19 = .ok (.getfield 26, 3) := by decide +kernel
theorem dX2_addRound_22 : decode cX2_addRound 22 = .ok (.aload_n 0, 1) := by decide +kernel
theorem dX2_addRound_23 : decode cX2_addRound 23 = .ok (.getfield 60, 3) := by decide +kernel
theorem dX2_addRound_26 : decode cX2_addRound 26 = .ok (.aaload, 1) := by decide +kernel
theorem dX2_addRound_27 : decode cX2_addRound 27 = .ok (.astore_n 3, 1) := by decide +kernel
theorem dX2_addRound_28 : decode cX2_addRound 28 = .ok (.aload_n 0, 1) := by decide +kernel
theorem dX2_addRound_29 : decode cX2_addRound 29 = .ok (.invokevirtual 87, 3) := by decide +kernel
theorem dX2_addRound_32 : decode cX2_addRound 32 = .ok (.astore 4, 2) := by decide +kernel
theorem dX2_addRound_34 : decode cX2_addRound 34 = .ok (.aload_n 3, 1) := by decide +kernel
theorem dX2_addRound_35 : decode cX2_addRound 35 = .ok (.aload_n 0, 1) := by decide +kernel
theorem dX2_addRound_36 : decode cX2_addRound 36 = .ok (.getfield 14, 3) := by decide +kernel
theorem dX2_addRound_39 : decode cX2_addRound 39 = .ok (.aload 4, 2) := by decide +kernel
theorem dX2_addRound_41 : decode cX2_addRound 41 = .ok (.iload_n 1, 1) := by decide +kernel
theorem dX2_addRound_42 : decode cX2_addRound 42 = .ok (.iload_n 2, 1) := by decide +kernel
theorem dX2_addRound_43 : decode cX2_addRound 43 = .ok (.aload_n 0, 1) := by decide +kernel
theorem dX2_addRound_44 : decode cX2_addRound 44 = .ok (.aload 4, 2) := by decide +kernel
theorem dX2_addRound_46 : decode cX2_addRound 46 = .ok (.invokevirtual 104, 3) := by decide +kernel
theorem dX2_addRound_49 : decode cX2_addRound 49 = .ok (.invokevirtual 107, 3) := by decide +kernel
theorem dX2_addRound_52 : decode cX2_addRound 52 = .ok (.aload_n 0, 1) := by decide +kernel
theorem dX2_addRound_53 : decode cX2_addRound 53 = .ok (.dup, 1) := by decide +kernel
theorem dX2_addRound_54 : decode cX2_addRound 54 = .ok (.getfield 60, 3) := by decide +kernel
theorem dX2_addRound_57 : decode cX2_addRound 57 = .ok (.iconst 1, 1) := by decide +kernel
theorem dX2_addRound_58 : decode cX2_addRound 58 = .ok (.iadd, 1) := by decide +kernel
theorem dX2_addRound_59 : decode cX2_addRound 59 = .ok (.putfield 60, 3) := by decide +kernel
theorem dX2_addRound_62 : decode cX2_addRound 62 = .ok (.aload_n 3, 1) := by decide +kernel
theorem dX2_addRound_63 : decode cX2_addRound 63 = .ok (.aload_n 0, 1) := by decide +kernel
theorem dX2_addRound_64 : decode cX2_addRound 64 = .ok (.iconst 0, 1) := by decide +kernel
theorem dX2_addRound_65 : decode cX2_addRound 65 = .ok (.invokevirtual 111, 3) := by decide +kernel
theorem dX2_addRound_68 : decode cX2_addRound 68 = .ok (.putfield 114, 3) := by decide +kernel
theorem dX2_addRound_71 : decode cX2_addRound 71 = .ok (.aload_n 3, 1) := by decide +kernel
theorem dX2_addRound_72 : decode cX2_addRound 72 = .ok (.aload_n 0, 1) := by decide +kernel
theorem dX2_addRound_73 : decode cX2_addRound 73 = .ok (.iconst 1, 1) := by decide +kernel
theorem dX2_addRound_74 : decode cX2_addRound 74 = .ok (.invokevirtual 111, 3) := by decide +kernel
theorem dX2_addRound_77 : decode cX2_addRound 77 = .ok (.putfield 117, 3) := by decide +kernel
theorem dX2_addRound_80 : decode cX2_addRound 80 = .ok (.aload_n 3, 1) := by decide +kernel
theorem dX2_addRound_81 : decode cX2_addRound 81 = .ok (.invokevirtual 120, 3) := by decide +kernel
theorem dX2_addRound_84 : decode cX2_addRound 84 = .ok (.ireturn, 1) := by decide +kernel
theorem dX2_clashes_0 : decode cX2_clashes 0 = .ok (.iconst 0, 1) := by decide +kernel
theorem dX2_clashes_1 : decode cX2_clashes 1 = .ok (.istore_n 1, 1) := by decide +kernel
theorem dX2_clashes_2 : decode cX2_clashes 2 = .ok (.iconst 0, 1) := by decide +kernel
theorem dX2_clashes_3 : decode cX2_clashes 3 = .ok (.istore_n 2, 1) := by decide +kernel
theorem dX2_clashes_4 : decode cX2_clashes 4 = .ok (.iload_n 2, 1) := by decide +kernel
theorem dX2_clashes_5 : decode cX2_clashes 5 = .ok (.aload_n 0, 1) := by decide +kernel
theorem dX2_clashes_6 : decode cX2_clashes 6 = .ok (.getfield 60, 3) := by decide +kernel
theorem dX2_clashes_9 : decode cX2_clashes 9 = .ok (.if_icmp .ge 35, 3) := by decide +kernel
theorem dX2_clashes_12 : decode cX2_clashes 12 = .ok (.iload_n 2, 1) := by decide +kernel
theorem dX2_clashes_13 : decode cX2_clashes 13 = .ok (.bipush 60, 2) := by decide +kernel
theorem dX2_clashes_15 : decode cX2_clashes 15 = .ok (.if_icmp .ge 29, 3) := by decide +kernel
theorem dX2_clashes_18 : decode cX2_clashes 18 = .ok (.iload_n 1, 1) := by decide +kernel
theorem dX2_clashes_19 : decode cX2_clashes 19 = .ok (.aload_n 0, 1) := by decide +kernel
theorem dX2_clashes_20 : decode cX2_clashes 20 = .ok (.getfield 26, 3) := by decide +kernel
theorem dX2_clashes_23 : decode cX2_clashes 23 = .ok (.iload_n 2, 1) := by decide +kernel
theorem dX2_clashes_24 : decode cX2_clashes 24 = .ok (.aaload, 1) := by decide +kernel
theorem dX2_clashes_25 : decode cX2_clashes 25 = .ok (.invokevirtual 123, 3) := by decide +kernel
theorem dX2_clashes_28 : decode cX2_clashes 28 = .ok (.ifCond .eq 7, 3) := by decide +kernel
theorem dX2_clashes_31 : decode cX2_clashes 31 = .ok (.iconst 1, 1) := by decide +kernel
theorem dX2_clashes_32 : decode cX2_clashes 32 = .ok (.goto 4, 3) := by decide +kernel
theorem dX2_clashes_35 : decode cX2_clashes 35 = .ok (.iconst 0, 1) := by decide +kernel
theorem dX2_clashes_36 : decode cX2_clashes 36 = .ok (.iadd, 1) := by decide +kernel
theorem dX2_clashes_37 : decode cX2_clashes 37 = .ok (.istore_n 1, 1) := by decide +kernel
theorem dX2_clashes_38 : decode cX2_clashes 38 = .ok (.iinc 2 1, 3) := by decide +kernel
theorem dX2_clashes_41 : decode cX2_clashes 41 = .ok (.goto (-37), 3) := by decide +kernel
theorem dX2_clashes_44 : decode cX2_clashes 44 = .ok (.iload_n 1, 1) := by decide +kernel
theorem dX2_clashes_45 : decode cX2_clashes 45 = .ok (.ireturn, 1) := by decide +kernel
theorem dX2_waves_0 : decode cX2_waves 0 = .ok (.iconst 0, 1) := by decide +kernel
theorem dX2_waves_1 : decode cX2_waves 1 = .ok (.istore_n 1, 1) := by decide +kernel
theorem dX2_waves_2 : decode cX2_waves 2 = .ok (.iconst 0, 1) := by decide +kernel
theorem dX2_waves_3 : decode cX2_waves 3 = .ok (.istore_n 2, 1) := by decide +kernel
theorem dX2_waves_4 : decode cX2_waves 4 = .ok (.iload_n 2, 1) := by decide +kernel
theorem dX2_waves_5 : decode cX2_waves 5 = .ok (.aload_n 0, 1) := by decide +kernel
theorem dX2_waves_6 : decode cX2_waves 6 = .ok (.getfield 60, 3) := by decide +kernel
theorem dX2_waves_9 : decode cX2_waves 9 = .ok (.if_icmp .ge 27, 3) := by decide +kernel
theorem dX2_waves_12 : decode cX2_waves 12 = .ok (.iload_n 2, 1) := by decide +kernel
theorem dX2_waves_13 : decode cX2_waves 13 = .ok (.bipush 60, 2) := by decide +kernel
theorem dX2_waves_15 : decode cX2_waves 15 = .ok (.if_icmp .ge 21, 3) := by decide +kernel
theorem dX2_waves_18 : decode cX2_waves 18 = .ok (.iload_n 1, 1) := by decide +kernel
theorem dX2_waves_19 : decode cX2_waves 19 = .ok (.aload_n 0, 1) := by decide +kernel
theorem dX2_waves_20 : decode cX2_waves 20 = .ok (.getfield 26, 3) := by decide +kernel
theorem dX2_waves_23 : decode cX2_waves 23 = .ok (.iload_n 2, 1) := by decide +kernel
theorem dX2_waves_24 : decode cX2_waves 24 = .ok (.aaload, 1) := by decide +kernel
theorem dX2_waves_25 : decode cX2_waves 25 = .ok (.invokevirtual 127, 3) := by decide +kernel
theorem dX2_waves_28 : decode cX2_waves 28 = .ok (.iadd, 1) := by decide +kernel
theorem dX2_waves_29 : decode cX2_waves 29 = .ok (.istore_n 1, 1) := by decide +kernel
theorem dX2_waves_30 : decode cX2_waves 30 = .ok (.iinc 2 1, 3) := by decide +kernel
theorem dX2_waves_33 : decode cX2_waves 33 = .ok (.goto (-29), 3) := by decide +kernel
theorem dX2_waves_36 : decode cX2_waves 36 = .ok (.iload_n 1, 1) := by decide +kernel
theorem dX2_waves_37 : decode cX2_waves 37 = .ok (.ireturn, 1) := by decide +kernel
theorem dX2_passes_0 : decode cX2_passes 0 = .ok (.iconst 0, 1) := by decide +kernel
theorem dX2_passes_1 : decode cX2_passes 1 = .ok (.istore_n 2, 1) := by decide +kernel
theorem dX2_passes_2 : decode cX2_passes 2 = .ok (.iconst 0, 1) := by decide +kernel
theorem dX2_passes_3 : decode cX2_passes 3 = .ok (.istore_n 3, 1) := by decide +kernel
theorem dX2_passes_4 : decode cX2_passes 4 = .ok (.iload_n 3, 1) := by decide +kernel
theorem dX2_passes_5 : decode cX2_passes 5 = .ok (.aload_n 0, 1) := by decide +kernel
theorem dX2_passes_6 : decode cX2_passes 6 = .ok (.getfield 60, 3) := by decide +kernel
theorem dX2_passes_9 : decode cX2_passes 9 = .ok (.if_icmp .ge 37, 3) := by decide +kernel
theorem dX2_passes_12 : decode cX2_passes 12 = .ok (.iload_n 3, 1) := by decide +kernel
theorem dX2_passes_13 : decode cX2_passes 13 = .ok (.bipush 60, 2) := by decide +kernel
theorem dX2_passes_15 : decode cX2_passes 15 = .ok (.if_icmp .ge 31, 3) := by decide +kernel
theorem dX2_passes_18 : decode cX2_passes 18 = .ok (.iload_n 2, 1) := by decide +kernel
theorem dX2_passes_19 : decode cX2_passes 19 = .ok (.aload_n 0, 1) := by decide +kernel
theorem dX2_passes_20 : decode cX2_passes 20 = .ok (.getfield 26, 3) := by decide +kernel
theorem dX2_passes_23 : decode cX2_passes 23 = .ok (.iload_n 3, 1) := by decide +kernel
theorem dX2_passes_24 : decode cX2_passes 24 = .ok (.aaload, 1) := by decide +kernel
theorem dX2_passes_25 : decode cX2_passes 25 = .ok (.iload_n 1, 1) := by decide +kernel
theorem dX2_passes_26 : decode cX2_passes 26 = .ok (.invokevirtual 130, 3) := by decide +kernel
theorem dX2_passes_29 : decode cX2_passes 29 = .ok (.iconst (-1), 1) := by decide +kernel
theorem dX2_passes_30 : decode cX2_passes 30 = .ok (.if_icmp .ne 7, 3) := by decide +kernel
theorem dX2_passes_33 : decode cX2_passes 33 = .ok (.iconst 1, 1) := by decide +kernel
theorem dX2_passes_34 : decode cX2_passes 34 = .ok (.goto 4, 3) := by decide +kernel
theorem dX2_passes_37 : decode cX2_passes 37 = .ok (.iconst 0, 1) := by decide +kernel
theorem dX2_passes_38 : decode cX2_passes 38 = .ok (.iadd, 1) := by decide +kernel
theorem dX2_passes_39 : decode cX2_passes 39 = .ok (.istore_n 2, 1) := by decide +kernel
theorem dX2_passes_40 : decode cX2_passes 40 = .ok (.iinc 3 1, 3) := by decide +kernel
theorem dX2_passes_43 : decode cX2_passes 43 = .ok (.goto (-39), 3) := by decide +kernel
theorem dX2_passes_46 : decode cX2_passes 46 = .ok (.iload_n 2, 1) := by decide +kernel
theorem dX2_passes_47 : decode cX2_passes 47 = .ok (.ireturn, 1) := by decide +kernel
theorem dX2_roundThatChanged_0 : decode cX2_roundThatChanged 0 = .ok (.iconst (-1), 1) := by decide +kernel
theorem dX2_roundThatChanged_1 : decode cX2_roundThatChanged 1 = .ok (.istore_n 2, 1) := by decide +kernel
theorem dX2_roundThatChanged_2 : decode cX2_roundThatChanged 2 = .ok (.iconst 0, 1) := by decide +kernel
theorem dX2_roundThatChanged_3 : decode cX2_roundThatChanged 3 = .ok (.istore_n 3, 1) := by decide +kernel
theorem dX2_roundThatChanged_4 : decode cX2_roundThatChanged 4 = .ok (.iload_n 3, 1) := by decide +kernel
theorem dX2_roundThatChanged_5 : decode cX2_roundThatChanged 5 = .ok (.aload_n 0, 1) := by decide +kernel
theorem dX2_roundThatChanged_6 : decode cX2_roundThatChanged 6 = .ok (.getfield 60, 3) := by decide +kernel
theorem dX2_roundThatChanged_9 : decode cX2_roundThatChanged 9 = .ok (.if_icmp .ge 30, 3) := by decide +kernel
theorem dX2_roundThatChanged_12 : decode cX2_roundThatChanged 12 = .ok (.iload_n 3, 1) := by decide +kernel
theorem dX2_roundThatChanged_13 : decode cX2_roundThatChanged 13 = .ok (.bipush 60, 2) := by decide +kernel
theorem dX2_roundThatChanged_15 : decode cX2_roundThatChanged 15 = .ok (.if_icmp .ge 24, 3) := by decide +kernel
theorem dX2_roundThatChanged_18 : decode cX2_roundThatChanged 18 = .ok (.aload_n 0, 1) := by decide +kernel
theorem dX2_roundThatChanged_19 : decode cX2_roundThatChanged 19 = .ok (.getfield 26, 3) := by decide +kernel
theorem dX2_roundThatChanged_22 : decode cX2_roundThatChanged 22 = .ok (.iload_n 3, 1) := by decide +kernel
theorem dX2_roundThatChanged_23 : decode cX2_roundThatChanged 23 = .ok (.aaload, 1) := by decide +kernel
theorem dX2_roundThatChanged_24 : decode cX2_roundThatChanged 24 = .ok (.iload_n 1, 1) := by decide +kernel
theorem dX2_roundThatChanged_25 : decode cX2_roundThatChanged 25 = .ok (.invokevirtual 133, 3) := by decide +kernel
theorem dX2_roundThatChanged_28 : decode cX2_roundThatChanged 28 = .ok (.ifCond .eq 5, 3) := by decide +kernel
theorem dX2_roundThatChanged_31 : decode cX2_roundThatChanged 31 = .ok (.iload_n 3, 1) := by decide +kernel
theorem dX2_roundThatChanged_32 : decode cX2_roundThatChanged 32 = .ok (.istore_n 2, 1) := by decide +kernel
theorem dX2_roundThatChanged_33 : decode cX2_roundThatChanged 33 = .ok (.iinc 3 1, 3) := by decide +kernel
theorem dX2_roundThatChanged_36 : decode cX2_roundThatChanged 36 = .ok (.goto (-32), 3) := by decide +kernel
theorem dX2_roundThatChanged_39 : decode cX2_roundThatChanged 39 = .ok (.iload_n 2, 1) := by decide +kernel
theorem dX2_roundThatChanged_40 : decode cX2_roundThatChanged 40 = .ok (.ireturn, 1) := by decide +kernel
theorem dX2_waveThatChanged_0 : decode cX2_waveThatChanged 0 = .ok (.aload_n 0, 1) := by decide +kernel
theorem dX2_waveThatChanged_1 : decode cX2_waveThatChanged 1 = .ok (.iload_n 1, 1) := by decide +kernel
theorem dX2_waveThatChanged_2 : decode cX2_waveThatChanged 2 = .ok (.invokevirtual 136, 3) := by decide +kernel
theorem dX2_waveThatChanged_5 : decode cX2_waveThatChanged 5 = .ok (.istore_n 2, 1) := by decide +kernel
theorem dX2_waveThatChanged_6 : decode cX2_waveThatChanged 6 = .ok (.iload_n 2, 1) := by decide +kernel
theorem dX2_waveThatChanged_7 : decode cX2_waveThatChanged 7 = .ok (.ifCond .lt 22, 3) := by decide +kernel
theorem dX2_waveThatChanged_10 : decode cX2_waveThatChanged 10 = .ok (.iload_n 2, 1) := by decide +kernel
theorem dX2_waveThatChanged_11 : decode cX2_waveThatChanged 11 = .ok (.bipush 60, 2) := by decide +kernel
theorem dX2_waveThatChanged_13 : decode cX2_waveThatChanged 13 = .ok (.if_icmp .ge 16, 3) := by decide +kernel
theorem dX2_waveThatChanged_16 : decode cX2_waveThatChanged 16 = .ok (.aload_n 0, 1) := by decide +kernel
theorem dX2_waveThatChanged_17 : decode cX2_waveThatChanged 17 = .ok (.getfield 26, 3) := by decide +kernel
theorem dX2_waveThatChanged_20 : decode cX2_waveThatChanged 20 = .ok (.iload_n 2, 1) := by decide +kernel
theorem dX2_waveThatChanged_21 : decode cX2_waveThatChanged 21 = .ok (.aaload, 1) := by decide +kernel
theorem dX2_waveThatChanged_22 : decode cX2_waveThatChanged 22 = .ok (.iload_n 1, 1) := by decide +kernel
theorem dX2_waveThatChanged_23 : decode cX2_waveThatChanged 23 = .ok (.invokevirtual 139, 3) := by decide +kernel
theorem dX2_waveThatChanged_26 : decode cX2_waveThatChanged 26 = .ok (.goto 4, 3) := by decide +kernel
theorem dX2_waveThatChanged_29 : decode cX2_waveThatChanged 29 = .ok (.iconst (-1), 1) := by decide +kernel
theorem dX2_waveThatChanged_30 : decode cX2_waveThatChanged 30 = .ok (.ireturn, 1) := by decide +kernel
theorem dX2_roundOfGreatestChange_0 : decode cX2_roundOfGreatestChange 0 = .ok (.iconst 0, 1) := by decide +kernel
theorem dX2_roundOfGreatestChange_1 : decode cX2_roundOfGreatestChange 1 = .ok (.istore_n 1, 1) := by decide +kernel
theorem dX2_roundOfGreatestChange_2 : decode cX2_roundOfGreatestChange 2 = .ok (.iconst (-1), 1) := by decide +kernel
theorem dX2_roundOfGreatestChange_3 : decode cX2_roundOfGreatestChange 3 = .ok (.istore_n 2, 1) := by decide +kernel
theorem dX2_roundOfGreatestChange_4 : decode cX2_roundOfGreatestChange 4 = .ok (.aload_n 0, 1) := by decide +kernel
theorem dX2_roundOfGreatestChange_5 : decode cX2_roundOfGreatestChange 5 = .ok (.getfield 63, 3) := by decide +kernel
theorem dX2_roundOfGreatestChange_8 : decode cX2_roundOfGreatestChange 8 = .ok (.aload_n 0, 1) := by decide +kernel
theorem dX2_roundOfGreatestChange_9 : decode cX2_roundOfGreatestChange 9 = .ok (.getfield 66, 3) := by decide +kernel
theorem dX2_roundOfGreatestChange_12 : decode cX2_roundOfGreatestChange 12 = .ok (.isub, 1) := by decide +kernel
theorem dX2_roundOfGreatestChange_13 : decode cX2_roundOfGreatestChange 13 = .ok (.istore_n 3, 1) := by decide +kernel
theorem dX2_roundOfGreatestChange_14 : decode cX2_roundOfGreatestChange 14 = .ok (.iconst 0, 1) := by decide +kernel
theorem dX2_roundOfGreatestChange_15 : decode cX2_roundOfGreatestChange 15 = .ok (.istore 4, 2) := by decide +kernel
theorem dX2_roundOfGreatestChange_17 : decode cX2_roundOfGreatestChange 17 = .ok (.iload 4, 2) := by decide +kernel
theorem dX2_roundOfGreatestChange_19 : decode cX2_roundOfGreatestChange 19 = .ok (.aload_n 0, 1) := by decide +kernel
theorem dX2_roundOfGreatestChange_20 : decode cX2_roundOfGreatestChange 20 = .ok (.getfield 60, 3) := by decide +kernel
theorem dX2_roundOfGreatestChange_23 : decode cX2_roundOfGreatestChange 23 = .ok (.if_icmp .ge 63, 3) := by decide +kernel
theorem dX2_roundOfGreatestChange_26 : decode cX2_roundOfGreatestChange 26 = .ok (.iload 4, 2) := by decide +kernel
theorem dX2_roundOfGreatestChange_28 : decode cX2_roundOfGreatestChange 28 = .ok (.bipush 60, 2) := by decide +kernel
theorem dX2_roundOfGreatestChange_30 : decode cX2_roundOfGreatestChange 30 = .ok (.if_icmp .ge 56, 3) := by decide +kernel
theorem dX2_roundOfGreatestChange_33 : decode cX2_roundOfGreatestChange 33 = .ok (.aload_n 0, 1) := by decide +kernel
theorem dX2_roundOfGreatestChange_34 : decode cX2_roundOfGreatestChange 34 = .ok (.getfield 26, 3) := by decide +kernel
theorem dX2_roundOfGreatestChange_37 : decode cX2_roundOfGreatestChange 37 = .ok (.iload 4, 2) := by decide +kernel
theorem dX2_roundOfGreatestChange_39 : decode cX2_roundOfGreatestChange 39 = .ok (.aaload, 1) := by decide +kernel
theorem dX2_roundOfGreatestChange_40 : decode cX2_roundOfGreatestChange 40 = .ok (.getfield 114, 3) := by decide +kernel
theorem dX2_roundOfGreatestChange_43 : decode cX2_roundOfGreatestChange 43 = .ok (.aload_n 0, 1) := by decide +kernel
theorem dX2_roundOfGreatestChange_44 : decode cX2_roundOfGreatestChange 44 = .ok (.getfield 26, 3) := by decide +kernel
theorem dX2_roundOfGreatestChange_47 : decode cX2_roundOfGreatestChange 47 = .ok (.iload 4, 2) := by decide +kernel
theorem dX2_roundOfGreatestChange_49 : decode cX2_roundOfGreatestChange 49 = .ok (.aaload, 1) := by decide +kernel
theorem dX2_roundOfGreatestChange_50 : decode cX2_roundOfGreatestChange 50 = .ok (.getfield 117, 3) := by decide +kernel
theorem dX2_roundOfGreatestChange_53 : decode cX2_roundOfGreatestChange 53 = .ok (.isub, 1) := by decide +kernel
theorem dX2_roundOfGreatestChange_54 : decode cX2_roundOfGreatestChange 54 = .ok (.istore 5, 2) := by decide +kernel
theorem dX2_roundOfGreatestChange_56 : decode cX2_roundOfGreatestChange 56 = .ok (.iload 5, 2) := by decide +kernel
theorem dX2_roundOfGreatestChange_58 : decode cX2_roundOfGreatestChange 58 = .ok (.iload_n 3, 1) := by decide +kernel
theorem dX2_roundOfGreatestChange_59 : decode cX2_roundOfGreatestChange 59 = .ok (.isub, 1) := by decide +kernel
theorem dX2_roundOfGreatestChange_60 : decode cX2_roundOfGreatestChange 60 = .ok (.invokestatic 142, 3) := by decide +kernel
theorem dX2_roundOfGreatestChange_63 : decode cX2_roundOfGreatestChange 63 = .ok (.istore 6, 2) := by decide +kernel
theorem dX2_roundOfGreatestChange_65 : decode cX2_roundOfGreatestChange 65 = .ok (.iload 6, 2) := by decide +kernel
theorem dX2_roundOfGreatestChange_67 : decode cX2_roundOfGreatestChange 67 = .ok (.iload_n 2, 1) := by decide +kernel
theorem dX2_roundOfGreatestChange_68 : decode cX2_roundOfGreatestChange 68 = .ok (.if_icmp .le 9, 3) := by decide +kernel
theorem dX2_roundOfGreatestChange_71 : decode cX2_roundOfGreatestChange 71 = .ok (.iload 6, 2) := by decide +kernel
theorem dX2_roundOfGreatestChange_73 : decode cX2_roundOfGreatestChange 73 = .ok (.istore_n 2, 1) := by decide +kernel
theorem dX2_roundOfGreatestChange_74 : decode cX2_roundOfGreatestChange 74 = .ok (.iload 4, 2) := by decide +kernel
theorem dX2_roundOfGreatestChange_76 : decode cX2_roundOfGreatestChange 76 = .ok (.istore_n 1, 1) := by decide +kernel
theorem dX2_roundOfGreatestChange_77 : decode cX2_roundOfGreatestChange 77 = .ok (.iload 5, 2) := by decide +kernel
theorem dX2_roundOfGreatestChange_79 : decode cX2_roundOfGreatestChange 79 = .ok (.istore_n 3, 1) := by decide +kernel
theorem dX2_roundOfGreatestChange_80 : decode cX2_roundOfGreatestChange 80 = .ok (.iinc 4 1, 3) := by decide +kernel
theorem dX2_roundOfGreatestChange_83 : decode cX2_roundOfGreatestChange 83 = .ok (.goto (-66), 3) := by decide +kernel
theorem dX2_roundOfGreatestChange_86 : decode cX2_roundOfGreatestChange 86 = .ok (.iload_n 1, 1) := by decide +kernel
theorem dX2_roundOfGreatestChange_87 : decode cX2_roundOfGreatestChange 87 = .ok (.ireturn, 1) := by decide +kernel
theorem dX3_init_0 : decode cX3_init 0 = .ok (.aload_n 0, 1) := by decide +kernel
theorem dX3_init_1 : decode cX3_init 1 = .ok (.invokespecial 3, 3) := by decide +kernel
theorem dX3_init_4 : decode cX3_init 4 = .ok (.aload_n 0, 1) := by decide +kernel
theorem dX3_init_5 : decode cX3_init 5 = .ok (.bipush 80, 2) := by decide +kernel
theorem dX3_init_7 : decode cX3_init 7 = .ok (.newarray .char, 2) := by decide +kernel
theorem dX3_init_9 : decode cX3_init 9 = .ok (.putfield 9, 3) := by decide +kernel
theorem dX3_init_12 : decode cX3_init 12 = .ok (.aload_n 0, 1) := by decide +kernel
theorem dX3_init_13 : decode cX3_init 13 = .ok (.bipush 80, 2) := by decide +kernel
theorem dX3_init_15 : decode cX3_init 15 = .ok (.newarray .int, 2) := by decide +kernel
theorem dX3_init_17 : decode cX3_init 17 = .ok (.putfield 15, 3) := by decide +kernel
theorem dX3_init_20 : decode cX3_init 20 = .ok (.return_, 1) := by decide +kernel
theorem dX3_append_0 : decode cX3_append 0 = .ok (.aload_n 0, 1) := by decide +kernel
theorem dX3_append_1 : decode cX3_append 1 = .ok (.getfield 19, 3) := by decide +kernel
theorem dX3_append_4 : decode cX3_append 4 = .ok (.ifCond .lt 12, 3) := by decide +kernel
theorem dX3_append_7 : decode cX3_append 7 = .ok (.aload_n 0, 1) := by decide +kernel
theorem dX3_append_8 : decode cX3_append 8 = .ok (.getfield 19, 3) := by decide +kernel
theorem dX3_append_11 : decode cX3_append 11 = .ok (.bipush 80, 2) := by decide +kernel
theorem dX3_append_13 : decode cX3_append 13 = .ok (.if_icmp .lt 5, 3) := by decide +kernel
theorem dX3_append_16 : decode cX3_append 16 = .ok (.iconst 0, 1) := by decide +kernel
theorem dX3_append_17 : decode cX3_append 17 = .ok (.ireturn, 1) := by decide +kernel
theorem dX3_append_18 : decode cX3_append 18 = .ok (.aload_n 0, 1) := by decide +kernel
theorem dX3_append_19 : decode cX3_append 19 = .ok (.getfield 9, 3) := by decide +kernel
theorem dX3_append_22 : decode cX3_append 22 = .ok (.aload_n 0, 1) := by decide +kernel
theorem dX3_append_23 : decode cX3_append 23 = .ok (.getfield 19, 3) := by decide +kernel
theorem dX3_append_26 : decode cX3_append 26 = .ok (.iload_n 1, 1) := by decide +kernel
theorem dX3_append_27 : decode cX3_append 27 = .ok (.castore, 1) := by decide +kernel
theorem dX3_append_28 : decode cX3_append 28 = .ok (.aload_n 0, 1) := by decide +kernel
theorem dX3_append_29 : decode cX3_append 29 = .ok (.dup, 1) := by decide +kernel
theorem dX3_append_30 : decode cX3_append 30 = .ok (.getfield 19, 3) := by decide +kernel
theorem dX3_append_33 : decode cX3_append 33 = .ok (.iconst 1, 1) := by decide +kernel
theorem dX3_append_34 : decode cX3_append 34 = .ok (.iadd, 1) := by decide +kernel
theorem dX3_append_35 : decode cX3_append 35 = .ok (.putfield 19, 3) := by decide +kernel
theorem dX3_append_38 : decode cX3_append 38 = .ok (.iconst 1, 1) := by decide +kernel
theorem dX3_append_39 : decode cX3_append 39 = .ok (.ireturn, 1) := by decide +kernel
theorem dX3_choice_0 : decode cX3_choice 0 = .ok (.iload_n 1, 1) := by decide +kernel
theorem dX3_choice_1 : decode cX3_choice 1 = .ok (.ifCond .lt 18, 3) := by decide +kernel
theorem dX3_choice_4 : decode cX3_choice 4 = .ok (.iload_n 1, 1) := by decide +kernel
theorem dX3_choice_5 : decode cX3_choice 5 = .ok (.bipush 80, 2) := by decide +kernel
theorem dX3_choice_7 : decode cX3_choice 7 = .ok (.if_icmp .ge 12, 3) := by decide +kernel
theorem dX3_choice_10 : decode cX3_choice 10 = .ok (.aload_n 0, 1) := by decide +kernel
theorem dX3_choice_11 : decode cX3_choice 11 = .ok (.getfield 15, 3) := by decide +kernel
theorem dX3_choice_14 : decode cX3_choice 14 = .ok (.iload_n 1, 1) := by decide +kernel
theorem dX3_choice_15 : decode cX3_choice 15 = .ok (.iaload, 1) := by decide +kernel
theorem dX3_choice_16 : decode cX3_choice 16 = .ok (.goto 4, 3) := by decide +kernel
theorem dX3_choice_19 : decode cX3_choice 19 = .ok (.iconst (-1), 1) := by decide +kernel
theorem dX3_choice_20 : decode cX3_choice 20 = .ok (.ireturn, 1) := by decide +kernel
theorem dX3_parse_0 : decode cX3_parse 0 = .ok (.aload_n 0, 1) := by decide +kernel
theorem dX3_parse_1 : decode cX3_parse 1 = .ok (.iconst 0, 1) := by decide +kernel
theorem dX3_parse_2 : decode cX3_parse 2 = .ok (.putfield 23, 3) := by decide +kernel
theorem dX3_parse_5 : decode cX3_parse 5 = .ok (.iconst 0, 1) := by decide +kernel
theorem dX3_parse_6 : decode cX3_parse 6 = .ok (.istore_n 2, 1) := by decide +kernel
theorem dX3_parse_7 : decode cX3_parse 7 = .ok (.iconst 0, 1) := by decide +kernel
theorem dX3_parse_8 : decode cX3_parse 8 = .ok (.istore_n 3, 1) := by decide +kernel
theorem dX3_parse_9 : decode cX3_parse 9 = .ok (.iconst 0, 1) := by decide +kernel
theorem dX3_parse_10 : decode cX3_parse 10 = .ok (.istore 4, 2) := by decide +kernel
theorem dX3_parse_12 : decode cX3_parse 12 = .ok (.iconst 0, 1) := by decide +kernel
theorem dX3_parse_13 : decode cX3_parse 13 = .ok (.istore 5, 2) := by decide +kernel
theorem dX3_parse_15 : decode cX3_parse 15 = .ok (.iload 5, 2) := by decide +kernel
theorem dX3_parse_17 : decode cX3_parse 17 = .ok (.aload_n 0, 1) := by decide +kernel
theorem dX3_parse_18 : decode cX3_parse 18 = .ok (.getfield 19, 3) := by decide +kernel
theorem dX3_parse_21 : decode cX3_parse 21 = .ok (.if_icmp .ge 136, 3) := by decide +kernel
theorem dX3_parse_24 : decode cX3_parse 24 = .ok (.iload 5, 2) := by decide +kernel
theorem dX3_parse_26 : decode cX3_parse 26 = .ok (.bipush 80, 2) := by decide +kernel
theorem dX3_parse_28 : decode cX3_parse 28 = .ok (.if_icmp .ge 129, 3) := by decide +kernel
theorem dX3_parse_31 : decode cX3_parse 31 = .ok (.aload_n 0, 1) := by decide +kernel
theorem dX3_parse_32 : decode cX3_parse 32 = .ok (.getfield 9, 3) := by decide +kernel
theorem dX3_parse_35 : decode cX3_parse 35 = .ok (.iload 5, 2) := by decide +kernel
theorem dX3_parse_37 : decode cX3_parse 37 = .ok (.caload, 1) := by decide +kernel
theorem dX3_parse_38 : decode cX3_parse 38 = .ok (.istore 6, 2) := by decide +kernel
theorem dX3_parse_40 : decode cX3_parse 40 = .ok (.iload 4, 2) := by decide +kernel
theorem dX3_parse_42 : decode cX3_parse 42 = .ok (.ifCond .eq 47, 3) := by decide +kernel
theorem dX3_parse_45 : decode cX3_parse 45 = .ok (.iload 6, 2) := by decide +kernel
theorem dX3_parse_47 : decode cX3_parse 47 = .ok (.bipush 49, 2) := by decide +kernel
theorem dX3_parse_49 : decode cX3_parse 49 = .ok (.isub, 1) := by decide +kernel
theorem dX3_parse_50 : decode cX3_parse 50 = .ok (.istore 7, 2) := by decide +kernel
theorem dX3_parse_52 : decode cX3_parse 52 = .ok (.iload 7, 2) := by decide +kernel
theorem dX3_parse_54 : decode cX3_parse 54 = .ok (.ifCond .lt 12, 3) := by decide +kernel
theorem dX3_parse_57 : decode cX3_parse 57 = .ok (.iload 7, 2) := by decide +kernel
theorem dX3_parse_59 : decode cX3_parse 59 = .ok (.aload_n 1, 1) := by decide +kernel
theorem dX3_parse_60 : decode cX3_parse 60 = .ok (.getfield 26, 3) := by decide +kernel
theorem dX3_parse_63 : decode cX3_parse 63 = .ok (.if_icmp .lt 6, 3) := by decide +kernel
theorem dX3_parse_66 : decode cX3_parse 66 = .ok (.iload 5, 2) := by decide +kernel
theorem dX3_parse_68 : decode cX3_parse 68 = .ok (.ireturn, 1) := by decide +kernel
theorem dX3_parse_69 : decode cX3_parse 69 = .ok (.aload_n 0, 1) := by decide +kernel
theorem dX3_parse_70 : decode cX3_parse 70 = .ok (.aload_n 1, 1) := by decide +kernel
theorem dX3_parse_71 : decode cX3_parse 71 = .ok (.iload_n 3, 1) := by decide +kernel
theorem dX3_parse_72 : decode cX3_parse 72 = .ok (.iload 7, 2) := by decide +kernel
theorem dX3_parse_74 : decode cX3_parse 74 = .ok (.invokevirtual 31, 3) := by decide +kernel
theorem dX3_parse_77 : decode cX3_parse 77 = .ok (.invokevirtual 35, 3) := by decide +kernel
theorem dX3_parse_80 : decode cX3_parse 80 = .ok (.iinc 2 1, 3) := by decide +kernel
theorem dX3_parse_83 : decode cX3_parse 83 = .ok (.iconst 0, 1) := by decide +kernel
theorem dX3_parse_84 : decode cX3_parse 84 = .ok (.istore 4, 2) := by decide +kernel
theorem dX3_parse_86 : decode cX3_parse 86 = .ok (.goto 65, 3) := by decide +kernel
theorem dX3_parse_89 : decode cX3_parse 89 = .ok (.iload_n 2, 1) := by decide +kernel
theorem dX3_parse_90 : decode cX3_parse 90 = .ok (.iconst 2, 1) := by decide +kernel
theorem dX3_parse_91 : decode cX3_parse 91 = .ok (.if_icmp .ne 18, 3) := by decide +kernel
theorem dX3_parse_94 : decode cX3_parse 94 = .ok (.iload 6, 2) := by decide +kernel
theorem dX3_parse_96 : decode cX3_parse 96 = .ok (.bipush 59, 2) := by decide +kernel
theorem dX3_parse_98 : decode cX3_parse 98 = .ok (.if_icmp .eq 6, 3) := by decide +kernel
theorem dX3_parse_101 : decode cX3_parse 101 = .ok (.iload 5, 2) := by decide +kernel
theorem dX3_parse_103 : decode cX3_parse 103 = .ok (.ireturn, 1) := by decide +kernel
theorem dX3_parse_104 : decode cX3_parse 104 = .ok (.iconst 0, 1) := by decide +kernel
theorem dX3_parse_105 : decode cX3_parse 105 = .ok (.istore_n 2, 1) := by decide +kernel
theorem dX3_parse_106 : decode cX3_parse 106 = .ok (.goto 45, 3) := by decide +kernel
theorem dX3_parse_109 : decode cX3_parse 109 = .ok (.iload 6, 2) := by decide +kernel
theorem dX3_parse_111 : decode cX3_parse 111 = .ok (.bipush 45, 2) := by decide +kernel
theorem dX3_parse_113 : decode cX3_parse 113 = .ok (.if_icmp .ne 14, 3) := by decide +kernel
theorem dX3_parse_116 : decode cX3_parse 116 = .ok (.aload_n 0, 1) := by decide +kernel
theorem dX3_parse_117 : decode cX3_parse 117 = .ok (.iconst (-1), 1) := by decide +kernel
theorem dX3_parse_118 : decode cX3_parse 118 = .ok (.invokevirtual 35, 3) := by decide +kernel
theorem dX3_parse_121 : decode cX3_parse 121 = .ok (.iinc 2 1, 3) := by decide +kernel
theorem dX3_parse_124 : decode cX3_parse 124 = .ok (.goto 27, 3) := by decide +kernel
theorem dX3_parse_127 : decode cX3_parse 127 = .ok (.iload 6, 2) := by decide +kernel
theorem dX3_parse_129 : decode cX3_parse 129 = .ok (.bipush 97, 2) := by decide +kernel
theorem dX3_parse_131 : decode cX3_parse 131 = .ok (.isub, 1) := by decide +kernel
theorem dX3_parse_132 : decode cX3_parse 132 = .ok (.istore_n 3, 1) := by decide +kernel
theorem dX3_parse_133 : decode cX3_parse 133 = .ok (.iload_n 3, 1) := by decide +kernel
theorem dX3_parse_134 : decode cX3_parse 134 = .ok (.ifCond .lt 11, 3) := by decide +kernel
theorem dX3_parse_137 : decode cX3_parse 137 = .ok (.iload_n 3, 1) := by decide +kernel
theorem dX3_parse_138 : decode cX3_parse 138 = .ok (.aload_n 1, 1) := by decide +kernel
theorem dX3_parse_139 : decode cX3_parse 139 = .ok (.getfield 39, 3) := by decide +kernel
theorem dX3_parse_142 : decode cX3_parse 142 = .ok (.if_icmp .lt 6, 3) := by decide +kernel
theorem dX3_parse_145 : decode cX3_parse 145 = .ok (.iload 5, 2) := by decide +kernel
theorem dX3_parse_147 : decode cX3_parse 147 = .ok (.ireturn, 1) := by decide +kernel
theorem dX3_parse_148 : decode cX3_parse 148 = .ok (.iconst 1, 1) := by decide +kernel
theorem dX3_parse_149 : decode cX3_parse 149 = .ok (.istore 4, 2) := by decide +kernel
theorem dX3_parse_151 : decode cX3_parse 151 = .ok (.iinc 5 1, 3) := by decide +kernel
theorem dX3_parse_154 : decode cX3_parse 154 = .ok (.goto (-139), 3) := by decide +kernel
theorem dX3_parse_157 : decode cX3_parse 157 = .ok (.iload_n 2, 1) := by decide +kernel
theorem dX3_parse_158 : decode cX3_parse 158 = .ok (.ifCond .ne 12, 3) := by decide +kernel
theorem dX3_parse_161 : decode cX3_parse 161 = .ok (.iload 4, 2) := by decide +kernel
theorem dX3_parse_163 : decode cX3_parse 163 = .ok (.ifCond .ne 7, 3) := by decide +kernel
theorem dX3_parse_166 : decode cX3_parse 166 = .ok (.iconst (-1), 1) := by decide +kernel
theorem dX3_parse_167 : decode cX3_parse 167 = .ok (.goto 7, 3) := by decide +kernel
theorem dX3_parse_170 : decode cX3_parse 170 = .ok (.aload_n 0, 1) := by decide +kernel
theorem dX3_parse_171 : decode cX3_parse 171 = .ok (.getfield 19, 3) := by decide +kernel
theorem dX3_parse_174 : decode cX3_parse 174 = .ok (.ireturn, 1) := by decide +kernel
theorem dX3_addChoice_0 : decode cX3_addChoice 0 = .ok (.aload_n 0, 1) := by decide +kernel
theorem dX3_addChoice_1 : decode cX3_addChoice 1 = .ok (.getfield 23, 3) := by decide +kernel
theorem dX3_addChoice_4 : decode cX3_addChoice 4 = .ok (.ifCond .lt 32, 3) := by decide +kernel
theorem dX3_addChoice_7 : decode cX3_addChoice 7 = .ok (.aload_n 0, 1) := by decide +kernel
theorem dX3_addChoice_8 : decode cX3_addChoice 8 = .ok (.getfield 23, 3) := by decide +kernel
theorem dX3_addChoice_11 : decode cX3_addChoice 11 = .ok (.bipush 80, 2) := by decide +kernel
theorem dX3_addChoice_13 : decode cX3_addChoice 13 = .ok (.if_icmp .ge 23, 3) := by decide +kernel
theorem dX3_addChoice_16 : decode cX3_addChoice 16 = .ok (.aload_n 0, 1) := by decide +kernel
theorem dX3_addChoice_17 : decode cX3_addChoice 17 = .ok (.getfield 15, 3) := by decide +kernel
theorem dX3_addChoice_20 : decode cX3_addChoice 20 = .ok (.aload_n 0, 1) := by decide +kernel
theorem dX3_addChoice_21 : decode cX3_addChoice 21 = .ok (.getfield 23, 3) := by decide +kernel
theorem dX3_addChoice_24 : decode cX3_addChoice 24 = .ok (.iload_n 1, 1) := by decide +kernel
theorem dX3_addChoice_25 : decode cX3_addChoice 25 = .ok (.iastore, 1) := by decide +kernel
theorem dX3_addChoice_26 : decode cX3_addChoice 26 = .ok (.aload_n 0, 1) := by decide +kernel
theorem dX3_addChoice_27 : decode cX3_addChoice 27 = .ok (.dup, 1) := by decide +kernel
theorem dX3_addChoice_28 : decode cX3_addChoice 28 = .ok (.getfield 23, 3) := by decide +kernel
theorem dX3_addChoice_31 : decode cX3_addChoice 31 = .ok (.iconst 1, 1) := by decide +kernel
theorem dX3_addChoice_32 : decode cX3_addChoice 32 = .ok (.iadd, 1) := by decide +kernel
theorem dX3_addChoice_33 : decode cX3_addChoice 33 = .ok (.putfield 23, 3) := by decide +kernel
theorem dX3_addChoice_36 : decode cX3_addChoice 36 = .ok (.return_, 1) := by decide +kernel
theorem dX4_init_0 : decode cX4_init 0 = .ok (.aload_n 0, 1) := by decide +kernel
theorem dX4_init_1 : decode cX4_init 1 = .ok (.invokespecial 3, 3) := by decide +kernel
theorem dX4_init_4 : decode cX4_init 4 = .ok (.aload_n 0, 1) := by decide +kernel
theorem dX4_init_5 : decode cX4_init 5 = .ok (.bipush 6, 2) := by decide +kernel
theorem dX4_init_7 : decode cX4_init 7 = .ok (.newarray .long, 2) := by decide +kernel
theorem dX4_init_9 : decode cX4_init 9 = .ok (.putfield 9, 3) := by decide +kernel
theorem dX4_init_12 : decode cX4_init 12 = .ok (.return_, 1) := by decide +kernel
theorem dX4_clear_0 : decode cX4_clear 0 = .ok (.iconst 0, 1) := by decide +kernel
theorem dX4_clear_1 : decode cX4_clear 1 = .ok (.istore_n 3, 1) := by decide +kernel
theorem dX4_clear_2 : decode cX4_clear 2 = .ok (.iload_n 3, 1) := by decide +kernel
theorem dX4_clear_3 : decode cX4_clear 3 = .ok (.bipush 6, 2) := by decide +kernel
theorem dX4_clear_5 : decode cX4_clear 5 = .ok (.if_icmp .ge 24, 3) := by decide +kernel
theorem dX4_clear_8 : decode cX4_clear 8 = .ok (.aload_n 0, 1) := by decide +kernel
theorem dX4_clear_9 : decode cX4_clear 9 = .ok (.getfield 9, 3) := by decide +kernel
theorem dX4_clear_12 : decode cX4_clear 12 = .ok (.iload_n 3, 1) := by decide +kernel
theorem dX4_clear_13 : decode cX4_clear 13 = .ok (.iload_n 3, 1) := by decide +kernel
theorem dX4_clear_14 : decode cX4_clear 14 = .ok (.ifCond .ne 7, 3) := by decide +kernel
theorem dX4_clear_17 : decode cX4_clear 17 = .ok (.lload_n 1, 1) := by decide +kernel
theorem dX4_clear_18 : decode cX4_clear 18 = .ok (.goto 4, 3) := by decide +kernel
theorem dX4_clear_21 : decode cX4_clear 21 = .ok (.lconst 0, 1) := by decide +kernel
theorem dX4_clear_22 : decode cX4_clear 22 = .ok (.lastore, 1) := by decide +kernel
theorem dX4_clear_23 : decode cX4_clear 23 = .ok (.iinc 3 1, 3) := by decide +kernel
theorem dX4_clear_26 : decode cX4_clear 26 = .ok (.goto (-24), 3) := by decide +kernel
theorem dX4_clear_29 : decode cX4_clear 29 = .ok (.aload_n 0, 1) := by decide +kernel
theorem dX4_clear_30 : decode cX4_clear 30 = .ok (.iconst 0, 1) := by decide +kernel
theorem dX4_clear_31 : decode cX4_clear 31 = .ok (.putfield 15, 3) := by decide +kernel
theorem dX4_clear_34 : decode cX4_clear 34 = .ok (.aload_n 0, 1) := by decide +kernel
theorem dX4_clear_35 : decode cX4_clear 35 = .ok (.iconst 0, 1) := by decide +kernel
theorem dX4_clear_36 : decode cX4_clear 36 = .ok (.putfield 19, 3) := by decide +kernel
theorem dX4_clear_39 : decode cX4_clear 39 = .ok (.return_, 1) := by decide +kernel
theorem dX4_copyFrom_0 : decode cX4_copyFrom 0 = .ok (.aload_n 1, 1) := by decide +kernel
theorem dX4_copyFrom_1 : decode cX4_copyFrom 1 = .ok (.getfield 9, 3) := by decide +kernel
theorem dX4_copyFrom_4 : decode cX4_copyFrom 4 = .ok (.iconst 0, 1) := by decide +kernel
theorem dX4_copyFrom_5 : decode cX4_copyFrom 5 = .ok (.aload_n 0, 1) := by decide +kernel
theorem dX4_copyFrom_6 : decode cX4_copyFrom 6 = .ok (.getfield 9, 3) := by decide +kernel
theorem dX4_copyFrom_9 : decode cX4_copyFrom 9 = .ok (.iconst 0, 1) := by decide +kernel
theorem dX4_copyFrom_10 : decode cX4_copyFrom 10 = .ok (.bipush 6, 2) := by decide +kernel
theorem dX4_copyFrom_12 : decode cX4_copyFrom 12 = .ok (.invokestatic 22, 3) := by decide +kernel
theorem dX4_copyFrom_15 : decode cX4_copyFrom 15 = .ok (.aload_n 0, 1) := by decide +kernel
theorem dX4_copyFrom_16 : decode cX4_copyFrom 16 = .ok (.aload_n 1, 1) := by decide +kernel
theorem dX4_copyFrom_17 : decode cX4_copyFrom 17 = .ok (.getfield 15, 3) := by decide +kernel
theorem dX4_copyFrom_20 : decode cX4_copyFrom 20 = .ok (.putfield 15, 3) := by decide +kernel
theorem dX4_copyFrom_23 : decode cX4_copyFrom 23 = .ok (.aload_n 0, 1) := by decide +kernel
theorem dX4_copyFrom_24 : decode cX4_copyFrom 24 = .ok (.aload_n 1, 1) := by decide +kernel
theorem dX4_copyFrom_25 : decode cX4_copyFrom 25 = .ok (.getfield 19, 3) := by decide +kernel
theorem dX4_copyFrom_28 : decode cX4_copyFrom 28 = .ok (.putfield 19, 3) := by decide +kernel
theorem dX4_copyFrom_31 : decode cX4_copyFrom 31 = .ok (.return_, 1) := by decide +kernel
theorem dX4_in_0 : decode cX4_in 0 = .ok (.iload_n 1, 1) := by decide +kernel
theorem dX4_in_1 : decode cX4_in 1 = .ok (.ifCond .lt 18, 3) := by decide +kernel
theorem dX4_in_4 : decode cX4_in 4 = .ok (.iload_n 1, 1) := by decide +kernel
theorem dX4_in_5 : decode cX4_in 5 = .ok (.bipush 6, 2) := by decide +kernel
theorem dX4_in_7 : decode cX4_in 7 = .ok (.if_icmp .ge 12, 3) := by decide +kernel
theorem dX4_in_10 : decode cX4_in 10 = .ok (.aload_n 0, 1) := by decide +kernel
theorem dX4_in_11 : decode cX4_in 11 = .ok (.getfield 9, 3) := by decide +kernel
theorem dX4_in_14 : decode cX4_in 14 = .ok (.iload_n 1, 1) := by decide +kernel
theorem dX4_in_15 : decode cX4_in 15 = .ok (.laload, 1) := by decide +kernel
theorem dX4_in_16 : decode cX4_in 16 = .ok (.goto 4, 3) := by decide +kernel
theorem dX4_in_19 : decode cX4_in 19 = .ok (.lconst 0, 1) := by decide +kernel
theorem dX4_in_20 : decode cX4_in 20 = .ok (.lreturn, 1) := by decide +kernel
theorem dX4_number_0 : decode cX4_number 0 = .ok (.aload_n 0, 1) := by decide +kernel
theorem dX4_number_1 : decode cX4_number 1 = .ok (.iload_n 1, 1) := by decide +kernel
theorem dX4_number_2 : decode cX4_number 2 = .ok (.invokevirtual 28, 3) := by decide +kernel
theorem dX4_number_5 : decode cX4_number 5 = .ok (.invokestatic 32, 3) := by decide +kernel
theorem dX4_number_8 : decode cX4_number 8 = .ok (.ireturn, 1) := by decide +kernel
theorem dX4_stateOf_0 : decode cX4_stateOf 0 = .ok (.iconst 0, 1) := by decide +kernel
theorem dX4_stateOf_1 : decode cX4_stateOf 1 = .ok (.istore_n 2, 1) := by decide +kernel
theorem dX4_stateOf_2 : decode cX4_stateOf 2 = .ok (.iconst 0, 1) := by decide +kernel
theorem dX4_stateOf_3 : decode cX4_stateOf 3 = .ok (.istore_n 3, 1) := by decide +kernel
theorem dX4_stateOf_4 : decode cX4_stateOf 4 = .ok (.iload_n 3, 1) := by decide +kernel
theorem dX4_stateOf_5 : decode cX4_stateOf 5 = .ok (.bipush 6, 2) := by decide +kernel
theorem dX4_stateOf_7 : decode cX4_stateOf 7 = .ok (.if_icmp .ge 26, 3) := by decide +kernel
theorem dX4_stateOf_10 : decode cX4_stateOf 10 = .ok (.aload_n 0, 1) := by decide +kernel
theorem dX4_stateOf_11 : decode cX4_stateOf 11 = .ok (.getfield 9, 3) := by decide +kernel
theorem dX4_stateOf_14 : decode cX4_stateOf 14 = .ok (.iload_n 3, 1) := by decide +kernel
theorem dX4_stateOf_15 : decode cX4_stateOf 15 = .ok (.laload, 1) := by decide +kernel
theorem dX4_stateOf_16 : decode cX4_stateOf 16 = .ok (.iload_n 1, 1) := by decide +kernel
theorem dX4_stateOf_17 : decode cX4_stateOf 17 = .ok (.lushr, 1) := by decide +kernel
theorem dX4_stateOf_18 : decode cX4_stateOf 18 = .ok (.lconst 1, 1) := by decide +kernel
theorem dX4_stateOf_19 : decode cX4_stateOf 19 = .ok (.land, 1) := by decide +kernel
theorem dX4_stateOf_20 : decode cX4_stateOf 20 = .ok (.lconst 0, 1) := by decide +kernel
theorem dX4_stateOf_21 : decode cX4_stateOf 21 = .ok (.lcmp, 1) := by decide +kernel
theorem dX4_stateOf_22 : decode cX4_stateOf 22 = .ok (.ifCond .eq 5, 3) := by decide +kernel
theorem dX4_stateOf_25 : decode cX4_stateOf 25 = .ok (.iload_n 3, 1) := by decide +kernel
theorem dX4_stateOf_26 : decode cX4_stateOf 26 = .ok (.istore_n 2, 1) := by decide +kernel
theorem dX4_stateOf_27 : decode cX4_stateOf 27 = .ok (.iinc 3 1, 3) := by decide +kernel
theorem dX4_stateOf_30 : decode cX4_stateOf 30 = .ok (.goto (-26), 3) := by decide +kernel
theorem dX4_stateOf_33 : decode cX4_stateOf 33 = .ok (.iload_n 2, 1) := by decide +kernel
theorem dX4_stateOf_34 : decode cX4_stateOf 34 = .ok (.ireturn, 1) := by decide +kernel
theorem dX4_admits_0 : decode cX4_admits 0 = .ok (.iload_n 1, 1) := by decide +kernel
theorem dX4_admits_1 : decode cX4_admits 1 = .ok (.iconst (-1), 1) := by decide +kernel
theorem dX4_admits_2 : decode cX4_admits 2 = .ok (.if_icmp .eq 18, 3) := by decide +kernel
theorem dX4_admits_5 : decode cX4_admits 5 = .ok (.aload_n 0, 1) := by decide +kernel
theorem dX4_admits_6 : decode cX4_admits 6 = .ok (.getfield 9, 3) := by decide +kernel
theorem dX4_admits_9 : decode cX4_admits 9 = .ok (.iconst 0, 1) := by decide +kernel
theorem dX4_admits_10 : decode cX4_admits 10 = .ok (.laload, 1) := by decide +kernel
theorem dX4_admits_11 : decode cX4_admits 11 = .ok (.iload_n 1, 1) := by decide +kernel
theorem dX4_admits_12 : decode cX4_admits 12 = .ok (.lushr, 1) := by decide +kernel
theorem dX4_admits_13 : decode cX4_admits 13 = .ok (.lconst 1, 1) := by decide +kernel
theorem dX4_admits_14 : decode cX4_admits 14 = .ok (.land, 1) := by decide +kernel
theorem dX4_admits_15 : decode cX4_admits 15 = .ok (.lconst 0, 1) := by decide +kernel
theorem dX4_admits_16 : decode cX4_admits 16 = .ok (.lcmp, 1) := by decide +kernel
theorem dX4_admits_17 : decode cX4_admits 17 = .ok (.ifCond .eq 7, 3) := by decide +kernel
theorem dX4_admits_20 : decode cX4_admits 20 = .ok (.iconst 1, 1) := by decide +kernel
theorem dX4_admits_21 : decode cX4_admits 21 = .ok (.goto 4, 3) := by decide +kernel
theorem dX4_admits_24 : decode cX4_admits 24 = .ok (.iconst 0, 1) := by decide +kernel
theorem dX4_admits_25 : decode cX4_admits 25 = .ok (.ireturn, 1) := by decide +kernel
theorem dX4_captured_0 : decode cX4_captured 0 = .ok (.iload_n 1, 1) := by decide +kernel
theorem dX4_captured_1 : decode cX4_captured 1 = .ok (.ifCond .ne 10, 3) := by decide +kernel
theorem dX4_captured_4 : decode cX4_captured 4 = .ok (.aload_n 0, 1) := by decide +kernel
theorem dX4_captured_5 : decode cX4_captured 5 = .ok (.getfield 15, 3) := by decide +kernel
theorem dX4_captured_8 : decode cX4_captured 8 = .ok (.goto 7, 3) := by decide +kernel
theorem dX4_captured_11 : decode cX4_captured 11 = .ok (.aload_n 0, 1) := by decide +kernel
theorem dX4_captured_12 : decode cX4_captured 12 = .ok (.getfield 19, 3) := by decide +kernel
theorem dX4_captured_15 : decode cX4_captured 15 = .ok (.ireturn, 1) := by decide +kernel
theorem dX4_points_0 : decode cX4_points 0 = .ok (.aload_n 0, 1) := by decide +kernel
theorem dX4_points_1 : decode cX4_points 1 = .ok (.iconst 3, 1) := by decide +kernel
theorem dX4_points_2 : decode cX4_points 2 = .ok (.iload_n 1, 1) := by decide +kernel
theorem dX4_points_3 : decode cX4_points 3 = .ok (.iadd, 1) := by decide +kernel
theorem dX4_points_4 : decode cX4_points 4 = .ok (.invokevirtual 38, 3) := by decide +kernel
theorem dX4_points_7 : decode cX4_points 7 = .ok (.iconst 2, 1) := by decide +kernel
theorem dX4_points_8 : decode cX4_points 8 = .ok (.aload_n 0, 1) := by decide +kernel
theorem dX4_points_9 : decode cX4_points 9 = .ok (.iload_n 1, 1) := by decide +kernel
theorem dX4_points_10 : decode cX4_points 10 = .ok (.invokevirtual 42, 3) := by decide +kernel
theorem dX4_points_13 : decode cX4_points 13 = .ok (.imul, 1) := by decide +kernel
theorem dX4_points_14 : decode cX4_points 14 = .ok (.iadd, 1) := by decide +kernel
theorem dX4_points_15 : decode cX4_points 15 = .ok (.ireturn, 1) := by decide +kernel
theorem dX4_lead_0 : decode cX4_lead 0 = .ok (.aload_n 0, 1) := by decide +kernel
theorem dX4_lead_1 : decode cX4_lead 1 = .ok (.getfield 9, 3) := by decide +kernel
theorem dX4_lead_4 : decode cX4_lead 4 = .ok (.iconst 3, 1) := by decide +kernel
theorem dX4_lead_5 : decode cX4_lead 5 = .ok (.laload, 1) := by decide +kernel
theorem dX4_lead_6 : decode cX4_lead 6 = .ok (.invokestatic 32, 3) := by decide +kernel
theorem dX4_lead_9 : decode cX4_lead 9 = .ok (.aload_n 0, 1) := by decide +kernel
theorem dX4_lead_10 : decode cX4_lead 10 = .ok (.getfield 9, 3) := by decide +kernel
theorem dX4_lead_13 : decode cX4_lead 13 = .ok (.iconst 4, 1) := by decide +kernel
theorem dX4_lead_14 : decode cX4_lead 14 = .ok (.laload, 1) := by decide +kernel
theorem dX4_lead_15 : decode cX4_lead 15 = .ok (.invokestatic 32, 3) := by decide +kernel
theorem dX4_lead_18 : decode cX4_lead 18 = .ok (.isub, 1) := by decide +kernel
theorem dX4_lead_19 : decode cX4_lead 19 = .ok (.iconst 2, 1) := by decide +kernel
theorem dX4_lead_20 : decode cX4_lead 20 = .ok (.aload_n 0, 1) := by decide +kernel
theorem dX4_lead_21 : decode cX4_lead 21 = .ok (.getfield 15, 3) := by decide +kernel
theorem dX4_lead_24 : decode cX4_lead 24 = .ok (.aload_n 0, 1) := by decide +kernel
theorem dX4_lead_25 : decode cX4_lead 25 = .ok (.getfield 19, 3) := by decide +kernel
theorem dX4_lead_28 : decode cX4_lead 28 = .ok (.isub, 1) := by decide +kernel
theorem dX4_lead_29 : decode cX4_lead 29 = .ok (.imul, 1) := by decide +kernel
theorem dX4_lead_30 : decode cX4_lead 30 = .ok (.iadd, 1) := by decide +kernel
theorem dX4_lead_31 : decode cX4_lead 31 = .ok (.ireturn, 1) := by decide +kernel
theorem dX4_own_0 : decode cX4_own 0 = .ok (.iload_n 1, 1) := by decide +kernel
theorem dX4_own_1 : decode cX4_own 1 = .ok (.ifCond .ne 19, 3) := by decide +kernel
theorem dX4_own_4 : decode cX4_own 4 = .ok (.aload_n 0, 1) := by decide +kernel
theorem dX4_own_5 : decode cX4_own 5 = .ok (.getfield 9, 3) := by decide +kernel
theorem dX4_own_8 : decode cX4_own 8 = .ok (.iconst 1, 1) := by decide +kernel
theorem dX4_own_9 : decode cX4_own 9 = .ok (.laload, 1) := by decide +kernel
theorem dX4_own_10 : decode cX4_own 10 = .ok (.aload_n 0, 1) := by decide +kernel
theorem dX4_own_11 : decode cX4_own 11 = .ok (.getfield 9, 3) := by decide +kernel
theorem dX4_own_14 : decode cX4_own 14 = .ok (.iconst 3, 1) := by decide +kernel
theorem dX4_own_15 : decode cX4_own 15 = .ok (.laload, 1) := by decide +kernel
theorem dX4_own_16 : decode cX4_own 16 = .ok (.lor, 1) := by decide +kernel
theorem dX4_own_17 : decode cX4_own 17 = .ok (.goto 16, 3) := by decide +kernel
theorem dX4_own_20 : decode cX4_own 20 = .ok (.aload_n 0, 1) := by decide +kernel
theorem dX4_own_21 : decode cX4_own 21 = .ok (.getfield 9, 3) := by decide +kernel
theorem dX4_own_24 : decode cX4_own 24 = .ok (.iconst 2, 1) := by decide +kernel
theorem dX4_own_25 : decode cX4_own 25 = .ok (.laload, 1) := by decide +kernel
theorem dX4_own_26 : decode cX4_own 26 = .ok (.aload_n 0, 1) := by decide +kernel
theorem dX4_own_27 : decode cX4_own 27 = .ok (.getfield 9, 3) := by decide +kernel
theorem dX4_own_30 : decode cX4_own 30 = .ok (.iconst 4, 1) := by decide +kernel
theorem dX4_own_31 : decode cX4_own 31 = .ok (.laload, 1) := by decide +kernel
theorem dX4_own_32 : decode cX4_own 32 = .ok (.lor, 1) := by decide +kernel
theorem dX4_own_33 : decode cX4_own 33 = .ok (.lreturn, 1) := by decide +kernel
theorem dX4_open_0 : decode cX4_open 0 = .ok (.aload_n 1, 1) := by decide +kernel
theorem dX4_open_1 : decode cX4_open 1 = .ok (.getfield 45, 3) := by decide +kernel
theorem dX4_open_4 : decode cX4_open 4 = .ok (.aload_n 0, 1) := by decide +kernel
theorem dX4_open_5 : decode cX4_open 5 = .ok (.iload_n 2, 1) := by decide +kernel
theorem dX4_open_6 : decode cX4_open 6 = .ok (.invokevirtual 51, 3) := by decide +kernel
theorem dX4_open_9 : decode cX4_open 9 = .ok (.ldc2_w 54, 3) := by decide +kernel
theorem dX4_open_12 : decode cX4_open 12 = .ok (.lxor, 1) := by decide +kernel
theorem dX4_open_13 : decode cX4_open 13 = .ok (.land, 1) := by decide +kernel
theorem dX4_open_14 : decode cX4_open 14 = .ok (.aload_n 0, 1) := by decide +kernel
theorem dX4_open_15 : decode cX4_open 15 = .ok (.getfield 9, 3) := by decide +kernel
theorem dX4_open_18 : decode cX4_open 18 = .ok (.iconst 5, 1) := by decide +kernel
theorem dX4_open_19 : decode cX4_open 19 = .ok (.laload, 1) := by decide +kernel
theorem dX4_open_20 : decode cX4_open 20 = .ok (.ldc2_w 54, 3) := by decide +kernel
theorem dX4_open_23 : decode cX4_open 23 = .ok (.lxor, 1) := by decide +kernel
theorem dX4_open_24 : decode cX4_open 24 = .ok (.land, 1) := by decide +kernel
theorem dX4_open_25 : decode cX4_open 25 = .ok (.lreturn, 1) := by decide +kernel
theorem dX4_regions_0 : decode cX4_regions 0 = .ok (.aload_n 0, 1) := by decide +kernel
theorem dX4_regions_1 : decode cX4_regions 1 = .ok (.aload_n 1, 1) := by decide +kernel
theorem dX4_regions_2 : decode cX4_regions 2 = .ok (.iload_n 2, 1) := by decide +kernel
theorem dX4_regions_3 : decode cX4_regions 3 = .ok (.invokevirtual 56, 3) := by decide +kernel
theorem dX4_regions_6 : decode cX4_regions 6 = .ok (.lstore_n 3, 1) := by decide +kernel
theorem dX4_regions_7 : decode cX4_regions 7 = .ok (.iconst 0, 1) := by decide +kernel
theorem dX4_regions_8 : decode cX4_regions 8 = .ok (.istore 5, 2) := by decide +kernel
theorem dX4_regions_10 : decode cX4_regions 10 = .ok (.iconst 0, 1) := by decide +kernel
theorem dX4_regions_11 : decode cX4_regions 11 = .ok (.istore 6, 2) := by decide +kernel
theorem dX4_regions_13 : decode cX4_regions 13 = .ok (.iload 6, 2) := by decide +kernel
theorem dX4_regions_15 : decode cX4_regions 15 = .ok (.aload_n 1, 1) := by decide +kernel
theorem dX4_regions_16 : decode cX4_regions 16 = .ok (.getfield 60, 3) := by decide +kernel
theorem dX4_regions_19 : decode cX4_regions 19 = .ok (.if_icmp .ge 46, 3) := by decide +kernel
theorem dX4_regions_22 : decode cX4_regions 22 = .ok (.aload_n 1, 1) := by decide +kernel
theorem dX4_regions_23 : decode cX4_regions 23 = .ok (.lconst 1, 1) := by decide +kernel
theorem dX4_regions_24 : decode cX4_regions 24 = .ok (.iload 6, 2) := by decide +kernel
theorem dX4_regions_26 : decode cX4_regions 26 = .ok (.lshl, 1) := by decide +kernel
theorem dX4_regions_27 : decode cX4_regions 27 = .ok (.lload_n 3, 1) := by decide +kernel
theorem dX4_regions_28 : decode cX4_regions 28 = .ok (.invokevirtual 63, 3) := by decide +kernel
theorem dX4_regions_31 : decode cX4_regions 31 = .ok (.lstore 7, 2) := by decide +kernel
theorem dX4_regions_33 : decode cX4_regions 33 = .ok (.lload_n 3, 1) := by decide +kernel
theorem dX4_regions_34 : decode cX4_regions 34 = .ok (.lload 7, 2) := by decide +kernel
theorem dX4_regions_36 : decode cX4_regions 36 = .ok (.ldc2_w 54, 3) := by decide +kernel
theorem dX4_regions_39 : decode cX4_regions 39 = .ok (.lxor, 1) := by decide +kernel
theorem dX4_regions_40 : decode cX4_regions 40 = .ok (.land, 1) := by decide +kernel
theorem dX4_regions_41 : decode cX4_regions 41 = .ok (.lstore_n 3, 1) := by decide +kernel
theorem dX4_regions_42 : decode cX4_regions 42 = .ok (.iload 5, 2) := by decide +kernel
theorem dX4_regions_44 : decode cX4_regions 44 = .ok (.lload 7, 2) := by decide +kernel
theorem dX4_regions_46 : decode cX4_regions 46 = .ok (.lconst 0, 1) := by decide +kernel
theorem dX4_regions_47 : decode cX4_regions 47 = .ok (.lcmp, 1) := by decide +kernel
theorem dX4_regions_48 : decode cX4_regions 48 = .ok (.ifCond .ne 7, 3) := by decide +kernel
theorem dX4_regions_51 : decode cX4_regions 51 = .ok (.iconst 0, 1) := by decide +kernel
theorem dX4_regions_52 : decode cX4_regions 52 = .ok (.goto 4, 3) := by decide +kernel
theorem dX4_regions_55 : decode cX4_regions 55 = .ok (.iconst 1, 1) := by decide +kernel
theorem dX4_regions_56 : decode cX4_regions 56 = .ok (.iadd, 1) := by decide +kernel
theorem dX4_regions_57 : decode cX4_regions 57 = .ok (.istore 5, 2) := by decide +kernel
theorem dX4_regions_59 : decode cX4_regions 59 = .ok (.iinc 6 1, 3) := by decide +kernel
theorem dX4_regions_62 : decode cX4_regions 62 = .ok (.goto (-49), 3) := by decide +kernel
theorem dX4_regions_65 : decode cX4_regions 65 = .ok (.iload 5, 2) := by decide +kernel
theorem dX4_regions_67 : decode cX4_regions 67 = .ok (.ireturn, 1) := by decide +kernel
theorem dX4_largestRegion_0 : decode cX4_largestRegion 0 = .ok (.aload_n 0, 1) := by decide +kernel
theorem dX4_largestRegion_1 : decode cX4_largestRegion 1 = .ok (.aload_n 1, 1) := by decide +kernel
theorem dX4_largestRegion_2 : decode cX4_largestRegion 2 = .ok (.iload_n 2, 1) := by decide +kernel
theorem dX4_largestRegion_3 : decode cX4_largestRegion 3 = .ok (.invokevirtual 56, 3) := by decide +kernel
theorem dX4_largestRegion_6 : decode cX4_largestRegion 6 = .ok (.lstore_n 3, 1) := by decide +kernel
theorem dX4_largestRegion_7 : decode cX4_largestRegion 7 = .ok (.iconst 0, 1) := by decide +kernel
theorem dX4_largestRegion_8 : decode cX4_largestRegion 8 = .ok (.istore 5, 2) := by decide +kernel
theorem dX4_largestRegion_10 : decode cX4_largestRegion 10 = .ok (.iconst 0, 1) := by decide +kernel
theorem dX4_largestRegion_11 : decode cX4_largestRegion 11 = .ok (.istore 6, 2) := by decide +kernel
theorem dX4_largestRegion_13 : decode cX4_largestRegion 13 = .ok (.iload 6, 2) := by decide +kernel
theorem dX4_largestRegion_15 : decode cX4_largestRegion 15 = .ok (.aload_n 1, 1) := by decide +kernel
theorem dX4_largestRegion_16 : decode cX4_largestRegion 16 = .ok (.getfield 60, 3) := by decide +kernel
theorem dX4_largestRegion_19 : decode cX4_largestRegion 19 = .ok (.if_icmp .ge 28, 3) := by decide +kernel
theorem dX4_largestRegion_22 : decode cX4_largestRegion 22 = .ok (.iload 5, 2) := by decide +kernel
theorem dX4_largestRegion_24 : decode cX4_largestRegion 24 = .ok (.aload_n 1, 1) := by decide +kernel
theorem dX4_largestRegion_25 : decode cX4_largestRegion 25 = .ok (.lconst 1, 1) := by decide +kernel
theorem dX4_largestRegion_26 : decode cX4_largestRegion 26 = .ok (.iload 6, 2) := by decide +kernel
theorem dX4_largestRegion_28 : decode cX4_largestRegion 28 = .ok (.lshl, 1) := by decide +kernel
theorem dX4_largestRegion_29 : decode cX4_largestRegion 29 = .ok (.lload_n 3, 1) := by decide +kernel
theorem dX4_largestRegion_30 : decode cX4_largestRegion 30 = .ok (.invokevirtual 63, 3) := by decide +kernel
theorem dX4_largestRegion_33 : decode cX4_largestRegion 33 = .ok (.invokestatic 32, 3) := by decide +kernel
theorem dX4_largestRegion_36 : decode cX4_largestRegion 36 = .ok (.invokestatic 67, 3) := by decide +kernel
theorem dX4_largestRegion_39 : decode cX4_largestRegion 39 = .ok (.istore 5, 2) := by decide +kernel
theorem dX4_largestRegion_41 : decode cX4_largestRegion 41 = .ok (.iinc 6 1, 3) := by decide +kernel
theorem dX4_largestRegion_44 : decode cX4_largestRegion 44 = .ok (.goto (-31), 3) := by decide +kernel
theorem dX4_largestRegion_47 : decode cX4_largestRegion 47 = .ok (.iload 5, 2) := by decide +kernel
theorem dX4_largestRegion_49 : decode cX4_largestRegion 49 = .ok (.ireturn, 1) := by decide +kernel
theorem dX4_turn_0 : decode cX4_turn 0 = .ok (.iconst 0, 1) := by decide +kernel
theorem dX4_turn_1 : decode cX4_turn 1 = .ok (.istore 4, 2) := by decide +kernel
theorem dX4_turn_3 : decode cX4_turn 3 = .ok (.iload 4, 2) := by decide +kernel
theorem dX4_turn_5 : decode cX4_turn 5 = .ok (.bipush 6, 2) := by decide +kernel
theorem dX4_turn_7 : decode cX4_turn 7 = .ok (.if_icmp .ge 47, 3) := by decide +kernel
theorem dX4_turn_10 : decode cX4_turn 10 = .ok (.aload_n 0, 1) := by decide +kernel
theorem dX4_turn_11 : decode cX4_turn 11 = .ok (.getfield 9, 3) := by decide +kernel
theorem dX4_turn_14 : decode cX4_turn 14 = .ok (.iload 4, 2) := by decide +kernel
theorem dX4_turn_16 : decode cX4_turn 16 = .ok (.iload 4, 2) := by decide +kernel
theorem dX4_turn_18 : decode cX4_turn 18 = .ok (.iload_n 3, 1) := by decide +kernel
theorem dX4_turn_19 : decode cX4_turn 19 = .ok (.if_icmp .ne 15, 3) := by decide +kernel
theorem dX4_turn_22 : decode cX4_turn 22 = .ok (.aload_n 0, 1) := by decide +kernel
theorem dX4_turn_23 : decode cX4_turn 23 = .ok (.getfield 9, 3) := by decide +kernel
theorem dX4_turn_26 : decode cX4_turn 26 = .ok (.iload 4, 2) := by decide +kernel
theorem dX4_turn_28 : decode cX4_turn 28 = .ok (.laload, 1) := by decide +kernel
theorem dX4_turn_29 : decode cX4_turn 29 = .ok (.lload_n 1, 1) := by decide +kernel
theorem dX4_turn_30 : decode cX4_turn 30 = .ok (.lor, 1) := by decide +kernel
theorem dX4_turn_31 : decode cX4_turn 31 = .ok (.goto 16, 3) := by decide +kernel
theorem dX4_turn_34 : decode cX4_turn 34 = .ok (.aload_n 0, 1) := by decide +kernel
theorem dX4_turn_35 : decode cX4_turn 35 = .ok (.getfield 9, 3) := by decide +kernel
theorem dX4_turn_38 : decode cX4_turn 38 = .ok (.iload 4, 2) := by decide +kernel
theorem dX4_turn_40 : decode cX4_turn 40 = .ok (.laload, 1) := by decide +kernel
theorem dX4_turn_41 : decode cX4_turn 41 = .ok (.lload_n 1, 1) := by decide +kernel
theorem dX4_turn_42 : decode cX4_turn 42 = .ok (.ldc2_w 54, 3) := by decide +kernel
theorem dX4_turn_45 : decode cX4_turn 45 = .ok (.lxor, 1) := by decide +kernel
theorem dX4_turn_46 : decode cX4_turn 46 = .ok (.land, 1) := by decide +kernel
theorem dX4_turn_47 : decode cX4_turn 47 = .ok (.lastore, 1) := by decide +kernel
theorem dX4_turn_48 : decode cX4_turn 48 = .ok (.iinc 4 1, 3) := by decide +kernel
theorem dX4_turn_51 : decode cX4_turn 51 = .ok (.goto (-48), 3) := by decide +kernel
theorem dX4_turn_54 : decode cX4_turn 54 = .ok (.return_, 1) := by decide +kernel
theorem dX4_give_0 : decode cX4_give 0 = .ok (.iload_n 1, 1) := by decide +kernel
theorem dX4_give_1 : decode cX4_give 1 = .ok (.iconst (-1), 1) := by decide +kernel
theorem dX4_give_2 : decode cX4_give 2 = .ok (.if_icmp .eq 7, 3) := by decide +kernel
theorem dX4_give_5 : decode cX4_give 5 = .ok (.iload_n 2, 1) := by decide +kernel
theorem dX4_give_6 : decode cX4_give 6 = .ok (.ifCond .ne 5, 3) := by decide +kernel
theorem dX4_give_9 : decode cX4_give 9 = .ok (.lconst 0, 1) := by decide +kernel
theorem dX4_give_10 : decode cX4_give 10 = .ok (.lreturn, 1) := by decide +kernel
theorem dX4_give_11 : decode cX4_give 11 = .ok (.lconst 1, 1) := by decide +kernel
theorem dX4_give_12 : decode cX4_give 12 = .ok (.iload_n 1, 1) := by decide +kernel
theorem dX4_give_13 : decode cX4_give 13 = .ok (.lshl, 1) := by decide +kernel
theorem dX4_give_14 : decode cX4_give 14 = .ok (.lstore_n 3, 1) := by decide +kernel
theorem dX4_give_15 : decode cX4_give 15 = .ok (.aload_n 0, 1) := by decide +kernel
theorem dX4_give_16 : decode cX4_give 16 = .ok (.lload_n 3, 1) := by decide +kernel
theorem dX4_give_17 : decode cX4_give 17 = .ok (.iload_n 2, 1) := by decide +kernel
theorem dX4_give_18 : decode cX4_give 18 = .ok (.invokevirtual 73, 3) := by decide +kernel
theorem dX4_give_21 : decode cX4_give 21 = .ok (.lload_n 3, 1) := by decide +kernel
theorem dX4_give_22 : decode cX4_give 22 = .ok (.lreturn, 1) := by decide +kernel
theorem dX4_capture_0 : decode cX4_capture 0 = .ok (.aload_n 0, 1) := by decide +kernel
theorem dX4_capture_1 : decode cX4_capture 1 = .ok (.aload_n 1, 1) := by decide +kernel
theorem dX4_capture_2 : decode cX4_capture 2 = .ok (.iconst 0, 1) := by decide +kernel
theorem dX4_capture_3 : decode cX4_capture 3 = .ok (.invokevirtual 56, 3) := by decide +kernel
theorem dX4_capture_6 : decode cX4_capture 6 = .ok (.lstore_n 2, 1) := by decide +kernel
theorem dX4_capture_7 : decode cX4_capture 7 = .ok (.aload_n 0, 1) := by decide +kernel
theorem dX4_capture_8 : decode cX4_capture 8 = .ok (.aload_n 1, 1) := by decide +kernel
theorem dX4_capture_9 : decode cX4_capture 9 = .ok (.iconst 1, 1) := by decide +kernel
theorem dX4_capture_10 : decode cX4_capture 10 = .ok (.invokevirtual 56, 3) := by decide +kernel
theorem dX4_capture_13 : decode cX4_capture 13 = .ok (.lstore 4, 2) := by decide +kernel
theorem dX4_capture_15 : decode cX4_capture 15 = .ok (.lload_n 2, 1) := by decide +kernel
theorem dX4_capture_16 : decode cX4_capture 16 = .ok (.aload_n 1, 1) := by decide +kernel
theorem dX4_capture_17 : decode cX4_capture 17 = .ok (.aload_n 1, 1) := by decide +kernel
theorem dX4_capture_18 : decode cX4_capture 18 = .ok (.getfield 77, 3) := by decide +kernel
theorem dX4_capture_21 : decode cX4_capture 21 = .ok (.lload_n 2, 1) := by decide +kernel
theorem dX4_capture_22 : decode cX4_capture 22 = .ok (.invokevirtual 63, 3) := by decide +kernel
theorem dX4_capture_25 : decode cX4_capture 25 = .ok (.ldc2_w 54, 3) := by decide +kernel
theorem dX4_capture_28 : decode cX4_capture 28 = .ok (.lxor, 1) := by decide +kernel
theorem dX4_capture_29 : decode cX4_capture 29 = .ok (.land, 1) := by decide +kernel
theorem dX4_capture_30 : decode cX4_capture 30 = .ok (.lstore 6, 2) := by decide +kernel
theorem dX4_capture_32 : decode cX4_capture 32 = .ok (.lload 4, 2) := by decide +kernel
theorem dX4_capture_34 : decode cX4_capture 34 = .ok (.aload_n 1, 1) := by decide +kernel
theorem dX4_capture_35 : decode cX4_capture 35 = .ok (.aload_n 1, 1) := by decide +kernel
theorem dX4_capture_36 : decode cX4_capture 36 = .ok (.getfield 77, 3) := by decide +kernel
theorem dX4_capture_39 : decode cX4_capture 39 = .ok (.lload 4, 2) := by decide +kernel
theorem dX4_capture_41 : decode cX4_capture 41 = .ok (.invokevirtual 63, 3) := by decide +kernel
theorem dX4_capture_44 : decode cX4_capture 44 = .ok (.ldc2_w 54, 3) := by decide +kernel
theorem dX4_capture_47 : decode cX4_capture 47 = .ok (.lxor, 1) := by decide +kernel
theorem dX4_capture_48 : decode cX4_capture 48 = .ok (.land, 1) := by decide +kernel
theorem dX4_capture_49 : decode cX4_capture 49 = .ok (.lstore 8, 2) := by decide +kernel
theorem dX4_capture_51 : decode cX4_capture 51 = .ok (.lload 6, 2) := by decide +kernel
theorem dX4_capture_53 : decode cX4_capture 53 = .ok (.lload 8, 2) := by decide +kernel
theorem dX4_capture_55 : decode cX4_capture 55 = .ok (.land, 1) := by decide +kernel
theorem dX4_capture_56 : decode cX4_capture 56 = .ok (.lstore 10, 2) := by decide +kernel
theorem dX4_capture_58 : decode cX4_capture 58 = .ok (.lload 6, 2) := by decide +kernel
theorem dX4_capture_60 : decode cX4_capture 60 = .ok (.lload 10, 2) := by decide +kernel
theorem dX4_capture_62 : decode cX4_capture 62 = .ok (.ldc2_w 54, 3) := by decide +kernel
theorem dX4_capture_65 : decode cX4_capture 65 = .ok (.lxor, 1) := by decide +kernel
theorem dX4_capture_66 : decode cX4_capture 66 = .ok (.land, 1) := by decide +kernel
theorem dX4_capture_67 : decode cX4_capture 67 = .ok (.aload_n 1, 1) := by decide +kernel
theorem dX4_capture_68 : decode cX4_capture 68 = .ok (.lload 10, 2) := by decide +kernel
theorem dX4_capture_70 : decode cX4_capture 70 = .ok (.lload_n 2, 1) := by decide +kernel
theorem dX4_capture_71 : decode cX4_capture 71 = .ok (.lload 4, 2) := by decide +kernel
theorem dX4_capture_73 : decode cX4_capture 73 = .ok (.invokestatic 80, 3) := by decide +kernel
theorem dX4_capture_76 : decode cX4_capture 76 = .ok (.lor, 1) := by decide +kernel
theorem dX4_capture_77 : decode cX4_capture 77 = .ok (.lstore 12, 2) := by decide +kernel
theorem dX4_capture_79 : decode cX4_capture 79 = .ok (.lload 8, 2) := by decide +kernel
theorem dX4_capture_81 : decode cX4_capture 81 = .ok (.lload 10, 2) := by decide +kernel
theorem dX4_capture_83 : decode cX4_capture 83 = .ok (.ldc2_w 54, 3) := by decide +kernel
theorem dX4_capture_86 : decode cX4_capture 86 = .ok (.lxor, 1) := by decide +kernel
theorem dX4_capture_87 : decode cX4_capture 87 = .ok (.land, 1) := by decide +kernel
theorem dX4_capture_88 : decode cX4_capture 88 = .ok (.aload_n 1, 1) := by decide +kernel
theorem dX4_capture_89 : decode cX4_capture 89 = .ok (.lload 10, 2) := by decide +kernel
theorem dX4_capture_91 : decode cX4_capture 91 = .ok (.lload 4, 2) := by decide +kernel
theorem dX4_capture_93 : decode cX4_capture 93 = .ok (.lload_n 2, 1) := by decide +kernel
theorem dX4_capture_94 : decode cX4_capture 94 = .ok (.invokestatic 80, 3) := by decide +kernel
theorem dX4_capture_97 : decode cX4_capture 97 = .ok (.lor, 1) := by decide +kernel
theorem dX4_capture_98 : decode cX4_capture 98 = .ok (.lstore 14, 2) := by decide +kernel
theorem dX4_capture_100 : decode cX4_capture 100 = .ok (.aload_n 0, 1) := by decide +kernel
theorem dX4_capture_101 : decode cX4_capture 101 = .ok (.dup, 1) := by decide +kernel
theorem dX4_capture_102 : decode cX4_capture 102 = .ok (.getfield 15, 3) := by decide +kernel
theorem dX4_capture_105 : decode cX4_capture 105 = .ok (.lload 12, 2) := by decide +kernel
theorem dX4_capture_107 : decode cX4_capture 107 = .ok (.aload_n 0, 1) := by decide +kernel
theorem dX4_capture_108 : decode cX4_capture 108 = .ok (.getfield 9, 3) := by decide +kernel
theorem dX4_capture_111 : decode cX4_capture 111 = .ok (.iconst 2, 1) := by decide +kernel
theorem dX4_capture_112 : decode cX4_capture 112 = .ok (.laload, 1) := by decide +kernel
theorem dX4_capture_113 : decode cX4_capture 113 = .ok (.land, 1) := by decide +kernel
theorem dX4_capture_114 : decode cX4_capture 114 = .ok (.invokestatic 32, 3) := by decide +kernel
theorem dX4_capture_117 : decode cX4_capture 117 = .ok (.iadd, 1) := by decide +kernel
theorem dX4_capture_118 : decode cX4_capture 118 = .ok (.putfield 15, 3) := by decide +kernel
theorem dX4_capture_121 : decode cX4_capture 121 = .ok (.aload_n 0, 1) := by decide +kernel
theorem dX4_capture_122 : decode cX4_capture 122 = .ok (.dup, 1) := by decide +kernel
theorem dX4_capture_123 : decode cX4_capture 123 = .ok (.getfield 19, 3) := by decide +kernel
theorem dX4_capture_126 : decode cX4_capture 126 = .ok (.lload 14, 2) := by decide +kernel
theorem dX4_capture_128 : decode cX4_capture 128 = .ok (.aload_n 0, 1) := by decide +kernel
theorem dX4_capture_129 : decode cX4_capture 129 = .ok (.getfield 9, 3) := by decide +kernel
theorem dX4_capture_132 : decode cX4_capture 132 = .ok (.iconst 1, 1) := by decide +kernel
theorem dX4_capture_133 : decode cX4_capture 133 = .ok (.laload, 1) := by decide +kernel
theorem dX4_capture_134 : decode cX4_capture 134 = .ok (.land, 1) := by decide +kernel
theorem dX4_capture_135 : decode cX4_capture 135 = .ok (.invokestatic 32, 3) := by decide +kernel
theorem dX4_capture_138 : decode cX4_capture 138 = .ok (.iadd, 1) := by decide +kernel
theorem dX4_capture_139 : decode cX4_capture 139 = .ok (.putfield 19, 3) := by decide +kernel
theorem dX4_capture_142 : decode cX4_capture 142 = .ok (.aload_n 0, 1) := by decide +kernel
theorem dX4_capture_143 : decode cX4_capture 143 = .ok (.lload 12, 2) := by decide +kernel
theorem dX4_capture_145 : decode cX4_capture 145 = .ok (.iconst 3, 1) := by decide +kernel
theorem dX4_capture_146 : decode cX4_capture 146 = .ok (.invokevirtual 73, 3) := by decide +kernel
theorem dX4_capture_149 : decode cX4_capture 149 = .ok (.aload_n 0, 1) := by decide +kernel
theorem dX4_capture_150 : decode cX4_capture 150 = .ok (.lload 14, 2) := by decide +kernel
theorem dX4_capture_152 : decode cX4_capture 152 = .ok (.iconst 4, 1) := by decide +kernel
theorem dX4_capture_153 : decode cX4_capture 153 = .ok (.invokevirtual 73, 3) := by decide +kernel
theorem dX4_capture_156 : decode cX4_capture 156 = .ok (.lload 12, 2) := by decide +kernel
theorem dX4_capture_158 : decode cX4_capture 158 = .ok (.lload 14, 2) := by decide +kernel
theorem dX4_capture_160 : decode cX4_capture 160 = .ok (.lor, 1) := by decide +kernel
theorem dX4_capture_161 : decode cX4_capture 161 = .ok (.lreturn, 1) := by decide +kernel
theorem dX4_inLargerRegion_0 : decode cX4_inLargerRegion 0 = .ok (.lconst 0, 1) := by decide +kernel
theorem dX4_inLargerRegion_1 : decode cX4_inLargerRegion 1 = .ok (.lstore 7, 2) := by decide +kernel
theorem dX4_inLargerRegion_3 : decode cX4_inLargerRegion 3 = .ok (.iconst 0, 1) := by decide +kernel
theorem dX4_inLargerRegion_4 : decode cX4_inLargerRegion 4 = .ok (.istore 9, 2) := by decide +kernel
theorem dX4_inLargerRegion_6 : decode cX4_inLargerRegion 6 = .ok (.lload_n 1, 1) := by decide +kernel
theorem dX4_inLargerRegion_7 : decode cX4_inLargerRegion 7 = .ok (.lconst 0, 1) := by decide +kernel
theorem dX4_inLargerRegion_8 : decode cX4_inLargerRegion 8 = .ok (.lcmp, 1) := by decide +kernel
theorem dX4_inLargerRegion_9 : decode cX4_inLargerRegion 9 = .ok (.ifCond .eq 57, 3) := by decide +kernel
theorem dX4_inLargerRegion_12 : decode cX4_inLargerRegion 12 = .ok (.iload 9, 2) := by decide +kernel
theorem dX4_inLargerRegion_14 : decode cX4_inLargerRegion 14 = .ok (.aload_n 0, 1) := by decide +kernel
theorem dX4_inLargerRegion_15 : decode cX4_inLargerRegion 15 = .ok (.getfield 60, 3) := by decide +kernel
theorem dX4_inLargerRegion_18 : decode cX4_inLargerRegion 18 = .ok (.if_icmp .ge 48, 3) := by decide +kernel
theorem dX4_inLargerRegion_21 : decode cX4_inLargerRegion 21 = .ok (.lload_n 1, 1) := by decide +kernel
theorem dX4_inLargerRegion_22 : decode cX4_inLargerRegion 22 = .ok (.lconst 1, 1) := by decide +kernel
theorem dX4_inLargerRegion_23 : decode cX4_inLargerRegion 23 = .ok (.iload 9, 2) := by decide +kernel
theorem dX4_inLargerRegion_25 : decode cX4_inLargerRegion 25 = .ok (.lshl, 1) := by decide +kernel
theorem dX4_inLargerRegion_26 : decode cX4_inLargerRegion 26 = .ok (.land, 1) := by decide +kernel
theorem dX4_inLargerRegion_27 : decode cX4_inLargerRegion 27 = .ok (.lstore 10, 2) := by decide +kernel
theorem dX4_inLargerRegion_29 : decode cX4_inLargerRegion 29 = .ok (.aload_n 0, 1) := by decide +kernel
theorem dX4_inLargerRegion_30 : decode cX4_inLargerRegion 30 = .ok (.lload 10, 2) := by decide +kernel
theorem dX4_inLargerRegion_32 : decode cX4_inLargerRegion 32 = .ok (.lload_n 3, 1) := by decide +kernel
theorem dX4_inLargerRegion_33 : decode cX4_inLargerRegion 33 = .ok (.invokevirtual 63, 3) := by decide +kernel
theorem dX4_inLargerRegion_36 : decode cX4_inLargerRegion 36 = .ok (.invokestatic 32, 3) := by decide +kernel
theorem dX4_inLargerRegion_39 : decode cX4_inLargerRegion 39 = .ok (.aload_n 0, 1) := by decide +kernel
theorem dX4_inLargerRegion_40 : decode cX4_inLargerRegion 40 = .ok (.lload 10, 2) := by decide +kernel
theorem dX4_inLargerRegion_42 : decode cX4_inLargerRegion 42 = .ok (.lload 5, 2) := by decide +kernel
theorem dX4_inLargerRegion_44 : decode cX4_inLargerRegion 44 = .ok (.invokevirtual 63, 3) := by decide +kernel
theorem dX4_inLargerRegion_47 : decode cX4_inLargerRegion 47 = .ok (.invokestatic 32, 3) := by decide +kernel
theorem dX4_inLargerRegion_50 : decode cX4_inLargerRegion 50 = .ok (.if_icmp .le 10, 3) := by decide +kernel
theorem dX4_inLargerRegion_53 : decode cX4_inLargerRegion 53 = .ok (.lload 7, 2) := by decide +kernel
theorem dX4_inLargerRegion_55 : decode cX4_inLargerRegion 55 = .ok (.lload 10, 2) := by decide +kernel
theorem dX4_inLargerRegion_57 : decode cX4_inLargerRegion 57 = .ok (.lor, 1) := by decide +kernel
theorem dX4_inLargerRegion_58 : decode cX4_inLargerRegion 58 = .ok (.lstore 7, 2) := by decide +kernel
theorem dX4_inLargerRegion_60 : decode cX4_inLargerRegion 60 = .ok (.iinc 9 1, 3) := by decide +kernel
theorem dX4_inLargerRegion_63 : decode cX4_inLargerRegion 63 = .ok (.goto (-57), 3) := by decide +kernel
theorem dX4_inLargerRegion_66 : decode cX4_inLargerRegion 66 = .ok (.lload 7, 2) := by decide +kernel
theorem dX4_inLargerRegion_68 : decode cX4_inLargerRegion 68 = .ok (.lreturn, 1) := by decide +kernel
theorem dX4_stonesAround_0 : decode cX4_stonesAround 0 = .ok (.lconst 1, 1) := by decide +kernel
theorem dX4_stonesAround_1 : decode cX4_stonesAround 1 = .ok (.iload_n 3, 1) := by decide +kernel
theorem dX4_stonesAround_2 : decode cX4_stonesAround 2 = .ok (.lshl, 1) := by decide +kernel
theorem dX4_stonesAround_3 : decode cX4_stonesAround 3 = .ok (.lstore 4, 2) := by decide +kernel
theorem dX4_stonesAround_5 : decode cX4_stonesAround 5 = .ok (.aload_n 0, 1) := by decide +kernel
theorem dX4_stonesAround_6 : decode cX4_stonesAround 6 = .ok (.aload_n 1, 1) := by decide +kernel
theorem dX4_stonesAround_7 : decode cX4_stonesAround 7 = .ok (.iload_n 2, 1) := by decide +kernel
theorem dX4_stonesAround_8 : decode cX4_stonesAround 8 = .ok (.invokevirtual 56, 3) := by decide +kernel
theorem dX4_stonesAround_11 : decode cX4_stonesAround 11 = .ok (.lstore 6, 2) := by decide +kernel
theorem dX4_stonesAround_13 : decode cX4_stonesAround 13 = .ok (.aload_n 0, 1) := by decide +kernel
theorem dX4_stonesAround_14 : decode cX4_stonesAround 14 = .ok (.getfield 9, 3) := by decide +kernel
theorem dX4_stonesAround_17 : decode cX4_stonesAround 17 = .ok (.iconst 0, 1) := by decide +kernel
theorem dX4_stonesAround_18 : decode cX4_stonesAround 18 = .ok (.laload, 1) := by decide +kernel
theorem dX4_stonesAround_19 : decode cX4_stonesAround 19 = .ok (.lload 4, 2) := by decide +kernel
theorem dX4_stonesAround_21 : decode cX4_stonesAround 21 = .ok (.ldc2_w 54, 3) := by decide +kernel
theorem dX4_stonesAround_24 : decode cX4_stonesAround 24 = .ok (.lxor, 1) := by decide +kernel
theorem dX4_stonesAround_25 : decode cX4_stonesAround 25 = .ok (.land, 1) := by decide +kernel
theorem dX4_stonesAround_26 : decode cX4_stonesAround 26 = .ok (.lstore 8, 2) := by decide +kernel
theorem dX4_stonesAround_28 : decode cX4_stonesAround 28 = .ok (.aload_n 1, 1) := by decide +kernel
theorem dX4_stonesAround_29 : decode cX4_stonesAround 29 = .ok (.lload 4, 2) := by decide +kernel
theorem dX4_stonesAround_31 : decode cX4_stonesAround 31 = .ok (.lload 6, 2) := by decide +kernel
theorem dX4_stonesAround_33 : decode cX4_stonesAround 33 = .ok (.invokevirtual 84, 3) := by decide +kernel
theorem dX4_stonesAround_36 : decode cX4_stonesAround 36 = .ok (.ifCond .eq 5, 3) := by decide +kernel
theorem dX4_stonesAround_39 : decode cX4_stonesAround 39 = .ok (.iconst 0, 1) := by decide +kernel
theorem dX4_stonesAround_40 : decode cX4_stonesAround 40 = .ok (.ireturn, 1) := by decide +kernel
theorem dX4_stonesAround_41 : decode cX4_stonesAround 41 = .ok (.aload_n 1, 1) := by decide +kernel
theorem dX4_stonesAround_42 : decode cX4_stonesAround 42 = .ok (.lload 4, 2) := by decide +kernel
theorem dX4_stonesAround_44 : decode cX4_stonesAround 44 = .ok (.lload 6, 2) := by decide +kernel
theorem dX4_stonesAround_46 : decode cX4_stonesAround 46 = .ok (.lload 8, 2) := by decide +kernel
theorem dX4_stonesAround_48 : decode cX4_stonesAround 48 = .ok (.invokestatic 88, 3) := by decide +kernel
theorem dX4_stonesAround_51 : decode cX4_stonesAround 51 = .ok (.ifCond .eq 5, 3) := by decide +kernel
theorem dX4_stonesAround_54 : decode cX4_stonesAround 54 = .ok (.iconst 1, 1) := by decide +kernel
theorem dX4_stonesAround_55 : decode cX4_stonesAround 55 = .ok (.ireturn, 1) := by decide +kernel
theorem dX4_stonesAround_56 : decode cX4_stonesAround 56 = .ok (.iconst 0, 1) := by decide +kernel
theorem dX4_stonesAround_57 : decode cX4_stonesAround 57 = .ok (.istore 10, 2) := by decide +kernel
theorem dX4_stonesAround_59 : decode cX4_stonesAround 59 = .ok (.iload 10, 2) := by decide +kernel
theorem dX4_stonesAround_61 : decode cX4_stonesAround 61 = .ok (.aload_n 1, 1) := by decide +kernel
theorem dX4_stonesAround_62 : decode cX4_stonesAround 62 = .ok (.getfield 60, 3) := by decide +kernel
theorem dX4_stonesAround_65 : decode cX4_stonesAround 65 = .ok (.if_icmp .ge 58, 3) := by decide +kernel
theorem dX4_stonesAround_68 : decode cX4_stonesAround 68 = .ok (.lload 8, 2) := by decide +kernel
theorem dX4_stonesAround_70 : decode cX4_stonesAround 70 = .ok (.lconst 1, 1) := by decide +kernel
theorem dX4_stonesAround_71 : decode cX4_stonesAround 71 = .ok (.iload 10, 2) := by decide +kernel
theorem dX4_stonesAround_73 : decode cX4_stonesAround 73 = .ok (.lshl, 1) := by decide +kernel
theorem dX4_stonesAround_74 : decode cX4_stonesAround 74 = .ok (.land, 1) := by decide +kernel
theorem dX4_stonesAround_75 : decode cX4_stonesAround 75 = .ok (.lstore 11, 2) := by decide +kernel
theorem dX4_stonesAround_77 : decode cX4_stonesAround 77 = .ok (.lload 8, 2) := by decide +kernel
theorem dX4_stonesAround_79 : decode cX4_stonesAround 79 = .ok (.lload 11, 2) := by decide +kernel
theorem dX4_stonesAround_81 : decode cX4_stonesAround 81 = .ok (.ldc2_w 54, 3) := by decide +kernel
theorem dX4_stonesAround_84 : decode cX4_stonesAround 84 = .ok (.lxor, 1) := by decide +kernel
theorem dX4_stonesAround_85 : decode cX4_stonesAround 85 = .ok (.land, 1) := by decide +kernel
theorem dX4_stonesAround_86 : decode cX4_stonesAround 86 = .ok (.lstore 8, 2) := by decide +kernel
theorem dX4_stonesAround_88 : decode cX4_stonesAround 88 = .ok (.lload 11, 2) := by decide +kernel
theorem dX4_stonesAround_90 : decode cX4_stonesAround 90 = .ok (.lconst 0, 1) := by decide +kernel
theorem dX4_stonesAround_91 : decode cX4_stonesAround 91 = .ok (.lcmp, 1) := by decide +kernel
theorem dX4_stonesAround_92 : decode cX4_stonesAround 92 = .ok (.ifCond .eq 25, 3) := by decide +kernel
theorem dX4_stonesAround_95 : decode cX4_stonesAround 95 = .ok (.aload_n 1, 1) := by decide +kernel
theorem dX4_stonesAround_96 : decode cX4_stonesAround 96 = .ok (.lload 4, 2) := by decide +kernel
theorem dX4_stonesAround_98 : decode cX4_stonesAround 98 = .ok (.lload 6, 2) := by decide +kernel
theorem dX4_stonesAround_100 : decode cX4_stonesAround 100 = .ok (.lload 11, 2) := by decide +kernel
theorem dX4_stonesAround_102 : decode cX4_stonesAround 102 = .ok (.ldc2_w 54, 3) := by decide +kernel
theorem dX4_stonesAround_105 : decode cX4_stonesAround 105 = .ok (.lxor, 1) := by decide +kernel
theorem dX4_stonesAround_106 : decode cX4_stonesAround 106 = .ok (.land, 1) := by decide +kernel
theorem dX4_stonesAround_107 : decode cX4_stonesAround 107 = .ok (.lload 8, 2) := by decide +kernel
theorem dX4_stonesAround_109 : decode cX4_stonesAround 109 = .ok (.invokestatic 88, 3) := by decide +kernel
theorem dX4_stonesAround_112 : decode cX4_stonesAround 112 = .ok (.ifCond .eq 5, 3) := by decide +kernel
theorem dX4_stonesAround_115 : decode cX4_stonesAround 115 = .ok (.iconst 2, 1) := by decide +kernel
theorem dX4_stonesAround_116 : decode cX4_stonesAround 116 = .ok (.ireturn, 1) := by decide +kernel
theorem dX4_stonesAround_117 : decode cX4_stonesAround 117 = .ok (.iinc 10 1, 3) := by decide +kernel
theorem dX4_stonesAround_120 : decode cX4_stonesAround 120 = .ok (.goto (-61), 3) := by decide +kernel
theorem dX4_stonesAround_123 : decode cX4_stonesAround 123 = .ok (.iconst 3, 1) := by decide +kernel
theorem dX4_stonesAround_124 : decode cX4_stonesAround 124 = .ok (.ireturn, 1) := by decide +kernel
theorem dX4_oneStoneEncloses_0 : decode cX4_oneStoneEncloses 0 = .ok (.iconst 0, 1) := by decide +kernel
theorem dX4_oneStoneEncloses_1 : decode cX4_oneStoneEncloses 1 = .ok (.istore 7, 2) := by decide +kernel
theorem dX4_oneStoneEncloses_3 : decode cX4_oneStoneEncloses 3 = .ok (.iload 7, 2) := by decide +kernel
theorem dX4_oneStoneEncloses_5 : decode cX4_oneStoneEncloses 5 = .ok (.aload_n 0, 1) := by decide +kernel
theorem dX4_oneStoneEncloses_6 : decode cX4_oneStoneEncloses 6 = .ok (.getfield 60, 3) := by decide +kernel
theorem dX4_oneStoneEncloses_9 : decode cX4_oneStoneEncloses 9 = .ok (.if_icmp .ge 43, 3) := by decide +kernel
theorem dX4_oneStoneEncloses_12 : decode cX4_oneStoneEncloses 12 = .ok (.lload 5, 2) := by decide +kernel
theorem dX4_oneStoneEncloses_14 : decode cX4_oneStoneEncloses 14 = .ok (.lconst 1, 1) := by decide +kernel
theorem dX4_oneStoneEncloses_15 : decode cX4_oneStoneEncloses 15 = .ok (.iload 7, 2) := by decide +kernel
theorem dX4_oneStoneEncloses_17 : decode cX4_oneStoneEncloses 17 = .ok (.lshl, 1) := by decide +kernel
theorem dX4_oneStoneEncloses_18 : decode cX4_oneStoneEncloses 18 = .ok (.land, 1) := by decide +kernel
theorem dX4_oneStoneEncloses_19 : decode cX4_oneStoneEncloses 19 = .ok (.lstore 8, 2) := by decide +kernel
theorem dX4_oneStoneEncloses_21 : decode cX4_oneStoneEncloses 21 = .ok (.lload 8, 2) := by decide +kernel
theorem dX4_oneStoneEncloses_23 : decode cX4_oneStoneEncloses 23 = .ok (.lconst 0, 1) := by decide +kernel
theorem dX4_oneStoneEncloses_24 : decode cX4_oneStoneEncloses 24 = .ok (.lcmp, 1) := by decide +kernel
theorem dX4_oneStoneEncloses_25 : decode cX4_oneStoneEncloses 25 = .ok (.ifCond .eq 21, 3) := by decide +kernel
theorem dX4_oneStoneEncloses_28 : decode cX4_oneStoneEncloses 28 = .ok (.aload_n 0, 1) := by decide +kernel
theorem dX4_oneStoneEncloses_29 : decode cX4_oneStoneEncloses 29 = .ok (.lload_n 1, 1) := by decide +kernel
theorem dX4_oneStoneEncloses_30 : decode cX4_oneStoneEncloses 30 = .ok (.lload_n 3, 1) := by decide +kernel
theorem dX4_oneStoneEncloses_31 : decode cX4_oneStoneEncloses 31 = .ok (.lload 8, 2) := by decide +kernel
theorem dX4_oneStoneEncloses_33 : decode cX4_oneStoneEncloses 33 = .ok (.ldc2_w 54, 3) := by decide +kernel
theorem dX4_oneStoneEncloses_36 : decode cX4_oneStoneEncloses 36 = .ok (.lxor, 1) := by decide +kernel
theorem dX4_oneStoneEncloses_37 : decode cX4_oneStoneEncloses 37 = .ok (.land, 1) := by decide +kernel
theorem dX4_oneStoneEncloses_38 : decode cX4_oneStoneEncloses 38 = .ok (.invokevirtual 84, 3) := by decide +kernel
theorem dX4_oneStoneEncloses_41 : decode cX4_oneStoneEncloses 41 = .ok (.ifCond .eq 5, 3) := by decide +kernel
theorem dX4_oneStoneEncloses_44 : decode cX4_oneStoneEncloses 44 = .ok (.iconst 1, 1) := by decide +kernel
theorem dX4_oneStoneEncloses_45 : decode cX4_oneStoneEncloses 45 = .ok (.ireturn, 1) := by decide +kernel
theorem dX4_oneStoneEncloses_46 : decode cX4_oneStoneEncloses 46 = .ok (.iinc 7 1, 3) := by decide +kernel
theorem dX4_oneStoneEncloses_49 : decode cX4_oneStoneEncloses 49 = .ok (.goto (-46), 3) := by decide +kernel
theorem dX4_oneStoneEncloses_52 : decode cX4_oneStoneEncloses 52 = .ok (.iconst 0, 1) := by decide +kernel
theorem dX4_oneStoneEncloses_53 : decode cX4_oneStoneEncloses 53 = .ok (.ireturn, 1) := by decide +kernel
theorem dX5_init_0 : decode cX5_init 0 = .ok (.aload_n 0, 1) := by decide +kernel
theorem dX5_init_1 : decode cX5_init 1 = .ok (.invokespecial 3, 3) := by decide +kernel
theorem dX5_init_4 : decode cX5_init 4 = .ok (.aload_n 0, 1) := by decide +kernel
theorem dX5_init_5 : decode cX5_init 5 = .ok (.iconst 4, 1) := by decide +kernel
theorem dX5_init_6 : decode cX5_init 6 = .ok (.newarray .int, 2) := by decide +kernel
theorem dX5_init_8 : decode cX5_init 8 = .ok (.putfield 9, 3) := by decide +kernel
theorem dX5_init_11 : decode cX5_init 11 = .ok (.aload_n 0, 1) := by decide +kernel
theorem dX5_init_12 : decode cX5_init 12 = .ok (.iconst 4, 1) := by decide +kernel
theorem dX5_init_13 : decode cX5_init 13 = .ok (.newarray .int, 2) := by decide +kernel
theorem dX5_init_15 : decode cX5_init 15 = .ok (.putfield 15, 3) := by decide +kernel
theorem dX5_init_18 : decode cX5_init 18 = .ok (.return_, 1) := by decide +kernel
theorem dX5_tell_0 : decode cX5_tell 0 = .ok (.aload_n 0, 1) := by decide +kernel
theorem dX5_tell_1 : decode cX5_tell 1 = .ok (.iconst 0, 1) := by decide +kernel
theorem dX5_tell_2 : decode cX5_tell 2 = .ok (.putfield 18, 3) := by decide +kernel
theorem dX5_tell_5 : decode cX5_tell 5 = .ok (.aload_n 0, 1) := by decide +kernel
theorem dX5_tell_6 : decode cX5_tell 6 = .ok (.iconst 1, 1) := by decide +kernel
theorem dX5_tell_7 : decode cX5_tell 7 = .ok (.aload_n 1, 1) := by decide +kernel
theorem dX5_tell_8 : decode cX5_tell 8 = .ok (.getfield 22, 3) := by decide +kernel
theorem dX5_tell_11 : decode cX5_tell 11 = .ok (.invokevirtual 27, 3) := by decide +kernel
theorem dX5_tell_14 : decode cX5_tell 14 = .ok (.aload_n 0, 1) := by decide +kernel
theorem dX5_tell_15 : decode cX5_tell 15 = .ok (.iload_n 2, 1) := by decide +kernel
theorem dX5_tell_16 : decode cX5_tell 16 = .ok (.iload_n 3, 1) := by decide +kernel
theorem dX5_tell_17 : decode cX5_tell 17 = .ok (.invokevirtual 27, 3) := by decide +kernel
theorem dX5_tell_20 : decode cX5_tell 20 = .ok (.aload_n 1, 1) := by decide +kernel
theorem dX5_tell_21 : decode cX5_tell 21 = .ok (.iload_n 3, 1) := by decide +kernel
theorem dX5_tell_22 : decode cX5_tell 22 = .ok (.invokevirtual 31, 3) := by decide +kernel
theorem dX5_tell_25 : decode cX5_tell 25 = .ok (.istore 4, 2) := by decide +kernel
theorem dX5_tell_27 : decode cX5_tell 27 = .ok (.aload_n 0, 1) := by decide +kernel
theorem dX5_tell_28 : decode cX5_tell 28 = .ok (.bipush 10, 2) := by decide +kernel
theorem dX5_tell_30 : decode cX5_tell 30 = .ok (.aload_n 1, 1) := by decide +kernel
theorem dX5_tell_31 : decode cX5_tell 31 = .ok (.invokevirtual 35, 3) := by decide +kernel
theorem dX5_tell_34 : decode cX5_tell 34 = .ok (.iload_n 3, 1) := by decide +kernel
theorem dX5_tell_35 : decode cX5_tell 35 = .ok (.invokevirtual 39, 3) := by decide +kernel
theorem dX5_tell_38 : decode cX5_tell 38 = .ok (.iadd, 1) := by decide +kernel
theorem dX5_tell_39 : decode cX5_tell 39 = .ok (.iload 4, 2) := by decide +kernel
theorem dX5_tell_41 : decode cX5_tell 41 = .ok (.invokevirtual 27, 3) := by decide +kernel
theorem dX5_tell_44 : decode cX5_tell 44 = .ok (.aload_n 1, 1) := by decide +kernel
theorem dX5_tell_45 : decode cX5_tell 45 = .ok (.iload_n 3, 1) := by decide +kernel
theorem dX5_tell_46 : decode cX5_tell 46 = .ok (.invokevirtual 44, 3) := by decide +kernel
theorem dX5_tell_49 : decode cX5_tell 49 = .ok (.istore 5, 2) := by decide +kernel
theorem dX5_tell_51 : decode cX5_tell 51 = .ok (.iload 5, 2) := by decide +kernel
theorem dX5_tell_53 : decode cX5_tell 53 = .ok (.ifCond .lt 36, 3) := by decide +kernel
theorem dX5_tell_56 : decode cX5_tell 56 = .ok (.iload 4, 2) := by decide +kernel
theorem dX5_tell_58 : decode cX5_tell 58 = .ok (.ifCond .lt 31, 3) := by decide +kernel
theorem dX5_tell_61 : decode cX5_tell 61 = .ok (.iload 4, 2) := by decide +kernel
theorem dX5_tell_63 : decode cX5_tell 63 = .ok (.bipush 60, 2) := by decide +kernel
theorem dX5_tell_65 : decode cX5_tell 65 = .ok (.if_icmp .ge 24, 3) := by decide +kernel
theorem dX5_tell_68 : decode cX5_tell 68 = .ok (.aload_n 0, 1) := by decide +kernel
theorem dX5_tell_69 : decode cX5_tell 69 = .ok (.bipush 20, 2) := by decide +kernel
theorem dX5_tell_71 : decode cX5_tell 71 = .ok (.iload 5, 2) := by decide +kernel
theorem dX5_tell_73 : decode cX5_tell 73 = .ok (.iadd, 1) := by decide +kernel
theorem dX5_tell_74 : decode cX5_tell 74 = .ok (.aload_n 1, 1) := by decide +kernel
theorem dX5_tell_75 : decode cX5_tell 75 = .ok (.getfield 47, 3) := by decide +kernel
theorem dX5_tell_78 : decode cX5_tell 78 = .ok (.iload 4, 2) := by decide +kernel
theorem dX5_tell_80 : decode cX5_tell 80 = .ok (.aaload, 1) := by decide +kernel
theorem dX5_tell_81 : decode cX5_tell 81 = .ok (.iload 5, 2) := by decide +kernel
theorem dX5_tell_83 : decode cX5_tell 83 = .ok (.invokevirtual 51, 3) := by decide +kernel
theorem dX5_tell_86 : decode cX5_tell 86 = .ok (.invokevirtual 27, 3) := by decide +kernel
theorem dX5_tell_89 : decode cX5_tell 89 = .ok (.return_, 1) := by decide +kernel
theorem dX5_add_0 : decode cX5_add 0 = .ok (.aload_n 0, 1) := by decide +kernel
theorem dX5_add_1 : decode cX5_add 1 = .ok (.getfield 18, 3) := by decide +kernel
theorem dX5_add_4 : decode cX5_add 4 = .ok (.ifCond .lt 41, 3) := by decide +kernel
theorem dX5_add_7 : decode cX5_add 7 = .ok (.aload_n 0, 1) := by decide +kernel
theorem dX5_add_8 : decode cX5_add 8 = .ok (.getfield 18, 3) := by decide +kernel
theorem dX5_add_11 : decode cX5_add 11 = .ok (.iconst 4, 1) := by decide +kernel
theorem dX5_add_12 : decode cX5_add 12 = .ok (.if_icmp .ge 33, 3) := by decide +kernel
theorem dX5_add_15 : decode cX5_add 15 = .ok (.aload_n 0, 1) := by decide +kernel
theorem dX5_add_16 : decode cX5_add 16 = .ok (.getfield 9, 3) := by decide +kernel
theorem dX5_add_19 : decode cX5_add 19 = .ok (.aload_n 0, 1) := by decide +kernel
theorem dX5_add_20 : decode cX5_add 20 = .ok (.getfield 18, 3) := by decide +kernel
theorem dX5_add_23 : decode cX5_add 23 = .ok (.iload_n 1, 1) := by decide +kernel
theorem dX5_add_24 : decode cX5_add 24 = .ok (.iastore, 1) := by decide +kernel
theorem dX5_add_25 : decode cX5_add 25 = .ok (.aload_n 0, 1) := by decide +kernel
theorem dX5_add_26 : decode cX5_add 26 = .ok (.getfield 15, 3) := by decide +kernel
theorem dX5_add_29 : decode cX5_add 29 = .ok (.aload_n 0, 1) := by decide +kernel
theorem dX5_add_30 : decode cX5_add 30 = .ok (.getfield 18, 3) := by decide +kernel
theorem dX5_add_33 : decode cX5_add 33 = .ok (.iload_n 2, 1) := by decide +kernel
theorem dX5_add_34 : decode cX5_add 34 = .ok (.iastore, 1) := by decide +kernel
theorem dX5_add_35 : decode cX5_add 35 = .ok (.aload_n 0, 1) := by decide +kernel
theorem dX5_add_36 : decode cX5_add 36 = .ok (.dup, 1) := by decide +kernel
theorem dX5_add_37 : decode cX5_add 37 = .ok (.getfield 18, 3) := by decide +kernel
theorem dX5_add_40 : decode cX5_add 40 = .ok (.iconst 1, 1) := by decide +kernel
theorem dX5_add_41 : decode cX5_add 41 = .ok (.iadd, 1) := by decide +kernel
theorem dX5_add_42 : decode cX5_add 42 = .ok (.putfield 18, 3) := by decide +kernel
theorem dX5_add_45 : decode cX5_add 45 = .ok (.return_, 1) := by decide +kernel
theorem dX6_init_0 : decode cX6_init 0 = .ok (.aload_n 0, 1) := by decide +kernel
theorem dX6_init_1 : decode cX6_init 1 = .ok (.invokespecial 3, 3) := by decide +kernel
theorem dX6_init_4 : decode cX6_init 4 = .ok (.aload_n 0, 1) := by decide +kernel
theorem dX6_init_5 : decode cX6_init 5 = .ok (.new 9, 3) := by decide +kernel
theorem dX6_init_8 : decode cX6_init 8 = .ok (.dup, 1) := by decide +kernel
theorem dX6_init_9 : decode cX6_init 9 = .ok (.invokespecial 11, 3) := by decide +kernel
theorem dX6_init_12 : decode cX6_init 12 = .ok (.putfield 12, 3) := by decide +kernel
theorem dX6_init_15 : decode cX6_init 15 = .ok (.aload_n 0, 1) := by decide +kernel
theorem dX6_init_16 : decode cX6_init 16 = .ok (.bipush 8, 2) := by decide +kernel
theorem dX6_init_18 : decode cX6_init 18 = .ok (.newarray .long, 2) := by decide +kernel
theorem dX6_init_20 : decode cX6_init 20 = .ok (.putfield 18, 3) := by decide +kernel
theorem dX6_init_23 : decode cX6_init 23 = .ok (.return_, 1) := by decide +kernel
theorem dX6_copyFrom_0 : decode cX6_copyFrom 0 = .ok (.aload_n 0, 1) := by decide +kernel
theorem dX6_copyFrom_1 : decode cX6_copyFrom 1 = .ok (.aload_n 1, 1) := by decide +kernel
theorem dX6_copyFrom_2 : decode cX6_copyFrom 2 = .ok (.getfield 22, 3) := by decide +kernel
theorem dX6_copyFrom_5 : decode cX6_copyFrom 5 = .ok (.putfield 22, 3) := by decide +kernel
theorem dX6_copyFrom_8 : decode cX6_copyFrom 8 = .ok (.aload_n 0, 1) := by decide +kernel
theorem dX6_copyFrom_9 : decode cX6_copyFrom 9 = .ok (.aload_n 1, 1) := by decide +kernel
theorem dX6_copyFrom_10 : decode cX6_copyFrom 10 = .ok (.getfield 26, 3) := by decide +kernel
theorem dX6_copyFrom_13 : decode cX6_copyFrom 13 = .ok (.putfield 26, 3) := by decide +kernel
theorem dX6_copyFrom_16 : decode cX6_copyFrom 16 = .ok (.aload_n 0, 1) := by decide +kernel
theorem dX6_copyFrom_17 : decode cX6_copyFrom 17 = .ok (.aload_n 1, 1) := by decide +kernel
theorem dX6_copyFrom_18 : decode cX6_copyFrom 18 = .ok (.getfield 29, 3) := by decide +kernel
theorem dX6_copyFrom_21 : decode cX6_copyFrom 21 = .ok (.putfield 29, 3) := by decide +kernel
theorem dX6_copyFrom_24 : decode cX6_copyFrom 24 = .ok (.aload_n 0, 1) := by decide +kernel
theorem dX6_copyFrom_25 : decode cX6_copyFrom 25 = .ok (.aload_n 1, 1) := by decide +kernel
theorem dX6_copyFrom_26 : decode cX6_copyFrom 26 = .ok (.getfield 32, 3) := by decide +kernel
theorem dX6_copyFrom_29 : decode cX6_copyFrom 29 = .ok (.putfield 32, 3) := by decide +kernel
theorem dX6_copyFrom_32 : decode cX6_copyFrom 32 = .ok (.aload_n 0, 1) := by decide +kernel
theorem dX6_copyFrom_33 : decode cX6_copyFrom 33 = .ok (.aload_n 1, 1) := by decide +kernel
theorem dX6_copyFrom_34 : decode cX6_copyFrom 34 = .ok (.getfield 35, 3) := by decide +kernel
theorem dX6_copyFrom_37 : decode cX6_copyFrom 37 = .ok (.putfield 35, 3) := by decide +kernel
theorem dX6_copyFrom_40 : decode cX6_copyFrom 40 = .ok (.aload_n 1, 1) := by decide +kernel
theorem dX6_copyFrom_41 : decode cX6_copyFrom 41 = .ok (.getfield 18, 3) := by decide +kernel
theorem dX6_copyFrom_44 : decode cX6_copyFrom 44 = .ok (.iconst 0, 1) := by decide +kernel
theorem dX6_copyFrom_45 : decode cX6_copyFrom 45 = .ok (.aload_n 0, 1) := by decide +kernel
theorem dX6_copyFrom_46 : decode cX6_copyFrom 46 = .ok (.getfield 18, 3) := by decide +kernel
theorem dX6_copyFrom_49 : decode cX6_copyFrom 49 = .ok (.iconst 0, 1) := by decide +kernel
theorem dX6_copyFrom_50 : decode cX6_copyFrom 50 = .ok (.bipush 8, 2) := by decide +kernel
theorem dX6_copyFrom_52 : decode cX6_copyFrom 52 = .ok (.invokestatic 39, 3) := by decide +kernel
theorem dX6_copyFrom_55 : decode cX6_copyFrom 55 = .ok (.aload_n 0, 1) := by decide +kernel
theorem dX6_copyFrom_56 : decode cX6_copyFrom 56 = .ok (.getfield 12, 3) := by decide +kernel
theorem dX6_copyFrom_59 : decode cX6_copyFrom 59 = .ok (.aload_n 1, 1) := by decide +kernel
theorem dX6_copyFrom_60 : decode cX6_copyFrom 60 = .ok (.getfield 12, 3) := by decide +kernel
theorem dX6_copyFrom_63 : decode cX6_copyFrom 63 = .ok (.invokevirtual 45, 3) := by decide +kernel
theorem dX6_copyFrom_66 : decode cX6_copyFrom 66 = .ok (.return_, 1) := by decide +kernel
theorem dX6_make_0 : decode cX6_make 0 = .ok (.aload_n 0, 1) := by decide +kernel
theorem dX6_make_1 : decode cX6_make 1 = .ok (.iload_n 3, 1) := by decide +kernel
theorem dX6_make_2 : decode cX6_make 2 = .ok (.putfield 22, 3) := by decide +kernel
theorem dX6_make_5 : decode cX6_make 5 = .ok (.aload_n 0, 1) := by decide +kernel
theorem dX6_make_6 : decode cX6_make 6 = .ok (.iload 4, 2) := by decide +kernel
theorem dX6_make_8 : decode cX6_make 8 = .ok (.putfield 26, 3) := by decide +kernel
theorem dX6_make_11 : decode cX6_make 11 = .ok (.aload_n 0, 1) := by decide +kernel
theorem dX6_make_12 : decode cX6_make 12 = .ok (.getfield 12, 3) := by decide +kernel
theorem dX6_make_15 : decode cX6_make 15 = .ok (.aload_n 2, 1) := by decide +kernel
theorem dX6_make_16 : decode cX6_make 16 = .ok (.invokevirtual 45, 3) := by decide +kernel
theorem dX6_make_19 : decode cX6_make 19 = .ok (.aload_n 0, 1) := by decide +kernel
theorem dX6_make_20 : decode cX6_make 20 = .ok (.getfield 22, 3) := by decide +kernel
theorem dX6_make_23 : decode cX6_make 23 = .ok (.aload_n 0, 1) := by decide +kernel
theorem dX6_make_24 : decode cX6_make 24 = .ok (.getfield 26, 3) := by decide +kernel
theorem dX6_make_27 : decode cX6_make 27 = .ok (.if_icmp .ne 23, 3) := by decide +kernel
theorem dX6_make_30 : decode cX6_make 30 = .ok (.aload_n 0, 1) := by decide +kernel
theorem dX6_make_31 : decode cX6_make 31 = .ok (.aload_n 0, 1) := by decide +kernel
theorem dX6_make_32 : decode cX6_make 32 = .ok (.getfield 12, 3) := by decide +kernel
theorem dX6_make_35 : decode cX6_make 35 = .ok (.aload_n 0, 1) := by decide +kernel
theorem dX6_make_36 : decode cX6_make 36 = .ok (.getfield 22, 3) := by decide +kernel
theorem dX6_make_39 : decode cX6_make 39 = .ok (.iload 5, 2) := by decide +kernel
theorem dX6_make_41 : decode cX6_make 41 = .ok (.invokevirtual 49, 3) := by decide +kernel
theorem dX6_make_44 : decode cX6_make 44 = .ok (.putfield 35, 3) := by decide +kernel
theorem dX6_make_47 : decode cX6_make 47 = .ok (.goto 32, 3) := by decide +kernel
theorem dX6_make_50 : decode cX6_make 50 = .ok (.aload_n 0, 1) := by decide +kernel
theorem dX6_make_51 : decode cX6_make 51 = .ok (.aload_n 0, 1) := by decide +kernel
theorem dX6_make_52 : decode cX6_make 52 = .ok (.getfield 12, 3) := by decide +kernel
theorem dX6_make_55 : decode cX6_make 55 = .ok (.aload_n 0, 1) := by decide +kernel
theorem dX6_make_56 : decode cX6_make 56 = .ok (.getfield 22, 3) := by decide +kernel
theorem dX6_make_59 : decode cX6_make 59 = .ok (.iconst 1, 1) := by decide +kernel
theorem dX6_make_60 : decode cX6_make 60 = .ok (.invokevirtual 49, 3) := by decide +kernel
theorem dX6_make_63 : decode cX6_make 63 = .ok (.aload_n 0, 1) := by decide +kernel
theorem dX6_make_64 : decode cX6_make 64 = .ok (.getfield 12, 3) := by decide +kernel
theorem dX6_make_67 : decode cX6_make 67 = .ok (.aload_n 0, 1) := by decide +kernel
theorem dX6_make_68 : decode cX6_make 68 = .ok (.getfield 26, 3) := by decide +kernel
theorem dX6_make_71 : decode cX6_make 71 = .ok (.iconst 2, 1) := by decide +kernel
theorem dX6_make_72 : decode cX6_make 72 = .ok (.invokevirtual 49, 3) := by decide +kernel
theorem dX6_make_75 : decode cX6_make 75 = .ok (.lor, 1) := by decide +kernel
theorem dX6_make_76 : decode cX6_make 76 = .ok (.putfield 35, 3) := by decide +kernel
theorem dX6_make_79 : decode cX6_make 79 = .ok (.iconst 1, 1) := by decide +kernel
theorem dX6_make_80 : decode cX6_make 80 = .ok (.istore 6, 2) := by decide +kernel
theorem dX6_make_82 : decode cX6_make 82 = .ok (.iconst 0, 1) := by decide +kernel
theorem dX6_make_83 : decode cX6_make 83 = .ok (.istore 7, 2) := by decide +kernel
theorem dX6_make_85 : decode cX6_make 85 = .ok (.iload 7, 2) := by decide +kernel
theorem dX6_make_87 : decode cX6_make 87 = .ok (.bipush 8, 2) := by decide +kernel
theorem dX6_make_89 : decode cX6_make 89 = .ok (.if_icmp .ge 52, 3) := by decide +kernel
theorem dX6_make_92 : decode cX6_make 92 = .ok (.aload_n 0, 1) := by decide +kernel
theorem dX6_make_93 : decode cX6_make 93 = .ok (.getfield 18, 3) := by decide +kernel
theorem dX6_make_96 : decode cX6_make 96 = .ok (.iload 7, 2) := by decide +kernel
theorem dX6_make_98 : decode cX6_make 98 = .ok (.iload 6, 2) := by decide +kernel
theorem dX6_make_100 : decode cX6_make 100 = .ok (.ifCond .eq 14, 3) := by decide +kernel
theorem dX6_make_103 : decode cX6_make 103 = .ok (.aload_n 0, 1) := by decide +kernel
theorem dX6_make_104 : decode cX6_make 104 = .ok (.getfield 12, 3) := by decide +kernel
theorem dX6_make_107 : decode cX6_make 107 = .ok (.aload_n 1, 1) := by decide +kernel
theorem dX6_make_108 : decode cX6_make 108 = .ok (.invokevirtual 53, 3) := by decide +kernel
theorem dX6_make_111 : decode cX6_make 111 = .ok (.goto 4, 3) := by decide +kernel
theorem dX6_make_114 : decode cX6_make 114 = .ok (.lconst 0, 1) := by decide +kernel
theorem dX6_make_115 : decode cX6_make 115 = .ok (.lastore, 1) := by decide +kernel
theorem dX6_make_116 : decode cX6_make 116 = .ok (.aload_n 0, 1) := by decide +kernel
theorem dX6_make_117 : decode cX6_make 117 = .ok (.getfield 18, 3) := by decide +kernel
theorem dX6_make_120 : decode cX6_make 120 = .ok (.iload 7, 2) := by decide +kernel
theorem dX6_make_122 : decode cX6_make 122 = .ok (.laload, 1) := by decide +kernel
theorem dX6_make_123 : decode cX6_make 123 = .ok (.lconst 0, 1) := by decide +kernel
theorem dX6_make_124 : decode cX6_make 124 = .ok (.lcmp, 1) := by decide +kernel
theorem dX6_make_125 : decode cX6_make 125 = .ok (.ifCond .eq 7, 3) := by decide +kernel
theorem dX6_make_128 : decode cX6_make 128 = .ok (.iconst 1, 1) := by decide +kernel
theorem dX6_make_129 : decode cX6_make 129 = .ok (.goto 4, 3) := by decide +kernel
theorem dX6_make_132 : decode cX6_make 132 = .ok (.iconst 0, 1) := by decide +kernel
theorem dX6_make_133 : decode cX6_make 133 = .ok (.istore 6, 2) := by decide +kernel
theorem dX6_make_135 : decode cX6_make 135 = .ok (.iinc 7 1, 3) := by decide +kernel
theorem dX6_make_138 : decode cX6_make 138 = .ok (.goto (-53), 3) := by decide +kernel
theorem dX6_make_141 : decode cX6_make 141 = .ok (.return_, 1) := by decide +kernel
theorem dX6_choice_0 : decode cX6_choice 0 = .ok (.iload_n 1, 1) := by decide +kernel
theorem dX6_choice_1 : decode cX6_choice 1 = .ok (.ifCond .ne 10, 3) := by decide +kernel
theorem dX6_choice_4 : decode cX6_choice 4 = .ok (.aload_n 0, 1) := by decide +kernel
theorem dX6_choice_5 : decode cX6_choice 5 = .ok (.getfield 22, 3) := by decide +kernel
theorem dX6_choice_8 : decode cX6_choice 8 = .ok (.goto 7, 3) := by decide +kernel
theorem dX6_choice_11 : decode cX6_choice 11 = .ok (.aload_n 0, 1) := by decide +kernel
theorem dX6_choice_12 : decode cX6_choice 12 = .ok (.getfield 26, 3) := by decide +kernel
theorem dX6_choice_15 : decode cX6_choice 15 = .ok (.ireturn, 1) := by decide +kernel
theorem dX6_isClash_0 : decode cX6_isClash 0 = .ok (.aload_n 0, 1) := by decide +kernel
theorem dX6_isClash_1 : decode cX6_isClash 1 = .ok (.getfield 22, 3) := by decide +kernel
theorem dX6_isClash_4 : decode cX6_isClash 4 = .ok (.aload_n 0, 1) := by decide +kernel
theorem dX6_isClash_5 : decode cX6_isClash 5 = .ok (.getfield 26, 3) := by decide +kernel
theorem dX6_isClash_8 : decode cX6_isClash 8 = .ok (.if_icmp .ne 15, 3) := by decide +kernel
theorem dX6_isClash_11 : decode cX6_isClash 11 = .ok (.aload_n 0, 1) := by decide +kernel
theorem dX6_isClash_12 : decode cX6_isClash 12 = .ok (.getfield 22, 3) := by decide +kernel
theorem dX6_isClash_15 : decode cX6_isClash 15 = .ok (.iconst (-1), 1) := by decide +kernel
theorem dX6_isClash_16 : decode cX6_isClash 16 = .ok (.if_icmp .eq 7, 3) := by decide +kernel
theorem dX6_isClash_19 : decode cX6_isClash 19 = .ok (.iconst 1, 1) := by decide +kernel
theorem dX6_isClash_20 : decode cX6_isClash 20 = .ok (.goto 4, 3) := by decide +kernel
theorem dX6_isClash_23 : decode cX6_isClash 23 = .ok (.iconst 0, 1) := by decide +kernel
theorem dX6_isClash_24 : decode cX6_isClash 24 = .ok (.ireturn, 1) := by decide +kernel
theorem dX6_ends_0 : decode cX6_ends 0 = .ok (.aload_n 0, 1) := by decide +kernel
theorem dX6_ends_1 : decode cX6_ends 1 = .ok (.getfield 22, 3) := by decide +kernel
theorem dX6_ends_4 : decode cX6_ends 4 = .ok (.iconst (-1), 1) := by decide +kernel
theorem dX6_ends_5 : decode cX6_ends 5 = .ok (.if_icmp .ne 15, 3) := by decide +kernel
theorem dX6_ends_8 : decode cX6_ends 8 = .ok (.aload_n 0, 1) := by decide +kernel
theorem dX6_ends_9 : decode cX6_ends 9 = .ok (.getfield 26, 3) := by decide +kernel
theorem dX6_ends_12 : decode cX6_ends 12 = .ok (.iconst (-1), 1) := by decide +kernel
theorem dX6_ends_13 : decode cX6_ends 13 = .ok (.if_icmp .ne 7, 3) := by decide +kernel
theorem dX6_ends_16 : decode cX6_ends 16 = .ok (.iconst 1, 1) := by decide +kernel
theorem dX6_ends_17 : decode cX6_ends 17 = .ok (.goto 4, 3) := by decide +kernel
theorem dX6_ends_20 : decode cX6_ends 20 = .ok (.iconst 0, 1) := by decide +kernel
theorem dX6_ends_21 : decode cX6_ends 21 = .ok (.istore_n 2, 1) := by decide +kernel
theorem dX6_ends_22 : decode cX6_ends 22 = .ok (.iload_n 2, 1) := by decide +kernel
theorem dX6_ends_23 : decode cX6_ends 23 = .ok (.ifCond .ne 22, 3) := by decide +kernel
theorem dX6_ends_26 : decode cX6_ends 26 = .ok (.aload_n 0, 1) := by decide +kernel
theorem dX6_ends_27 : decode cX6_ends 27 = .ok (.getfield 12, 3) := by decide +kernel
theorem dX6_ends_30 : decode cX6_ends 30 = .ok (.iconst 0, 1) := by decide +kernel
theorem dX6_ends_31 : decode cX6_ends 31 = .ok (.invokevirtual 57, 3) := by decide +kernel
theorem dX6_ends_34 : decode cX6_ends 34 = .ok (.lconst 0, 1) := by decide +kernel
theorem dX6_ends_35 : decode cX6_ends 35 = .ok (.lcmp, 1) := by decide +kernel
theorem dX6_ends_36 : decode cX6_ends 36 = .ok (.ifCond .eq 9, 3) := by decide +kernel
theorem dX6_ends_39 : decode cX6_ends 39 = .ok (.iload_n 1, 1) := by decide +kernel
theorem dX6_ends_40 : decode cX6_ends 40 = .ok (.bipush 60, 2) := by decide +kernel
theorem dX6_ends_42 : decode cX6_ends 42 = .ok (.if_icmp .lt 7, 3) := by decide +kernel
theorem dX6_ends_45 : decode cX6_ends 45 = .ok (.iconst 1, 1) := by decide +kernel
theorem dX6_ends_46 : decode cX6_ends 46 = .ok (.goto 4, 3) := by decide +kernel
theorem dX6_ends_49 : decode cX6_ends 49 = .ok (.iconst 0, 1) := by decide +kernel
theorem dX6_ends_50 : decode cX6_ends 50 = .ok (.ireturn, 1) := by decide +kernel
theorem dX6_waves_0 : decode cX6_waves 0 = .ok (.iconst 0, 1) := by decide +kernel
theorem dX6_waves_1 : decode cX6_waves 1 = .ok (.istore_n 1, 1) := by decide +kernel
theorem dX6_waves_2 : decode cX6_waves 2 = .ok (.iconst 0, 1) := by decide +kernel
theorem dX6_waves_3 : decode cX6_waves 3 = .ok (.istore_n 2, 1) := by decide +kernel
theorem dX6_waves_4 : decode cX6_waves 4 = .ok (.iload_n 2, 1) := by decide +kernel
theorem dX6_waves_5 : decode cX6_waves 5 = .ok (.bipush 8, 2) := by decide +kernel
theorem dX6_waves_7 : decode cX6_waves 7 = .ok (.if_icmp .ge 28, 3) := by decide +kernel
theorem dX6_waves_10 : decode cX6_waves 10 = .ok (.iload_n 1, 1) := by decide +kernel
theorem dX6_waves_11 : decode cX6_waves 11 = .ok (.aload_n 0, 1) := by decide +kernel
theorem dX6_waves_12 : decode cX6_waves 12 = .ok (.getfield 18, 3) := by decide +kernel
theorem dX6_waves_15 : decode cX6_waves 15 = .ok (.iload_n 2, 1) := by decide +kernel
theorem dX6_waves_16 : decode cX6_waves 16 = .ok (.laload, 1) := by decide +kernel
theorem dX6_waves_17 : decode cX6_waves 17 = .ok (.lconst 0, 1) := by decide +kernel
theorem dX6_waves_18 : decode cX6_waves 18 = .ok (.lcmp, 1) := by decide +kernel
theorem dX6_waves_19 : decode cX6_waves 19 = .ok (.ifCond .ne 7, 3) := by decide +kernel
theorem dX6_waves_22 : decode cX6_waves 22 = .ok (.iconst 0, 1) := by decide +kernel
theorem dX6_waves_23 : decode cX6_waves 23 = .ok (.goto 4, 3) := by decide +kernel
theorem dX6_waves_26 : decode cX6_waves 26 = .ok (.iconst 1, 1) := by decide +kernel
theorem dX6_waves_27 : decode cX6_waves 27 = .ok (.iadd, 1) := by decide +kernel
theorem dX6_waves_28 : decode cX6_waves 28 = .ok (.istore_n 1, 1) := by decide +kernel
theorem dX6_waves_29 : decode cX6_waves 29 = .ok (.iinc 2 1, 3) := by decide +kernel
theorem dX6_waves_32 : decode cX6_waves 32 = .ok (.goto (-28), 3) := by decide +kernel
theorem dX6_waves_35 : decode cX6_waves 35 = .ok (.iload_n 1, 1) := by decide +kernel
theorem dX6_waves_36 : decode cX6_waves 36 = .ok (.ireturn, 1) := by decide +kernel
theorem dX6_changedByWaves_0 : decode cX6_changedByWaves 0 = .ok (.iconst 0, 1) := by decide +kernel
theorem dX6_changedByWaves_1 : decode cX6_changedByWaves 1 = .ok (.istore_n 1, 1) := by decide +kernel
theorem dX6_changedByWaves_2 : decode cX6_changedByWaves 2 = .ok (.iconst 0, 1) := by decide +kernel
theorem dX6_changedByWaves_3 : decode cX6_changedByWaves 3 = .ok (.istore_n 2, 1) := by decide +kernel
theorem dX6_changedByWaves_4 : decode cX6_changedByWaves 4 = .ok (.iload_n 2, 1) := by decide +kernel
theorem dX6_changedByWaves_5 : decode cX6_changedByWaves 5 = .ok (.bipush 8, 2) := by decide +kernel
theorem dX6_changedByWaves_7 : decode cX6_changedByWaves 7 = .ok (.if_icmp .ge 21, 3) := by decide +kernel
theorem dX6_changedByWaves_10 : decode cX6_changedByWaves 10 = .ok (.iload_n 1, 1) := by decide +kernel
theorem dX6_changedByWaves_11 : decode cX6_changedByWaves 11 = .ok (.aload_n 0, 1) := by decide +kernel
theorem dX6_changedByWaves_12 : decode cX6_changedByWaves 12 = .ok (.getfield 18, 3) := by decide +kernel
theorem dX6_changedByWaves_15 : decode cX6_changedByWaves 15 = .ok (.iload_n 2, 1) := by decide +kernel
theorem dX6_changedByWaves_16 : decode cX6_changedByWaves 16 = .ok (.laload, 1) := by decide +kernel
theorem dX6_changedByWaves_17 : decode cX6_changedByWaves 17 = .ok (.invokestatic 61, 3) := by decide +kernel
theorem dX6_changedByWaves_20 : decode cX6_changedByWaves 20 = .ok (.iadd, 1) := by decide +kernel
theorem dX6_changedByWaves_21 : decode cX6_changedByWaves 21 = .ok (.istore_n 1, 1) := by decide +kernel
theorem dX6_changedByWaves_22 : decode cX6_changedByWaves 22 = .ok (.iinc 2 1, 3) := by decide +kernel
theorem dX6_changedByWaves_25 : decode cX6_changedByWaves 25 = .ok (.goto (-21), 3) := by decide +kernel
theorem dX6_changedByWaves_28 : decode cX6_changedByWaves 28 = .ok (.iload_n 1, 1) := by decide +kernel
theorem dX6_changedByWaves_29 : decode cX6_changedByWaves 29 = .ok (.ireturn, 1) := by decide +kernel
theorem dX6_changedByWave_0 : decode cX6_changedByWave 0 = .ok (.iload_n 1, 1) := by decide +kernel
theorem dX6_changedByWave_1 : decode cX6_changedByWave 1 = .ok (.ifCond .lt 21, 3) := by decide +kernel
theorem dX6_changedByWave_4 : decode cX6_changedByWave 4 = .ok (.iload_n 1, 1) := by decide +kernel
theorem dX6_changedByWave_5 : decode cX6_changedByWave 5 = .ok (.bipush 8, 2) := by decide +kernel
theorem dX6_changedByWave_7 : decode cX6_changedByWave 7 = .ok (.if_icmp .ge 15, 3) := by decide +kernel
theorem dX6_changedByWave_10 : decode cX6_changedByWave 10 = .ok (.aload_n 0, 1) := by decide +kernel
theorem dX6_changedByWave_11 : decode cX6_changedByWave 11 = .ok (.getfield 18, 3) := by decide +kernel
theorem dX6_changedByWave_14 : decode cX6_changedByWave 14 = .ok (.iload_n 1, 1) := by decide +kernel
theorem dX6_changedByWave_15 : decode cX6_changedByWave 15 = .ok (.laload, 1) := by decide +kernel
theorem dX6_changedByWave_16 : decode cX6_changedByWave 16 = .ok (.invokestatic 61, 3) := by decide +kernel
theorem dX6_changedByWave_19 : decode cX6_changedByWave 19 = .ok (.goto 4, 3) := by decide +kernel
theorem dX6_changedByWave_22 : decode cX6_changedByWave 22 = .ok (.iconst 0, 1) := by decide +kernel
theorem dX6_changedByWave_23 : decode cX6_changedByWave 23 = .ok (.ireturn, 1) := by decide +kernel
theorem dX6_waveThatChanged_0 : decode cX6_waveThatChanged 0 = .ok (.iconst (-1), 1) := by decide +kernel
theorem dX6_waveThatChanged_1 : decode cX6_waveThatChanged 1 = .ok (.istore_n 2, 1) := by decide +kernel
theorem dX6_waveThatChanged_2 : decode cX6_waveThatChanged 2 = .ok (.iconst 0, 1) := by decide +kernel
theorem dX6_waveThatChanged_3 : decode cX6_waveThatChanged 3 = .ok (.istore_n 3, 1) := by decide +kernel
theorem dX6_waveThatChanged_4 : decode cX6_waveThatChanged 4 = .ok (.iload_n 3, 1) := by decide +kernel
theorem dX6_waveThatChanged_5 : decode cX6_waveThatChanged 5 = .ok (.bipush 8, 2) := by decide +kernel
theorem dX6_waveThatChanged_7 : decode cX6_waveThatChanged 7 = .ok (.if_icmp .ge 26, 3) := by decide +kernel
theorem dX6_waveThatChanged_10 : decode cX6_waveThatChanged 10 = .ok (.aload_n 0, 1) := by decide +kernel
theorem dX6_waveThatChanged_11 : decode cX6_waveThatChanged 11 = .ok (.getfield 18, 3) := by decide +kernel
theorem dX6_waveThatChanged_14 : decode cX6_waveThatChanged 14 = .ok (.iload_n 3, 1) := by decide +kernel
theorem dX6_waveThatChanged_15 : decode cX6_waveThatChanged 15 = .ok (.laload, 1) := by decide +kernel
theorem dX6_waveThatChanged_16 : decode cX6_waveThatChanged 16 = .ok (.iload_n 1, 1) := by decide +kernel
theorem dX6_waveThatChanged_17 : decode cX6_waveThatChanged 17 = .ok (.lushr, 1) := by decide +kernel
theorem dX6_waveThatChanged_18 : decode cX6_waveThatChanged 18 = .ok (.lconst 1, 1) := by decide +kernel
theorem dX6_waveThatChanged_19 : decode cX6_waveThatChanged 19 = .ok (.land, 1) := by decide +kernel
theorem dX6_waveThatChanged_20 : decode cX6_waveThatChanged 20 = .ok (.lconst 0, 1) := by decide +kernel
theorem dX6_waveThatChanged_21 : decode cX6_waveThatChanged 21 = .ok (.lcmp, 1) := by decide +kernel
theorem dX6_waveThatChanged_22 : decode cX6_waveThatChanged 22 = .ok (.ifCond .eq 5, 3) := by decide +kernel
theorem dX6_waveThatChanged_25 : decode cX6_waveThatChanged 25 = .ok (.iload_n 3, 1) := by decide +kernel
theorem dX6_waveThatChanged_26 : decode cX6_waveThatChanged 26 = .ok (.istore_n 2, 1) := by decide +kernel
theorem dX6_waveThatChanged_27 : decode cX6_waveThatChanged 27 = .ok (.iinc 3 1, 3) := by decide +kernel
theorem dX6_waveThatChanged_30 : decode cX6_waveThatChanged 30 = .ok (.goto (-26), 3) := by decide +kernel
theorem dX6_waveThatChanged_33 : decode cX6_waveThatChanged 33 = .ok (.iload_n 2, 1) := by decide +kernel
theorem dX6_waveThatChanged_34 : decode cX6_waveThatChanged 34 = .ok (.ireturn, 1) := by decide +kernel
theorem dX6_changed_0 : decode cX6_changed 0 = .ok (.aload_n 0, 1) := by decide +kernel
theorem dX6_changed_1 : decode cX6_changed 1 = .ok (.getfield 35, 3) := by decide +kernel
theorem dX6_changed_4 : decode cX6_changed 4 = .ok (.iload_n 1, 1) := by decide +kernel
theorem dX6_changed_5 : decode cX6_changed 5 = .ok (.lushr, 1) := by decide +kernel
theorem dX6_changed_6 : decode cX6_changed 6 = .ok (.lconst 1, 1) := by decide +kernel
theorem dX6_changed_7 : decode cX6_changed 7 = .ok (.land, 1) := by decide +kernel
theorem dX6_changed_8 : decode cX6_changed 8 = .ok (.lconst 0, 1) := by decide +kernel
theorem dX6_changed_9 : decode cX6_changed 9 = .ok (.lcmp, 1) := by decide +kernel
theorem dX6_changed_10 : decode cX6_changed 10 = .ok (.ifCond .ne 11, 3) := by decide +kernel
theorem dX6_changed_13 : decode cX6_changed 13 = .ok (.aload_n 0, 1) := by decide +kernel
theorem dX6_changed_14 : decode cX6_changed 14 = .ok (.iload_n 1, 1) := by decide +kernel
theorem dX6_changed_15 : decode cX6_changed 15 = .ok (.invokevirtual 67, 3) := by decide +kernel
theorem dX6_changed_18 : decode cX6_changed 18 = .ok (.ifCond .lt 7, 3) := by decide +kernel
theorem dX6_changed_21 : decode cX6_changed 21 = .ok (.iconst 1, 1) := by decide +kernel
theorem dX6_changed_22 : decode cX6_changed 22 = .ok (.goto 4, 3) := by decide +kernel
theorem dX6_changed_25 : decode cX6_changed 25 = .ok (.iconst 0, 1) := by decide +kernel
theorem dX6_changed_26 : decode cX6_changed 26 = .ok (.ireturn, 1) := by decide +kernel
theorem dX6_signs_0 : decode cX6_signs 0 = .ok (.aload_n 0, 1) := by decide +kernel
theorem dX6_signs_1 : decode cX6_signs 1 = .ok (.getfield 22, 3) := by decide +kernel
theorem dX6_signs_4 : decode cX6_signs 4 = .ok (.invokestatic 71, 3) := by decide +kernel
theorem dX6_signs_7 : decode cX6_signs 7 = .ok (.aload_n 0, 1) := by decide +kernel
theorem dX6_signs_8 : decode cX6_signs 8 = .ok (.getfield 26, 3) := by decide +kernel
theorem dX6_signs_11 : decode cX6_signs 11 = .ok (.invokestatic 71, 3) := by decide +kernel
theorem dX6_signs_14 : decode cX6_signs 14 = .ok (.iadd, 1) := by decide +kernel
theorem dX6_signs_15 : decode cX6_signs 15 = .ok (.iconst 1, 1) := by decide +kernel
theorem dX6_signs_16 : decode cX6_signs 16 = .ok (.iadd, 1) := by decide +kernel
theorem dX6_signs_17 : decode cX6_signs 17 = .ok (.ireturn, 1) := by decide +kernel
theorem dX6_sign_0 : decode cX6_sign 0 = .ok (.iload_n 2, 1) := by decide +kernel
theorem dX6_sign_1 : decode cX6_sign 1 = .ok (.aload_n 0, 1) := by decide +kernel
theorem dX6_sign_2 : decode cX6_sign 2 = .ok (.getfield 22, 3) := by decide +kernel
theorem dX6_sign_5 : decode cX6_sign 5 = .ok (.invokestatic 71, 3) := by decide +kernel
theorem dX6_sign_8 : decode cX6_sign 8 = .ok (.isub, 1) := by decide +kernel
theorem dX6_sign_9 : decode cX6_sign 9 = .ok (.istore_n 3, 1) := by decide +kernel
theorem dX6_sign_10 : decode cX6_sign 10 = .ok (.iload_n 3, 1) := by decide +kernel
theorem dX6_sign_11 : decode cX6_sign 11 = .ok (.ifCond .ge 13, 3) := by decide +kernel
theorem dX6_sign_14 : decode cX6_sign 14 = .ok (.aload_n 1, 1) := by decide +kernel
theorem dX6_sign_15 : decode cX6_sign 15 = .ok (.aload_n 0, 1) := by decide +kernel
theorem dX6_sign_16 : decode cX6_sign 16 = .ok (.getfield 22, 3) := by decide +kernel
theorem dX6_sign_19 : decode cX6_sign 19 = .ok (.iload_n 2, 1) := by decide +kernel
theorem dX6_sign_20 : decode cX6_sign 20 = .ok (.invokestatic 74, 3) := by decide +kernel
theorem dX6_sign_23 : decode cX6_sign 23 = .ok (.ireturn, 1) := by decide +kernel
theorem dX6_sign_24 : decode cX6_sign 24 = .ok (.iload_n 3, 1) := by decide +kernel
theorem dX6_sign_25 : decode cX6_sign 25 = .ok (.aload_n 0, 1) := by decide +kernel
theorem dX6_sign_26 : decode cX6_sign 26 = .ok (.getfield 26, 3) := by decide +kernel
theorem dX6_sign_29 : decode cX6_sign 29 = .ok (.invokestatic 71, 3) := by decide +kernel
theorem dX6_sign_32 : decode cX6_sign 32 = .ok (.if_icmp .ge 15, 3) := by decide +kernel
theorem dX6_sign_35 : decode cX6_sign 35 = .ok (.aload_n 1, 1) := by decide +kernel
theorem dX6_sign_36 : decode cX6_sign 36 = .ok (.aload_n 0, 1) := by decide +kernel
theorem dX6_sign_37 : decode cX6_sign 37 = .ok (.getfield 26, 3) := by decide +kernel
theorem dX6_sign_40 : decode cX6_sign 40 = .ok (.iload_n 3, 1) := by decide +kernel
theorem dX6_sign_41 : decode cX6_sign 41 = .ok (.invokestatic 74, 3) := by decide +kernel
theorem dX6_sign_44 : decode cX6_sign 44 = .ok (.goto 5, 3) := by decide +kernel
theorem dX6_sign_47 : decode cX6_sign 47 = .ok (.bipush 59, 2) := by decide +kernel
theorem dX6_sign_49 : decode cX6_sign 49 = .ok (.ireturn, 1) := by decide +kernel
theorem dX6_signsOf_0 : decode cX6_signsOf 0 = .ok (.iload_n 0, 1) := by decide +kernel
theorem dX6_signsOf_1 : decode cX6_signsOf 1 = .ok (.iconst (-1), 1) := by decide +kernel
theorem dX6_signsOf_2 : decode cX6_signsOf 2 = .ok (.if_icmp .ne 7, 3) := by decide +kernel
theorem dX6_signsOf_5 : decode cX6_signsOf 5 = .ok (.iconst 1, 1) := by decide +kernel
theorem dX6_signsOf_6 : decode cX6_signsOf 6 = .ok (.goto 4, 3) := by decide +kernel
theorem dX6_signsOf_9 : decode cX6_signsOf 9 = .ok (.iconst 2, 1) := by decide +kernel
theorem dX6_signsOf_10 : decode cX6_signsOf 10 = .ok (.ireturn, 1) := by decide +kernel
theorem dX6_signOf_0 : decode cX6_signOf 0 = .ok (.iload_n 1, 1) := by decide +kernel
theorem dX6_signOf_1 : decode cX6_signOf 1 = .ok (.iconst (-1), 1) := by decide +kernel
theorem dX6_signOf_2 : decode cX6_signOf 2 = .ok (.if_icmp .ne 6, 3) := by decide +kernel
theorem dX6_signOf_5 : decode cX6_signOf 5 = .ok (.bipush 45, 2) := by decide +kernel
theorem dX6_signOf_7 : decode cX6_signOf 7 = .ok (.ireturn, 1) := by decide +kernel
theorem dX6_signOf_8 : decode cX6_signOf 8 = .ok (.iload_n 2, 1) := by decide +kernel
theorem dX6_signOf_9 : decode cX6_signOf 9 = .ok (.ifCond .ne 14, 3) := by decide +kernel
theorem dX6_signOf_12 : decode cX6_signOf 12 = .ok (.bipush 97, 2) := by decide +kernel
theorem dX6_signOf_14 : decode cX6_signOf 14 = .ok (.aload_n 0, 1) := by decide +kernel
theorem dX6_signOf_15 : decode cX6_signOf 15 = .ok (.iload_n 1, 1) := by decide +kernel
theorem dX6_signOf_16 : decode cX6_signOf 16 = .ok (.invokevirtual 78, 3) := by decide +kernel
theorem dX6_signOf_19 : decode cX6_signOf 19 = .ok (.iadd, 1) := by decide +kernel
theorem dX6_signOf_20 : decode cX6_signOf 20 = .ok (.goto 11, 3) := by decide +kernel
theorem dX6_signOf_23 : decode cX6_signOf 23 = .ok (.bipush 49, 2) := by decide +kernel
theorem dX6_signOf_25 : decode cX6_signOf 25 = .ok (.aload_n 0, 1) := by decide +kernel
theorem dX6_signOf_26 : decode cX6_signOf 26 = .ok (.iload_n 1, 1) := by decide +kernel
theorem dX6_signOf_27 : decode cX6_signOf 27 = .ok (.invokevirtual 83, 3) := by decide +kernel
theorem dX6_signOf_30 : decode cX6_signOf 30 = .ok (.iadd, 1) := by decide +kernel
theorem dX6_signOf_31 : decode cX6_signOf 31 = .ok (.istore_n 3, 1) := by decide +kernel
theorem dX6_signOf_32 : decode cX6_signOf 32 = .ok (.iload_n 3, 1) := by decide +kernel
theorem dX6_signOf_33 : decode cX6_signOf 33 = .ok (.i2c, 1) := by decide +kernel
theorem dX6_signOf_34 : decode cX6_signOf 34 = .ok (.ireturn, 1) := by decide +kernel
theorem dX7_init_0 : decode cX7_init 0 = .ok (.aload_n 0, 1) := by decide +kernel
theorem dX7_init_1 : decode cX7_init 1 = .ok (.invokespecial 1, 3) := by decide +kernel
theorem dX7_init_4 : decode cX7_init 4 = .ok (.aload_n 0, 1) := by decide +kernel
theorem dX7_init_5 : decode cX7_init 5 = .ok (.new 7, 3) := by decide +kernel
theorem dX7_init_8 : decode cX7_init 8 = .ok (.dup, 1) := by decide +kernel
theorem dX7_init_9 : decode cX7_init 9 = .ok (.invokespecial 9, 3) := by decide +kernel
theorem dX7_init_12 : decode cX7_init 12 = .ok (.putfield 10, 3) := by decide +kernel
theorem dX7_init_15 : decode cX7_init 15 = .ok (.aload_n 0, 1) := by decide +kernel
theorem dX7_init_16 : decode cX7_init 16 = .ok (.new 7, 3) := by decide +kernel
theorem dX7_init_19 : decode cX7_init 19 = .ok (.dup, 1) := by decide +kernel
theorem dX7_init_20 : decode cX7_init 20 = .ok (.invokespecial 9, 3) := by decide +kernel
theorem dX7_init_23 : decode cX7_init 23 = .ok (.putfield 16, 3) := by decide +kernel
theorem dX7_init_26 : decode cX7_init 26 = .ok (.aload_n 0, 1) := by decide +kernel
theorem dX7_init_27 : decode cX7_init 27 = .ok (.iconst 0, 1) := by decide +kernel
theorem dX7_init_28 : decode cX7_init 28 = .ok (.putfield 19, 3) := by decide +kernel
theorem dX7_init_31 : decode cX7_init 31 = .ok (.aload_n 0, 1) := by decide +kernel
theorem dX7_init_32 : decode cX7_init 32 = .ok (.new 23, 3) := by decide +kernel
theorem dX7_init_35 : decode cX7_init 35 = .ok (.dup, 1) := by decide +kernel
theorem dX7_init_36 : decode cX7_init 36 = .ok (.invokespecial 25, 3) := by decide +kernel
theorem dX7_init_39 : decode cX7_init 39 = .ok (.putfield 26, 3) := by decide +kernel
theorem dX7_init_42 : decode cX7_init 42 = .ok (.aload_n 0, 1) := by decide +kernel
theorem dX7_init_43 : decode cX7_init 43 = .ok (.new 30, 3) := by decide +kernel
theorem dX7_init_46 : decode cX7_init 46 = .ok (.dup, 1) := by decide +kernel
theorem dX7_init_47 : decode cX7_init 47 = .ok (.invokespecial 32, 3) := by decide +kernel
theorem dX7_init_50 : decode cX7_init 50 = .ok (.putfield 33, 3) := by decide +kernel
theorem dX7_init_53 : decode cX7_init 53 = .ok (.aload_n 0, 1) := by decide +kernel
theorem dX7_init_54 : decode cX7_init 54 = .ok (.new 37, 3) := by decide +kernel
theorem dX7_init_57 : decode cX7_init 57 = .ok (.dup, 1) := by decide +kernel
theorem dX7_init_58 : decode cX7_init 58 = .ok (.invokespecial 39, 3) := by decide +kernel
theorem dX7_init_61 : decode cX7_init 61 = .ok (.putfield 40, 3) := by decide +kernel
theorem dX7_init_64 : decode cX7_init 64 = .ok (.return_, 1) := by decide +kernel
theorem dX7_start_0 : decode cX7_start 0 = .ok (.iload_n 1, 1) := by decide +kernel
theorem dX7_start_1 : decode cX7_start 1 = .ok (.iconst 4, 1) := by decide +kernel
theorem dX7_start_2 : decode cX7_start 2 = .ok (.if_icmp .lt 20, 3) := by decide +kernel
theorem dX7_start_5 : decode cX7_start 5 = .ok (.iload_n 1, 1) := by decide +kernel
theorem dX7_start_6 : decode cX7_start 6 = .ok (.bipush 7, 2) := by decide +kernel
theorem dX7_start_8 : decode cX7_start 8 = .ok (.if_icmp .gt 14, 3) := by decide +kernel
theorem dX7_start_11 : decode cX7_start 11 = .ok (.iload_n 2, 1) := by decide +kernel
theorem dX7_start_12 : decode cX7_start 12 = .ok (.iconst 4, 1) := by decide +kernel
theorem dX7_start_13 : decode cX7_start 13 = .ok (.if_icmp .lt 9, 3) := by decide +kernel
theorem dX7_start_16 : decode cX7_start 16 = .ok (.iload_n 2, 1) := by decide +kernel
theorem dX7_start_17 : decode cX7_start 17 = .ok (.bipush 7, 2) := by decide +kernel
theorem dX7_start_19 : decode cX7_start 19 = .ok (.if_icmp .le 13, 3) := by decide +kernel
theorem dX7_start_22 : decode cX7_start 22 = .ok (.new 44, 3) := by decide +kernel
theorem dX7_start_25 : decode cX7_start 25 = .ok (.dup, 1) := by decide +kernel
theorem dX7_start_26 : decode cX7_start 26 = .ok (.ldc 46, 2) := by decide +kernel
theorem dX7_start_28 : decode cX7_start 28 = .ok (.invokespecial 48, 3) := by decide +kernel
theorem dX7_start_31 : decode cX7_start 31 = .ok (.athrow, 1) := by decide +kernel
theorem dX7_start_32 : decode cX7_start 32 = .ok (.iload_n 3, 1) := by decide +kernel
theorem dX7_start_33 : decode cX7_start 33 = .ok (.ifCond .lt 8, 3) := by decide +kernel
theorem dX7_start_36 : decode cX7_start 36 = .ok (.iload_n 3, 1) := by decide +kernel
theorem dX7_start_37 : decode cX7_start 37 = .ok (.iconst 4, 1) := by decide +kernel
theorem dX7_start_38 : decode cX7_start 38 = .ok (.if_icmp .le 13, 3) := by decide +kernel
theorem dX7_start_41 : decode cX7_start 41 = .ok (.new 44, 3) := by decide +kernel
theorem dX7_start_44 : decode cX7_start 44 = .ok (.dup, 1) := by decide +kernel
theorem dX7_start_45 : decode cX7_start 45 = .ok (.ldc 51, 2) := by decide +kernel
theorem dX7_start_47 : decode cX7_start 47 = .ok (.invokespecial 48, 3) := by decide +kernel
theorem dX7_start_50 : decode cX7_start 50 = .ok (.athrow, 1) := by decide +kernel
theorem dX7_start_51 : decode cX7_start 51 = .ok (.aload_n 0, 1) := by decide +kernel
theorem dX7_start_52 : decode cX7_start 52 = .ok (.getfield 10, 3) := by decide +kernel
theorem dX7_start_55 : decode cX7_start 55 = .ok (.iload_n 1, 1) := by decide +kernel
theorem dX7_start_56 : decode cX7_start 56 = .ok (.iload_n 2, 1) := by decide +kernel
theorem dX7_start_57 : decode cX7_start 57 = .ok (.iload_n 3, 1) := by decide +kernel
theorem dX7_start_58 : decode cX7_start 58 = .ok (.invokevirtual 53, 3) := by decide +kernel
theorem dX7_start_61 : decode cX7_start 61 = .ok (.aload_n 0, 1) := by decide +kernel
theorem dX7_start_62 : decode cX7_start 62 = .ok (.getfield 10, 3) := by decide +kernel
theorem dX7_start_65 : decode cX7_start 65 = .ok (.invokevirtual 57, 3) := by decide +kernel
theorem dX7_start_68 : decode cX7_start 68 = .ok (.iconst 0, 1) := by decide +kernel
theorem dX7_start_69 : decode cX7_start 69 = .ok (.invokevirtual 61, 3) := by decide +kernel
theorem dX7_start_72 : decode cX7_start 72 = .ok (.ireturn, 1) := by decide +kernel
theorem dX7_setRule_0 : decode cX7_setRule 0 = .ok (.iload_n 1, 1) := by decide +kernel
theorem dX7_setRule_1 : decode cX7_setRule 1 = .ok (.ifCond .lt 8, 3) := by decide +kernel
theorem dX7_setRule_4 : decode cX7_setRule 4 = .ok (.iload_n 1, 1) := by decide +kernel
theorem dX7_setRule_5 : decode cX7_setRule 5 = .ok (.iconst 2, 1) := by decide +kernel
theorem dX7_setRule_6 : decode cX7_setRule 6 = .ok (.if_icmp .le 13, 3) := by decide +kernel
theorem dX7_setRule_9 : decode cX7_setRule 9 = .ok (.new 44, 3) := by decide +kernel
theorem dX7_setRule_12 : decode cX7_setRule 12 = .ok (.dup, 1) := by decide +kernel
theorem dX7_setRule_13 : decode cX7_setRule 13 = .ok (.ldc 67, 2) := by decide +kernel
theorem dX7_setRule_15 : decode cX7_setRule 15 = .ok (.invokespecial 48, 3) := by decide +kernel
theorem dX7_setRule_18 : decode cX7_setRule 18 = .ok (.athrow, 1) := by decide +kernel
theorem dX7_setRule_19 : decode cX7_setRule 19 = .ok (.aload_n 0, 1) := by decide +kernel
theorem dX7_setRule_20 : decode cX7_setRule 20 = .ok (.getfield 10, 3) := by decide +kernel
theorem dX7_setRule_23 : decode cX7_setRule 23 = .ok (.getfield 69, 3) := by decide +kernel
theorem dX7_setRule_26 : decode cX7_setRule 26 = .ok (.istore_n 2, 1) := by decide +kernel
theorem dX7_setRule_27 : decode cX7_setRule 27 = .ok (.aload_n 0, 1) := by decide +kernel
theorem dX7_setRule_28 : decode cX7_setRule 28 = .ok (.getfield 10, 3) := by decide +kernel
theorem dX7_setRule_31 : decode cX7_setRule 31 = .ok (.iload_n 1, 1) := by decide +kernel
theorem dX7_setRule_32 : decode cX7_setRule 32 = .ok (.putfield 69, 3) := by decide +kernel
theorem dX7_setRule_35 : decode cX7_setRule 35 = .ok (.iload_n 2, 1) := by decide +kernel
theorem dX7_setRule_36 : decode cX7_setRule 36 = .ok (.ireturn, 1) := by decide +kernel
theorem dX7_setBonus_0 : decode cX7_setBonus 0 = .ok (.iload_n 1, 1) := by decide +kernel
theorem dX7_setBonus_1 : decode cX7_setBonus 1 = .ok (.invokestatic 73, 3) := by decide +kernel
theorem dX7_setBonus_4 : decode cX7_setBonus 4 = .ok (.ifCond .ne 13, 3) := by decide +kernel
theorem dX7_setBonus_7 : decode cX7_setBonus 7 = .ok (.new 77, 3) := by decide +kernel
theorem dX7_setBonus_10 : decode cX7_setBonus 10 = .ok (.dup, 1) := by decide +kernel
theorem dX7_setBonus_11 : decode cX7_setBonus 11 = .ok (.ldc 79, 2) := by decide +kernel
theorem dX7_setBonus_13 : decode cX7_setBonus 13 = .ok (.invokespecial 81, 3) := by decide +kernel
theorem dX7_setBonus_16 : decode cX7_setBonus 16 = .ok (.athrow, 1) := by decide +kernel
theorem dX7_setBonus_17 : decode cX7_setBonus 17 = .ok (.iload_n 2, 1) := by decide +kernel
theorem dX7_setBonus_18 : decode cX7_setBonus 18 = .ok (.ifCond .lt 9, 3) := by decide +kernel
theorem dX7_setBonus_21 : decode cX7_setBonus 21 = .ok (.iload_n 2, 1) := by decide +kernel
theorem dX7_setBonus_22 : decode cX7_setBonus 22 = .ok (.bipush 20, 2) := by decide +kernel
theorem dX7_setBonus_24 : decode cX7_setBonus 24 = .ok (.if_icmp .le 13, 3) := by decide +kernel
theorem dX7_setBonus_27 : decode cX7_setBonus 27 = .ok (.new 44, 3) := by decide +kernel
theorem dX7_setBonus_30 : decode cX7_setBonus 30 = .ok (.dup, 1) := by decide +kernel
theorem dX7_setBonus_31 : decode cX7_setBonus 31 = .ok (.ldc 82, 2) := by decide +kernel
theorem dX7_setBonus_33 : decode cX7_setBonus 33 = .ok (.invokespecial 48, 3) := by decide +kernel
theorem dX7_setBonus_36 : decode cX7_setBonus 36 = .ok (.athrow, 1) := by decide +kernel
theorem dX7_setBonus_37 : decode cX7_setBonus 37 = .ok (.aload_n 0, 1) := by decide +kernel
theorem dX7_setBonus_38 : decode cX7_setBonus 38 = .ok (.getfield 10, 3) := by decide +kernel
theorem dX7_setBonus_41 : decode cX7_setBonus 41 = .ok (.iload_n 1, 1) := by decide +kernel
theorem dX7_setBonus_42 : decode cX7_setBonus 42 = .ok (.invokevirtual 84, 3) := by decide +kernel
theorem dX7_setBonus_45 : decode cX7_setBonus 45 = .ok (.istore_n 3, 1) := by decide +kernel
theorem dX7_setBonus_46 : decode cX7_setBonus 46 = .ok (.aload_n 0, 1) := by decide +kernel
theorem dX7_setBonus_47 : decode cX7_setBonus 47 = .ok (.getfield 10, 3) := by decide +kernel
theorem dX7_setBonus_50 : decode cX7_setBonus 50 = .ok (.iload_n 1, 1) := by decide +kernel
theorem dX7_setBonus_51 : decode cX7_setBonus 51 = .ok (.iload_n 2, 1) := by decide +kernel
theorem dX7_setBonus_52 : decode cX7_setBonus 52 = .ok (.invokevirtual 87, 3) := by decide +kernel
theorem dX7_setBonus_55 : decode cX7_setBonus 55 = .ok (.iload_n 3, 1) := by decide +kernel
theorem dX7_setBonus_56 : decode cX7_setBonus 56 = .ok (.ireturn, 1) := by decide +kernel
theorem dX7_play_0 : decode cX7_play 0 = .ok (.aload_n 0, 1) := by decide +kernel
theorem dX7_play_1 : decode cX7_play 1 = .ok (.iload_n 1, 1) := by decide +kernel
theorem dX7_play_2 : decode cX7_play 2 = .ok (.invokevirtual 91, 3) := by decide +kernel
theorem dX7_play_5 : decode cX7_play 5 = .ok (.ifCond .eq 11, 3) := by decide +kernel
theorem dX7_play_8 : decode cX7_play 8 = .ok (.aload_n 0, 1) := by decide +kernel
theorem dX7_play_9 : decode cX7_play 9 = .ok (.iload_n 2, 1) := by decide +kernel
theorem dX7_play_10 : decode cX7_play 10 = .ok (.invokevirtual 91, 3) := by decide +kernel
theorem dX7_play_13 : decode cX7_play 13 = .ok (.ifCond .ne 13, 3) := by decide +kernel
theorem dX7_play_16 : decode cX7_play 16 = .ok (.new 77, 3) := by decide +kernel
theorem dX7_play_19 : decode cX7_play 19 = .ok (.dup, 1) := by decide +kernel
theorem dX7_play_20 : decode cX7_play 20 = .ok (.ldc 94, 2) := by decide +kernel
theorem dX7_play_22 : decode cX7_play 22 = .ok (.invokespecial 81, 3) := by decide +kernel
theorem dX7_play_25 : decode cX7_play 25 = .ok (.athrow, 1) := by decide +kernel
theorem dX7_play_26 : decode cX7_play 26 = .ok (.aload_n 0, 1) := by decide +kernel
theorem dX7_play_27 : decode cX7_play 27 = .ok (.getfield 10, 3) := by decide +kernel
theorem dX7_play_30 : decode cX7_play 30 = .ok (.invokevirtual 96, 3) := by decide +kernel
theorem dX7_play_33 : decode cX7_play 33 = .ok (.ifCond .eq 13, 3) := by decide +kernel
theorem dX7_play_36 : decode cX7_play 36 = .ok (.new 100, 3) := by decide +kernel
theorem dX7_play_39 : decode cX7_play 39 = .ok (.dup, 1) := by decide +kernel
theorem dX7_play_40 : decode cX7_play 40 = .ok (.ldc 102, 2) := by decide +kernel
theorem dX7_play_42 : decode cX7_play 42 = .ok (.invokespecial 104, 3) := by decide +kernel
theorem dX7_play_45 : decode cX7_play 45 = .ok (.athrow, 1) := by decide +kernel
theorem dX7_play_46 : decode cX7_play 46 = .ok (.aload_n 0, 1) := by decide +kernel
theorem dX7_play_47 : decode cX7_play 47 = .ok (.iload_n 1, 1) := by decide +kernel
theorem dX7_play_48 : decode cX7_play 48 = .ok (.iload_n 2, 1) := by decide +kernel
theorem dX7_play_49 : decode cX7_play 49 = .ok (.invokevirtual 105, 3) := by decide +kernel
theorem dX7_play_52 : decode cX7_play 52 = .ok (.ifCond .ne 13, 3) := by decide +kernel
theorem dX7_play_55 : decode cX7_play 55 = .ok (.new 109, 3) := by decide +kernel
theorem dX7_play_58 : decode cX7_play 58 = .ok (.dup, 1) := by decide +kernel
theorem dX7_play_59 : decode cX7_play 59 = .ok (.ldc 111, 2) := by decide +kernel
theorem dX7_play_61 : decode cX7_play 61 = .ok (.invokespecial 113, 3) := by decide +kernel
theorem dX7_play_64 : decode cX7_play 64 = .ok (.athrow, 1) := by decide +kernel
theorem dX7_play_65 : decode cX7_play 65 = .ok (.aload_n 0, 1) := by decide +kernel
theorem dX7_play_66 : decode cX7_play 66 = .ok (.getfield 10, 3) := by decide +kernel
theorem dX7_play_69 : decode cX7_play 69 = .ok (.iload_n 1, 1) := by decide +kernel
theorem dX7_play_70 : decode cX7_play 70 = .ok (.iload_n 2, 1) := by decide +kernel
theorem dX7_play_71 : decode cX7_play 71 = .ok (.invokevirtual 114, 3) := by decide +kernel
theorem dX7_play_74 : decode cX7_play 74 = .ok (.ireturn, 1) := by decide +kernel
theorem dX7_undo_0 : decode cX7_undo 0 = .ok (.aload_n 0, 1) := by decide +kernel
theorem dX7_undo_1 : decode cX7_undo 1 = .ok (.getfield 10, 3) := by decide +kernel
theorem dX7_undo_4 : decode cX7_undo 4 = .ok (.getfield 118, 3) := by decide +kernel
theorem dX7_undo_7 : decode cX7_undo 7 = .ok (.ifCond .ne 13, 3) := by decide +kernel
theorem dX7_undo_10 : decode cX7_undo 10 = .ok (.new 100, 3) := by decide +kernel
theorem dX7_undo_13 : decode cX7_undo 13 = .ok (.dup, 1) := by decide +kernel
theorem dX7_undo_14 : decode cX7_undo 14 = .ok (.ldc 121, 2) := by decide +kernel
theorem dX7_undo_16 : decode cX7_undo 16 = .ok (.invokespecial 104, 3) := by decide +kernel
theorem dX7_undo_19 : decode cX7_undo 19 = .ok (.athrow, 1) := by decide +kernel
theorem dX7_undo_20 : decode cX7_undo 20 = .ok (.aload_n 0, 1) := by decide +kernel
theorem dX7_undo_21 : decode cX7_undo 21 = .ok (.getfield 10, 3) := by decide +kernel
theorem dX7_undo_24 : decode cX7_undo 24 = .ok (.dup, 1) := by decide +kernel
theorem dX7_undo_25 : decode cX7_undo 25 = .ok (.getfield 118, 3) := by decide +kernel
theorem dX7_undo_28 : decode cX7_undo 28 = .ok (.iconst 1, 1) := by decide +kernel
theorem dX7_undo_29 : decode cX7_undo 29 = .ok (.isub, 1) := by decide +kernel
theorem dX7_undo_30 : decode cX7_undo 30 = .ok (.putfield 118, 3) := by decide +kernel
theorem dX7_undo_33 : decode cX7_undo 33 = .ok (.aload_n 0, 1) := by decide +kernel
theorem dX7_undo_34 : decode cX7_undo 34 = .ok (.getfield 10, 3) := by decide +kernel
theorem dX7_undo_37 : decode cX7_undo 37 = .ok (.getfield 118, 3) := by decide +kernel
theorem dX7_undo_40 : decode cX7_undo 40 = .ok (.ireturn, 1) := by decide +kernel
theorem dX7_isOver_0 : decode cX7_isOver 0 = .ok (.aload_n 0, 1) := by decide +kernel
theorem dX7_isOver_1 : decode cX7_isOver 1 = .ok (.getfield 10, 3) := by decide +kernel
theorem dX7_isOver_4 : decode cX7_isOver 4 = .ok (.invokevirtual 96, 3) := by decide +kernel
theorem dX7_isOver_7 : decode cX7_isOver 7 = .ok (.ireturn, 1) := by decide +kernel
theorem dX7_cell_0 : decode cX7_cell 0 = .ok (.aload_n 0, 1) := by decide +kernel
theorem dX7_cell_1 : decode cX7_cell 1 = .ok (.getfield 10, 3) := by decide +kernel
theorem dX7_cell_4 : decode cX7_cell 4 = .ok (.getfield 123, 3) := by decide +kernel
theorem dX7_cell_7 : decode cX7_cell 7 = .ok (.astore_n 3, 1) := by decide +kernel
theorem dX7_cell_8 : decode cX7_cell 8 = .ok (.iload_n 1, 1) := by decide +kernel
theorem dX7_cell_9 : decode cX7_cell 9 = .ok (.ifCond .lt 23, 3) := by decide +kernel
theorem dX7_cell_12 : decode cX7_cell 12 = .ok (.iload_n 1, 1) := by decide +kernel
theorem dX7_cell_13 : decode cX7_cell 13 = .ok (.aload_n 3, 1) := by decide +kernel
theorem dX7_cell_14 : decode cX7_cell 14 = .ok (.getfield 127, 3) := by decide +kernel
theorem dX7_cell_17 : decode cX7_cell 17 = .ok (.if_icmp .ge 15, 3) := by decide +kernel
theorem dX7_cell_20 : decode cX7_cell 20 = .ok (.iload_n 2, 1) := by decide +kernel
theorem dX7_cell_21 : decode cX7_cell 21 = .ok (.ifCond .lt 11, 3) := by decide +kernel
theorem dX7_cell_24 : decode cX7_cell 24 = .ok (.iload_n 2, 1) := by decide +kernel
theorem dX7_cell_25 : decode cX7_cell 25 = .ok (.aload_n 3, 1) := by decide +kernel
theorem dX7_cell_26 : decode cX7_cell 26 = .ok (.getfield 132, 3) := by decide +kernel
theorem dX7_cell_29 : decode cX7_cell 29 = .ok (.if_icmp .lt 13, 3) := by decide +kernel
theorem dX7_cell_32 : decode cX7_cell 32 = .ok (.new 77, 3) := by decide +kernel
theorem dX7_cell_35 : decode cX7_cell 35 = .ok (.dup, 1) := by decide +kernel
theorem dX7_cell_36 : decode cX7_cell 36 = .ok (.ldc 94, 2) := by decide +kernel
theorem dX7_cell_38 : decode cX7_cell 38 = .ok (.invokespecial 81, 3) := by decide +kernel
theorem dX7_cell_41 : decode cX7_cell 41 = .ok (.athrow, 1) := by decide +kernel
theorem dX7_cell_42 : decode cX7_cell 42 = .ok (.aload_n 0, 1) := by decide +kernel
theorem dX7_cell_43 : decode cX7_cell 43 = .ok (.getfield 10, 3) := by decide +kernel
theorem dX7_cell_46 : decode cX7_cell 46 = .ok (.invokevirtual 57, 3) := by decide +kernel
theorem dX7_cell_49 : decode cX7_cell 49 = .ok (.aload_n 3, 1) := by decide +kernel
theorem dX7_cell_50 : decode cX7_cell 50 = .ok (.iload_n 1, 1) := by decide +kernel
theorem dX7_cell_51 : decode cX7_cell 51 = .ok (.iload_n 2, 1) := by decide +kernel
theorem dX7_cell_52 : decode cX7_cell 52 = .ok (.invokevirtual 135, 3) := by decide +kernel
theorem dX7_cell_55 : decode cX7_cell 55 = .ok (.invokevirtual 138, 3) := by decide +kernel
theorem dX7_cell_58 : decode cX7_cell 58 = .ok (.ireturn, 1) := by decide +kernel
theorem dX7_since_0 : decode cX7_since 0 = .ok (.aload_n 0, 1) := by decide +kernel
theorem dX7_since_1 : decode cX7_since 1 = .ok (.getfield 10, 3) := by decide +kernel
theorem dX7_since_4 : decode cX7_since 4 = .ok (.getfield 123, 3) := by decide +kernel
theorem dX7_since_7 : decode cX7_since 7 = .ok (.iload_n 1, 1) := by decide +kernel
theorem dX7_since_8 : decode cX7_since 8 = .ok (.invokevirtual 141, 3) := by decide +kernel
theorem dX7_since_11 : decode cX7_since 11 = .ok (.ifCond .ne 13, 3) := by decide +kernel
theorem dX7_since_14 : decode cX7_since 14 = .ok (.new 77, 3) := by decide +kernel
theorem dX7_since_17 : decode cX7_since 17 = .ok (.dup, 1) := by decide +kernel
theorem dX7_since_18 : decode cX7_since 18 = .ok (.ldc 94, 2) := by decide +kernel
theorem dX7_since_20 : decode cX7_since 20 = .ok (.invokespecial 81, 3) := by decide +kernel
theorem dX7_since_23 : decode cX7_since 23 = .ok (.athrow, 1) := by decide +kernel
theorem dX7_since_24 : decode cX7_since 24 = .ok (.iload_n 2, 1) := by decide +kernel
theorem dX7_since_25 : decode cX7_since 25 = .ok (.lookupswitch 45 #[(0, 27), (1, 36)], 27) := by decide +kernel
theorem dX7_since_52 : decode cX7_since 52 = .ok (.aload_n 0, 1) := by decide +kernel
theorem dX7_since_53 : decode cX7_since 53 = .ok (.getfield 10, 3) := by decide +kernel
theorem dX7_since_56 : decode cX7_since 56 = .ok (.iload_n 1, 1) := by decide +kernel
theorem dX7_since_57 : decode cX7_since 57 = .ok (.invokevirtual 144, 3) := by decide +kernel
theorem dX7_since_60 : decode cX7_since 60 = .ok (.ireturn, 1) := by decide +kernel
theorem dX7_since_61 : decode cX7_since 61 = .ok (.aload_n 0, 1) := by decide +kernel
theorem dX7_since_62 : decode cX7_since 62 = .ok (.getfield 10, 3) := by decide +kernel
theorem dX7_since_65 : decode cX7_since 65 = .ok (.iload_n 1, 1) := by decide +kernel
theorem dX7_since_66 : decode cX7_since 66 = .ok (.invokevirtual 147, 3) := by decide +kernel
theorem dX7_since_69 : decode cX7_since 69 = .ok (.ireturn, 1) := by decide +kernel
theorem dX7_since_70 : decode cX7_since 70 = .ok (.new 44, 3) := by decide +kernel
theorem dX7_since_73 : decode cX7_since 73 = .ok (.dup, 1) := by decide +kernel
theorem dX7_since_74 : decode cX7_since 74 = .ok (.ldc 150, 2) := by decide +kernel
theorem dX7_since_76 : decode cX7_since 76 = .ok (.invokespecial 48, 3) := by decide +kernel
theorem dX7_since_79 : decode cX7_since 79 = .ok (.athrow, 1) := by decide +kernel
theorem dX7_count_0 : decode cX7_count 0 = .ok (.iload_n 1, 1) := by decide +kernel
theorem dX7_count_1 : decode cX7_count 1 = .ok (.tableswitch 113 0 6 #[43, 51, 62, 73, 85, 97, 105], 43) := by decide +kernel
theorem dX7_count_44 : decode cX7_count 44 = .ok (.aload_n 0, 1) := by decide +kernel
theorem dX7_count_45 : decode cX7_count 45 = .ok (.getfield 10, 3) := by decide +kernel
theorem dX7_count_48 : decode cX7_count 48 = .ok (.getfield 118, 3) := by decide +kernel
theorem dX7_count_51 : decode cX7_count 51 = .ok (.ireturn, 1) := by decide +kernel
theorem dX7_count_52 : decode cX7_count 52 = .ok (.aload_n 0, 1) := by decide +kernel
theorem dX7_count_53 : decode cX7_count 53 = .ok (.getfield 10, 3) := by decide +kernel
theorem dX7_count_56 : decode cX7_count 56 = .ok (.getfield 123, 3) := by decide +kernel
theorem dX7_count_59 : decode cX7_count 59 = .ok (.getfield 127, 3) := by decide +kernel
theorem dX7_count_62 : decode cX7_count 62 = .ok (.ireturn, 1) := by decide +kernel
theorem dX7_count_63 : decode cX7_count 63 = .ok (.aload_n 0, 1) := by decide +kernel
theorem dX7_count_64 : decode cX7_count 64 = .ok (.getfield 10, 3) := by decide +kernel
theorem dX7_count_67 : decode cX7_count 67 = .ok (.getfield 123, 3) := by decide +kernel
theorem dX7_count_70 : decode cX7_count 70 = .ok (.getfield 132, 3) := by decide +kernel
theorem dX7_count_73 : decode cX7_count 73 = .ok (.ireturn, 1) := by decide +kernel
theorem dX7_count_74 : decode cX7_count 74 = .ok (.aload_n 0, 1) := by decide +kernel
theorem dX7_count_75 : decode cX7_count 75 = .ok (.getfield 10, 3) := by decide +kernel
theorem dX7_count_78 : decode cX7_count 78 = .ok (.invokevirtual 57, 3) := by decide +kernel
theorem dX7_count_81 : decode cX7_count 81 = .ok (.iconst 0, 1) := by decide +kernel
theorem dX7_count_82 : decode cX7_count 82 = .ok (.invokevirtual 61, 3) := by decide +kernel
theorem dX7_count_85 : decode cX7_count 85 = .ok (.ireturn, 1) := by decide +kernel
theorem dX7_count_86 : decode cX7_count 86 = .ok (.aload_n 0, 1) := by decide +kernel
theorem dX7_count_87 : decode cX7_count 87 = .ok (.getfield 10, 3) := by decide +kernel
theorem dX7_count_90 : decode cX7_count 90 = .ok (.invokevirtual 57, 3) := by decide +kernel
theorem dX7_count_93 : decode cX7_count 93 = .ok (.iconst 5, 1) := by decide +kernel
theorem dX7_count_94 : decode cX7_count 94 = .ok (.invokevirtual 61, 3) := by decide +kernel
theorem dX7_count_97 : decode cX7_count 97 = .ok (.ireturn, 1) := by decide +kernel
theorem dX7_count_98 : decode cX7_count 98 = .ok (.aload_n 0, 1) := by decide +kernel
theorem dX7_count_99 : decode cX7_count 99 = .ok (.getfield 10, 3) := by decide +kernel
theorem dX7_count_102 : decode cX7_count 102 = .ok (.invokevirtual 152, 3) := by decide +kernel
theorem dX7_count_105 : decode cX7_count 105 = .ok (.ireturn, 1) := by decide +kernel
theorem dX7_count_106 : decode cX7_count 106 = .ok (.aload_n 0, 1) := by decide +kernel
theorem dX7_count_107 : decode cX7_count 107 = .ok (.getfield 10, 3) := by decide +kernel
theorem dX7_count_110 : decode cX7_count 110 = .ok (.invokevirtual 156, 3) := by decide +kernel
theorem dX7_count_113 : decode cX7_count 113 = .ok (.ireturn, 1) := by decide +kernel
theorem dX7_count_114 : decode cX7_count 114 = .ok (.new 44, 3) := by decide +kernel
theorem dX7_count_117 : decode cX7_count 117 = .ok (.dup, 1) := by decide +kernel
theorem dX7_count_118 : decode cX7_count 118 = .ok (.ldc 159, 2) := by decide +kernel
theorem dX7_count_120 : decode cX7_count 120 = .ok (.invokespecial 48, 3) := by decide +kernel
theorem dX7_count_123 : decode cX7_count 123 = .ok (.athrow, 1) := by decide +kernel
theorem dX7_player_0 : decode cX7_player 0 = .ok (.iload_n 1, 1) := by decide +kernel
theorem dX7_player_1 : decode cX7_player 1 = .ok (.invokestatic 73, 3) := by decide +kernel
theorem dX7_player_4 : decode cX7_player 4 = .ok (.ifCond .ne 13, 3) := by decide +kernel
theorem dX7_player_7 : decode cX7_player 7 = .ok (.new 77, 3) := by decide +kernel
theorem dX7_player_10 : decode cX7_player 10 = .ok (.dup, 1) := by decide +kernel
theorem dX7_player_11 : decode cX7_player 11 = .ok (.ldc 79, 2) := by decide +kernel
theorem dX7_player_13 : decode cX7_player 13 = .ok (.invokespecial 81, 3) := by decide +kernel
theorem dX7_player_16 : decode cX7_player 16 = .ok (.athrow, 1) := by decide +kernel
theorem dX7_player_17 : decode cX7_player 17 = .ok (.aload_n 0, 1) := by decide +kernel
theorem dX7_player_18 : decode cX7_player 18 = .ok (.getfield 10, 3) := by decide +kernel
theorem dX7_player_21 : decode cX7_player 21 = .ok (.invokevirtual 57, 3) := by decide +kernel
theorem dX7_player_24 : decode cX7_player 24 = .ok (.astore_n 3, 1) := by decide +kernel
theorem dX7_player_25 : decode cX7_player 25 = .ok (.iload_n 2, 1) := by decide +kernel
theorem dX7_player_26 : decode cX7_player 26 = .ok (.tableswitch 121 0 7 #[46, 55, 63, 71, 77, 86, 95, 108], 46) := by decide +kernel
theorem dX7_player_72 : decode cX7_player 72 = .ok (.aload_n 0, 1) := by decide +kernel
theorem dX7_player_73 : decode cX7_player 73 = .ok (.getfield 10, 3) := by decide +kernel
theorem dX7_player_76 : decode cX7_player 76 = .ok (.iload_n 1, 1) := by decide +kernel
theorem dX7_player_77 : decode cX7_player 77 = .ok (.invokevirtual 161, 3) := by decide +kernel
theorem dX7_player_80 : decode cX7_player 80 = .ok (.ireturn, 1) := by decide +kernel
theorem dX7_player_81 : decode cX7_player 81 = .ok (.aload_n 3, 1) := by decide +kernel
theorem dX7_player_82 : decode cX7_player 82 = .ok (.iconst 1, 1) := by decide +kernel
theorem dX7_player_83 : decode cX7_player 83 = .ok (.iload_n 1, 1) := by decide +kernel
theorem dX7_player_84 : decode cX7_player 84 = .ok (.iadd, 1) := by decide +kernel
theorem dX7_player_85 : decode cX7_player 85 = .ok (.invokevirtual 61, 3) := by decide +kernel
theorem dX7_player_88 : decode cX7_player 88 = .ok (.ireturn, 1) := by decide +kernel
theorem dX7_player_89 : decode cX7_player 89 = .ok (.aload_n 3, 1) := by decide +kernel
theorem dX7_player_90 : decode cX7_player 90 = .ok (.iconst 3, 1) := by decide +kernel
theorem dX7_player_91 : decode cX7_player 91 = .ok (.iload_n 1, 1) := by decide +kernel
theorem dX7_player_92 : decode cX7_player 92 = .ok (.iadd, 1) := by decide +kernel
theorem dX7_player_93 : decode cX7_player 93 = .ok (.invokevirtual 61, 3) := by decide +kernel
theorem dX7_player_96 : decode cX7_player 96 = .ok (.ireturn, 1) := by decide +kernel
theorem dX7_player_97 : decode cX7_player 97 = .ok (.aload_n 3, 1) := by decide +kernel
theorem dX7_player_98 : decode cX7_player 98 = .ok (.iload_n 1, 1) := by decide +kernel
theorem dX7_player_99 : decode cX7_player 99 = .ok (.invokevirtual 164, 3) := by decide +kernel
theorem dX7_player_102 : decode cX7_player 102 = .ok (.ireturn, 1) := by decide +kernel
theorem dX7_player_103 : decode cX7_player 103 = .ok (.aload_n 0, 1) := by decide +kernel
theorem dX7_player_104 : decode cX7_player 104 = .ok (.getfield 10, 3) := by decide +kernel
theorem dX7_player_107 : decode cX7_player 107 = .ok (.iload_n 1, 1) := by decide +kernel
theorem dX7_player_108 : decode cX7_player 108 = .ok (.invokevirtual 84, 3) := by decide +kernel
theorem dX7_player_111 : decode cX7_player 111 = .ok (.ireturn, 1) := by decide +kernel
theorem dX7_player_112 : decode cX7_player 112 = .ok (.aload_n 0, 1) := by decide +kernel
theorem dX7_player_113 : decode cX7_player 113 = .ok (.getfield 10, 3) := by decide +kernel
theorem dX7_player_116 : decode cX7_player 116 = .ok (.iload_n 1, 1) := by decide +kernel
theorem dX7_player_117 : decode cX7_player 117 = .ok (.invokevirtual 167, 3) := by decide +kernel
theorem dX7_player_120 : decode cX7_player 120 = .ok (.ireturn, 1) := by decide +kernel
theorem dX7_player_121 : decode cX7_player 121 = .ok (.aload_n 3, 1) := by decide +kernel
theorem dX7_player_122 : decode cX7_player 122 = .ok (.aload_n 0, 1) := by decide +kernel
theorem dX7_player_123 : decode cX7_player 123 = .ok (.getfield 10, 3) := by decide +kernel
theorem dX7_player_126 : decode cX7_player 126 = .ok (.getfield 123, 3) := by decide +kernel
theorem dX7_player_129 : decode cX7_player 129 = .ok (.iload_n 1, 1) := by decide +kernel
theorem dX7_player_130 : decode cX7_player 130 = .ok (.invokevirtual 170, 3) := by decide +kernel
theorem dX7_player_133 : decode cX7_player 133 = .ok (.ireturn, 1) := by decide +kernel
theorem dX7_player_134 : decode cX7_player 134 = .ok (.aload_n 3, 1) := by decide +kernel
theorem dX7_player_135 : decode cX7_player 135 = .ok (.aload_n 0, 1) := by decide +kernel
theorem dX7_player_136 : decode cX7_player 136 = .ok (.getfield 10, 3) := by decide +kernel
theorem dX7_player_139 : decode cX7_player 139 = .ok (.getfield 123, 3) := by decide +kernel
theorem dX7_player_142 : decode cX7_player 142 = .ok (.iload_n 1, 1) := by decide +kernel
theorem dX7_player_143 : decode cX7_player 143 = .ok (.invokevirtual 174, 3) := by decide +kernel
theorem dX7_player_146 : decode cX7_player 146 = .ok (.ireturn, 1) := by decide +kernel
theorem dX7_player_147 : decode cX7_player 147 = .ok (.new 44, 3) := by decide +kernel
theorem dX7_player_150 : decode cX7_player 150 = .ok (.dup, 1) := by decide +kernel
theorem dX7_player_151 : decode cX7_player 151 = .ok (.ldc 150, 2) := by decide +kernel
theorem dX7_player_153 : decode cX7_player 153 = .ok (.invokespecial 48, 3) := by decide +kernel
theorem dX7_player_156 : decode cX7_player 156 = .ok (.athrow, 1) := by decide +kernel
theorem dX7_region_0 : decode cX7_region 0 = .ok (.iload_n 1, 1) := by decide +kernel
theorem dX7_region_1 : decode cX7_region 1 = .ok (.invokestatic 73, 3) := by decide +kernel
theorem dX7_region_4 : decode cX7_region 4 = .ok (.ifCond .eq 17, 3) := by decide +kernel
theorem dX7_region_7 : decode cX7_region 7 = .ok (.aload_n 0, 1) := by decide +kernel
theorem dX7_region_8 : decode cX7_region 8 = .ok (.getfield 10, 3) := by decide +kernel
theorem dX7_region_11 : decode cX7_region 11 = .ok (.getfield 123, 3) := by decide +kernel
theorem dX7_region_14 : decode cX7_region 14 = .ok (.iload_n 2, 1) := by decide +kernel
theorem dX7_region_15 : decode cX7_region 15 = .ok (.invokevirtual 141, 3) := by decide +kernel
theorem dX7_region_18 : decode cX7_region 18 = .ok (.ifCond .ne 13, 3) := by decide +kernel
theorem dX7_region_21 : decode cX7_region 21 = .ok (.new 77, 3) := by decide +kernel
theorem dX7_region_24 : decode cX7_region 24 = .ok (.dup, 1) := by decide +kernel
theorem dX7_region_25 : decode cX7_region 25 = .ok (.ldc 177, 2) := by decide +kernel
theorem dX7_region_27 : decode cX7_region 27 = .ok (.invokespecial 81, 3) := by decide +kernel
theorem dX7_region_30 : decode cX7_region 30 = .ok (.athrow, 1) := by decide +kernel
theorem dX7_region_31 : decode cX7_region 31 = .ok (.aload_n 0, 1) := by decide +kernel
theorem dX7_region_32 : decode cX7_region 32 = .ok (.getfield 10, 3) := by decide +kernel
theorem dX7_region_35 : decode cX7_region 35 = .ok (.getfield 123, 3) := by decide +kernel
theorem dX7_region_38 : decode cX7_region 38 = .ok (.lconst 1, 1) := by decide +kernel
theorem dX7_region_39 : decode cX7_region 39 = .ok (.iload_n 2, 1) := by decide +kernel
theorem dX7_region_40 : decode cX7_region 40 = .ok (.lshl, 1) := by decide +kernel
theorem dX7_region_41 : decode cX7_region 41 = .ok (.aload_n 0, 1) := by decide +kernel
theorem dX7_region_42 : decode cX7_region 42 = .ok (.getfield 10, 3) := by decide +kernel
theorem dX7_region_45 : decode cX7_region 45 = .ok (.invokevirtual 57, 3) := by decide +kernel
theorem dX7_region_48 : decode cX7_region 48 = .ok (.aload_n 0, 1) := by decide +kernel
theorem dX7_region_49 : decode cX7_region 49 = .ok (.getfield 10, 3) := by decide +kernel
theorem dX7_region_52 : decode cX7_region 52 = .ok (.getfield 123, 3) := by decide +kernel
theorem dX7_region_55 : decode cX7_region 55 = .ok (.iload_n 1, 1) := by decide +kernel
theorem dX7_region_56 : decode cX7_region 56 = .ok (.invokevirtual 179, 3) := by decide +kernel
theorem dX7_region_59 : decode cX7_region 59 = .ok (.invokevirtual 183, 3) := by decide +kernel
theorem dX7_region_62 : decode cX7_region 62 = .ok (.lstore_n 3, 1) := by decide +kernel
theorem dX7_region_63 : decode cX7_region 63 = .ok (.lload_n 3, 1) := by decide +kernel
theorem dX7_region_64 : decode cX7_region 64 = .ok (.lconst 0, 1) := by decide +kernel
theorem dX7_region_65 : decode cX7_region 65 = .ok (.lcmp, 1) := by decide +kernel
theorem dX7_region_66 : decode cX7_region 66 = .ok (.ifCond .ne 13, 3) := by decide +kernel
theorem dX7_region_69 : decode cX7_region 69 = .ok (.new 187, 3) := by decide +kernel
theorem dX7_region_72 : decode cX7_region 72 = .ok (.dup, 1) := by decide +kernel
theorem dX7_region_73 : decode cX7_region 73 = .ok (.ldc 189, 2) := by decide +kernel
theorem dX7_region_75 : decode cX7_region 75 = .ok (.invokespecial 191, 3) := by decide +kernel
theorem dX7_region_78 : decode cX7_region 78 = .ok (.athrow, 1) := by decide +kernel
theorem dX7_region_79 : decode cX7_region 79 = .ok (.lload_n 3, 1) := by decide +kernel
theorem dX7_region_80 : decode cX7_region 80 = .ok (.lreturn, 1) := by decide +kernel
theorem dX7_cells_0 : decode cX7_cells 0 = .ok (.iload_n 1, 1) := by decide +kernel
theorem dX7_cells_1 : decode cX7_cells 1 = .ok (.ifCond .lt 8, 3) := by decide +kernel
theorem dX7_cells_4 : decode cX7_cells 4 = .ok (.iload_n 1, 1) := by decide +kernel
theorem dX7_cells_5 : decode cX7_cells 5 = .ok (.iconst 5, 1) := by decide +kernel
theorem dX7_cells_6 : decode cX7_cells 6 = .ok (.if_icmp .le 13, 3) := by decide +kernel
theorem dX7_cells_9 : decode cX7_cells 9 = .ok (.new 44, 3) := by decide +kernel
theorem dX7_cells_12 : decode cX7_cells 12 = .ok (.dup, 1) := by decide +kernel
theorem dX7_cells_13 : decode cX7_cells 13 = .ok (.ldc 192, 2) := by decide +kernel
theorem dX7_cells_15 : decode cX7_cells 15 = .ok (.invokespecial 48, 3) := by decide +kernel
theorem dX7_cells_18 : decode cX7_cells 18 = .ok (.athrow, 1) := by decide +kernel
theorem dX7_cells_19 : decode cX7_cells 19 = .ok (.aload_n 0, 1) := by decide +kernel
theorem dX7_cells_20 : decode cX7_cells 20 = .ok (.getfield 10, 3) := by decide +kernel
theorem dX7_cells_23 : decode cX7_cells 23 = .ok (.invokevirtual 57, 3) := by decide +kernel
theorem dX7_cells_26 : decode cX7_cells 26 = .ok (.iload_n 1, 1) := by decide +kernel
theorem dX7_cells_27 : decode cX7_cells 27 = .ok (.invokevirtual 194, 3) := by decide +kernel
theorem dX7_cells_30 : decode cX7_cells 30 = .ok (.lreturn, 1) := by decide +kernel
theorem dX7_chain_0 : decode cX7_chain 0 = .ok (.aload_n 0, 1) := by decide +kernel
theorem dX7_chain_1 : decode cX7_chain 1 = .ok (.getfield 10, 3) := by decide +kernel
theorem dX7_chain_4 : decode cX7_chain 4 = .ok (.getfield 123, 3) := by decide +kernel
theorem dX7_chain_7 : decode cX7_chain 7 = .ok (.iload_n 1, 1) := by decide +kernel
theorem dX7_chain_8 : decode cX7_chain 8 = .ok (.invokevirtual 141, 3) := by decide +kernel
theorem dX7_chain_11 : decode cX7_chain 11 = .ok (.ifCond .ne 13, 3) := by decide +kernel
theorem dX7_chain_14 : decode cX7_chain 14 = .ok (.new 77, 3) := by decide +kernel
theorem dX7_chain_17 : decode cX7_chain 17 = .ok (.dup, 1) := by decide +kernel
theorem dX7_chain_18 : decode cX7_chain 18 = .ok (.ldc 94, 2) := by decide +kernel
theorem dX7_chain_20 : decode cX7_chain 20 = .ok (.invokespecial 81, 3) := by decide +kernel
theorem dX7_chain_23 : decode cX7_chain 23 = .ok (.athrow, 1) := by decide +kernel
theorem dX7_chain_24 : decode cX7_chain 24 = .ok (.aload_n 0, 1) := by decide +kernel
theorem dX7_chain_25 : decode cX7_chain 25 = .ok (.getfield 10, 3) := by decide +kernel
theorem dX7_chain_28 : decode cX7_chain 28 = .ok (.invokevirtual 57, 3) := by decide +kernel
theorem dX7_chain_31 : decode cX7_chain 31 = .ok (.astore_n 2, 1) := by decide +kernel
theorem dX7_chain_32 : decode cX7_chain 32 = .ok (.aload_n 2, 1) := by decide +kernel
theorem dX7_chain_33 : decode cX7_chain 33 = .ok (.iload_n 1, 1) := by decide +kernel
theorem dX7_chain_34 : decode cX7_chain 34 = .ok (.invokevirtual 138, 3) := by decide +kernel
theorem dX7_chain_37 : decode cX7_chain 37 = .ok (.istore_n 3, 1) := by decide +kernel
theorem dX7_chain_38 : decode cX7_chain 38 = .ok (.iload_n 3, 1) := by decide +kernel
theorem dX7_chain_39 : decode cX7_chain 39 = .ok (.iconst 1, 1) := by decide +kernel
theorem dX7_chain_40 : decode cX7_chain 40 = .ok (.if_icmp .eq 18, 3) := by decide +kernel
theorem dX7_chain_43 : decode cX7_chain 43 = .ok (.iload_n 3, 1) := by decide +kernel
theorem dX7_chain_44 : decode cX7_chain 44 = .ok (.iconst 2, 1) := by decide +kernel
theorem dX7_chain_45 : decode cX7_chain 45 = .ok (.if_icmp .eq 13, 3) := by decide +kernel
theorem dX7_chain_48 : decode cX7_chain 48 = .ok (.new 187, 3) := by decide +kernel
theorem dX7_chain_51 : decode cX7_chain 51 = .ok (.dup, 1) := by decide +kernel
theorem dX7_chain_52 : decode cX7_chain 52 = .ok (.ldc 198, 2) := by decide +kernel
theorem dX7_chain_54 : decode cX7_chain 54 = .ok (.invokespecial 191, 3) := by decide +kernel
theorem dX7_chain_57 : decode cX7_chain 57 = .ok (.athrow, 1) := by decide +kernel
theorem dX7_chain_58 : decode cX7_chain 58 = .ok (.aload_n 0, 1) := by decide +kernel
theorem dX7_chain_59 : decode cX7_chain 59 = .ok (.getfield 10, 3) := by decide +kernel
theorem dX7_chain_62 : decode cX7_chain 62 = .ok (.getfield 123, 3) := by decide +kernel
theorem dX7_chain_65 : decode cX7_chain 65 = .ok (.lconst 1, 1) := by decide +kernel
theorem dX7_chain_66 : decode cX7_chain 66 = .ok (.iload_n 1, 1) := by decide +kernel
theorem dX7_chain_67 : decode cX7_chain 67 = .ok (.lshl, 1) := by decide +kernel
theorem dX7_chain_68 : decode cX7_chain 68 = .ok (.aload_n 2, 1) := by decide +kernel
theorem dX7_chain_69 : decode cX7_chain 69 = .ok (.iload_n 3, 1) := by decide +kernel
theorem dX7_chain_70 : decode cX7_chain 70 = .ok (.invokevirtual 194, 3) := by decide +kernel
theorem dX7_chain_73 : decode cX7_chain 73 = .ok (.invokevirtual 183, 3) := by decide +kernel
theorem dX7_chain_76 : decode cX7_chain 76 = .ok (.lreturn, 1) := by decide +kernel
theorem dX7_stonesToEnclose_0 : decode cX7_stonesToEnclose 0 = .ok (.iload_n 1, 1) := by decide +kernel
theorem dX7_stonesToEnclose_1 : decode cX7_stonesToEnclose 1 = .ok (.invokestatic 73, 3) := by decide +kernel
theorem dX7_stonesToEnclose_4 : decode cX7_stonesToEnclose 4 = .ok (.ifCond .eq 17, 3) := by decide +kernel
theorem dX7_stonesToEnclose_7 : decode cX7_stonesToEnclose 7 = .ok (.aload_n 0, 1) := by decide +kernel
theorem dX7_stonesToEnclose_8 : decode cX7_stonesToEnclose 8 = .ok (.getfield 10, 3) := by decide +kernel
theorem dX7_stonesToEnclose_11 : decode cX7_stonesToEnclose 11 = .ok (.getfield 123, 3) := by decide +kernel
theorem dX7_stonesToEnclose_14 : decode cX7_stonesToEnclose 14 = .ok (.iload_n 2, 1) := by decide +kernel
theorem dX7_stonesToEnclose_15 : decode cX7_stonesToEnclose 15 = .ok (.invokevirtual 141, 3) := by decide +kernel
theorem dX7_stonesToEnclose_18 : decode cX7_stonesToEnclose 18 = .ok (.ifCond .ne 13, 3) := by decide +kernel
theorem dX7_stonesToEnclose_21 : decode cX7_stonesToEnclose 21 = .ok (.new 77, 3) := by decide +kernel
theorem dX7_stonesToEnclose_24 : decode cX7_stonesToEnclose 24 = .ok (.dup, 1) := by decide +kernel
theorem dX7_stonesToEnclose_25 : decode cX7_stonesToEnclose 25 = .ok (.ldc 177, 2) := by decide +kernel
theorem dX7_stonesToEnclose_27 : decode cX7_stonesToEnclose 27 = .ok (.invokespecial 81, 3) := by decide +kernel
theorem dX7_stonesToEnclose_30 : decode cX7_stonesToEnclose 30 = .ok (.athrow, 1) := by decide +kernel
theorem dX7_stonesToEnclose_31 : decode cX7_stonesToEnclose 31 = .ok (.aload_n 0, 1) := by decide +kernel
theorem dX7_stonesToEnclose_32 : decode cX7_stonesToEnclose 32 = .ok (.getfield 10, 3) := by decide +kernel
theorem dX7_stonesToEnclose_35 : decode cX7_stonesToEnclose 35 = .ok (.invokevirtual 57, 3) := by decide +kernel
theorem dX7_stonesToEnclose_38 : decode cX7_stonesToEnclose 38 = .ok (.astore_n 3, 1) := by decide +kernel
theorem dX7_stonesToEnclose_39 : decode cX7_stonesToEnclose 39 = .ok (.aload_n 3, 1) := by decide +kernel
theorem dX7_stonesToEnclose_40 : decode cX7_stonesToEnclose 40 = .ok (.aload_n 0, 1) := by decide +kernel
theorem dX7_stonesToEnclose_41 : decode cX7_stonesToEnclose 41 = .ok (.getfield 10, 3) := by decide +kernel
theorem dX7_stonesToEnclose_44 : decode cX7_stonesToEnclose 44 = .ok (.getfield 123, 3) := by decide +kernel
theorem dX7_stonesToEnclose_47 : decode cX7_stonesToEnclose 47 = .ok (.iload_n 1, 1) := by decide +kernel
theorem dX7_stonesToEnclose_48 : decode cX7_stonesToEnclose 48 = .ok (.invokevirtual 179, 3) := by decide +kernel
theorem dX7_stonesToEnclose_51 : decode cX7_stonesToEnclose 51 = .ok (.lconst 1, 1) := by decide +kernel
theorem dX7_stonesToEnclose_52 : decode cX7_stonesToEnclose 52 = .ok (.iload_n 2, 1) := by decide +kernel
theorem dX7_stonesToEnclose_53 : decode cX7_stonesToEnclose 53 = .ok (.lshl, 1) := by decide +kernel
theorem dX7_stonesToEnclose_54 : decode cX7_stonesToEnclose 54 = .ok (.land, 1) := by decide +kernel
theorem dX7_stonesToEnclose_55 : decode cX7_stonesToEnclose 55 = .ok (.lconst 0, 1) := by decide +kernel
theorem dX7_stonesToEnclose_56 : decode cX7_stonesToEnclose 56 = .ok (.lcmp, 1) := by decide +kernel
theorem dX7_stonesToEnclose_57 : decode cX7_stonesToEnclose 57 = .ok (.ifCond .ne 13, 3) := by decide +kernel
theorem dX7_stonesToEnclose_60 : decode cX7_stonesToEnclose 60 = .ok (.new 187, 3) := by decide +kernel
theorem dX7_stonesToEnclose_63 : decode cX7_stonesToEnclose 63 = .ok (.dup, 1) := by decide +kernel
theorem dX7_stonesToEnclose_64 : decode cX7_stonesToEnclose 64 = .ok (.ldc 189, 2) := by decide +kernel
theorem dX7_stonesToEnclose_66 : decode cX7_stonesToEnclose 66 = .ok (.invokespecial 191, 3) := by decide +kernel
theorem dX7_stonesToEnclose_69 : decode cX7_stonesToEnclose 69 = .ok (.athrow, 1) := by decide +kernel
theorem dX7_stonesToEnclose_70 : decode cX7_stonesToEnclose 70 = .ok (.aload_n 3, 1) := by decide +kernel
theorem dX7_stonesToEnclose_71 : decode cX7_stonesToEnclose 71 = .ok (.aload_n 0, 1) := by decide +kernel
theorem dX7_stonesToEnclose_72 : decode cX7_stonesToEnclose 72 = .ok (.getfield 10, 3) := by decide +kernel
theorem dX7_stonesToEnclose_75 : decode cX7_stonesToEnclose 75 = .ok (.getfield 123, 3) := by decide +kernel
theorem dX7_stonesToEnclose_78 : decode cX7_stonesToEnclose 78 = .ok (.iload_n 1, 1) := by decide +kernel
theorem dX7_stonesToEnclose_79 : decode cX7_stonesToEnclose 79 = .ok (.iload_n 2, 1) := by decide +kernel
theorem dX7_stonesToEnclose_80 : decode cX7_stonesToEnclose 80 = .ok (.invokevirtual 200, 3) := by decide +kernel
theorem dX7_stonesToEnclose_83 : decode cX7_stonesToEnclose 83 = .ok (.istore 4, 2) := by decide +kernel
theorem dX7_stonesToEnclose_85 : decode cX7_stonesToEnclose 85 = .ok (.iload 4, 2) := by decide +kernel
theorem dX7_stonesToEnclose_87 : decode cX7_stonesToEnclose 87 = .ok (.iconst 2, 1) := by decide +kernel
theorem dX7_stonesToEnclose_88 : decode cX7_stonesToEnclose 88 = .ok (.if_icmp .le 13, 3) := by decide +kernel
theorem dX7_stonesToEnclose_91 : decode cX7_stonesToEnclose 91 = .ok (.new 187, 3) := by decide +kernel
theorem dX7_stonesToEnclose_94 : decode cX7_stonesToEnclose 94 = .ok (.dup, 1) := by decide +kernel
theorem dX7_stonesToEnclose_95 : decode cX7_stonesToEnclose 95 = .ok (.ldc 204, 2) := by decide +kernel
theorem dX7_stonesToEnclose_97 : decode cX7_stonesToEnclose 97 = .ok (.invokespecial 191, 3) := by decide +kernel
theorem dX7_stonesToEnclose_100 : decode cX7_stonesToEnclose 100 = .ok (.athrow, 1) := by decide +kernel
theorem dX7_stonesToEnclose_101 : decode cX7_stonesToEnclose 101 = .ok (.iload 4, 2) := by decide +kernel
theorem dX7_stonesToEnclose_103 : decode cX7_stonesToEnclose 103 = .ok (.ireturn, 1) := by decide +kernel
theorem dX7_share_0 : decode cX7_share 0 = .ok (.iload_n 1, 1) := by decide +kernel
theorem dX7_share_1 : decode cX7_share 1 = .ok (.invokestatic 73, 3) := by decide +kernel
theorem dX7_share_4 : decode cX7_share 4 = .ok (.ifCond .ne 13, 3) := by decide +kernel
theorem dX7_share_7 : decode cX7_share 7 = .ok (.new 77, 3) := by decide +kernel
theorem dX7_share_10 : decode cX7_share 10 = .ok (.dup, 1) := by decide +kernel
theorem dX7_share_11 : decode cX7_share 11 = .ok (.ldc 79, 2) := by decide +kernel
theorem dX7_share_13 : decode cX7_share 13 = .ok (.invokespecial 81, 3) := by decide +kernel
theorem dX7_share_16 : decode cX7_share 16 = .ok (.athrow, 1) := by decide +kernel
theorem dX7_share_17 : decode cX7_share 17 = .ok (.aload_n 0, 1) := by decide +kernel
theorem dX7_share_18 : decode cX7_share 18 = .ok (.getfield 10, 3) := by decide +kernel
theorem dX7_share_21 : decode cX7_share 21 = .ok (.getfield 123, 3) := by decide +kernel
theorem dX7_share_24 : decode cX7_share 24 = .ok (.aload_n 0, 1) := by decide +kernel
theorem dX7_share_25 : decode cX7_share 25 = .ok (.getfield 10, 3) := by decide +kernel
theorem dX7_share_28 : decode cX7_share 28 = .ok (.invokevirtual 57, 3) := by decide +kernel
theorem dX7_share_31 : decode cX7_share 31 = .ok (.iload_n 1, 1) := by decide +kernel
theorem dX7_share_32 : decode cX7_share 32 = .ok (.invokevirtual 206, 3) := by decide +kernel
theorem dX7_share_35 : decode cX7_share 35 = .ok (.invokevirtual 209, 3) := by decide +kernel
theorem dX7_share_38 : decode cX7_share 38 = .ok (.dreturn, 1) := by decide +kernel
theorem dX7_round_0 : decode cX7_round 0 = .ok (.iload_n 1, 1) := by decide +kernel
theorem dX7_round_1 : decode cX7_round 1 = .ok (.ifCond .lt 14, 3) := by decide +kernel
theorem dX7_round_4 : decode cX7_round 4 = .ok (.iload_n 1, 1) := by decide +kernel
theorem dX7_round_5 : decode cX7_round 5 = .ok (.aload_n 0, 1) := by decide +kernel
theorem dX7_round_6 : decode cX7_round 6 = .ok (.getfield 10, 3) := by decide +kernel
theorem dX7_round_9 : decode cX7_round 9 = .ok (.getfield 118, 3) := by decide +kernel
theorem dX7_round_12 : decode cX7_round 12 = .ok (.if_icmp .lt 13, 3) := by decide +kernel
theorem dX7_round_15 : decode cX7_round 15 = .ok (.new 77, 3) := by decide +kernel
theorem dX7_round_18 : decode cX7_round 18 = .ok (.dup, 1) := by decide +kernel
theorem dX7_round_19 : decode cX7_round 19 = .ok (.ldc 213, 2) := by decide +kernel
theorem dX7_round_21 : decode cX7_round 21 = .ok (.invokespecial 81, 3) := by decide +kernel
theorem dX7_round_24 : decode cX7_round 24 = .ok (.athrow, 1) := by decide +kernel
theorem dX7_round_25 : decode cX7_round 25 = .ok (.aload_n 0, 1) := by decide +kernel
theorem dX7_round_26 : decode cX7_round 26 = .ok (.getfield 10, 3) := by decide +kernel
theorem dX7_round_29 : decode cX7_round 29 = .ok (.getfield 215, 3) := by decide +kernel
theorem dX7_round_32 : decode cX7_round 32 = .ok (.iload_n 1, 1) := by decide +kernel
theorem dX7_round_33 : decode cX7_round 33 = .ok (.aaload, 1) := by decide +kernel
theorem dX7_round_34 : decode cX7_round 34 = .ok (.astore_n 3, 1) := by decide +kernel
theorem dX7_round_35 : decode cX7_round 35 = .ok (.iload_n 2, 1) := by decide +kernel
theorem dX7_round_36 : decode cX7_round 36 = .ok (.tableswitch 83 0 6 #[44, 44, 50, 63, 68, 73, 78], 44) := by decide +kernel
theorem dX7_round_80 : decode cX7_round 80 = .ok (.aload_n 3, 1) := by decide +kernel
theorem dX7_round_81 : decode cX7_round 81 = .ok (.iload_n 2, 1) := by decide +kernel
theorem dX7_round_82 : decode cX7_round 82 = .ok (.invokevirtual 219, 3) := by decide +kernel
theorem dX7_round_85 : decode cX7_round 85 = .ok (.ireturn, 1) := by decide +kernel
theorem dX7_round_86 : decode cX7_round 86 = .ok (.aload_n 3, 1) := by decide +kernel
theorem dX7_round_87 : decode cX7_round 87 = .ok (.invokevirtual 224, 3) := by decide +kernel
theorem dX7_round_90 : decode cX7_round 90 = .ok (.ifCond .eq 7, 3) := by decide +kernel
theorem dX7_round_93 : decode cX7_round 93 = .ok (.iconst 1, 1) := by decide +kernel
theorem dX7_round_94 : decode cX7_round 94 = .ok (.goto 4, 3) := by decide +kernel
theorem dX7_round_97 : decode cX7_round 97 = .ok (.iconst 0, 1) := by decide +kernel
theorem dX7_round_98 : decode cX7_round 98 = .ok (.ireturn, 1) := by decide +kernel
theorem dX7_round_99 : decode cX7_round 99 = .ok (.aload_n 3, 1) := by decide +kernel
theorem dX7_round_100 : decode cX7_round 100 = .ok (.invokevirtual 227, 3) := by decide +kernel
theorem dX7_round_103 : decode cX7_round 103 = .ok (.ireturn, 1) := by decide +kernel
theorem dX7_round_104 : decode cX7_round 104 = .ok (.aload_n 3, 1) := by decide +kernel
theorem dX7_round_105 : decode cX7_round 105 = .ok (.invokevirtual 228, 3) := by decide +kernel
theorem dX7_round_108 : decode cX7_round 108 = .ok (.ireturn, 1) := by decide +kernel
theorem dX7_round_109 : decode cX7_round 109 = .ok (.aload_n 3, 1) := by decide +kernel
theorem dX7_round_110 : decode cX7_round 110 = .ok (.getfield 231, 3) := by decide +kernel
theorem dX7_round_113 : decode cX7_round 113 = .ok (.ireturn, 1) := by decide +kernel
theorem dX7_round_114 : decode cX7_round 114 = .ok (.aload_n 3, 1) := by decide +kernel
theorem dX7_round_115 : decode cX7_round 115 = .ok (.getfield 234, 3) := by decide +kernel
theorem dX7_round_118 : decode cX7_round 118 = .ok (.ireturn, 1) := by decide +kernel
theorem dX7_round_119 : decode cX7_round 119 = .ok (.new 44, 3) := by decide +kernel
theorem dX7_round_122 : decode cX7_round 122 = .ok (.dup, 1) := by decide +kernel
theorem dX7_round_123 : decode cX7_round 123 = .ok (.ldc 237, 2) := by decide +kernel
theorem dX7_round_125 : decode cX7_round 125 = .ok (.invokespecial 48, 3) := by decide +kernel
theorem dX7_round_128 : decode cX7_round 128 = .ok (.athrow, 1) := by decide +kernel
theorem dX7_turningPoint_0 : decode cX7_turningPoint 0 = .ok (.aload_n 0, 1) := by decide +kernel
theorem dX7_turningPoint_1 : decode cX7_turningPoint 1 = .ok (.getfield 10, 3) := by decide +kernel
theorem dX7_turningPoint_4 : decode cX7_turningPoint 4 = .ok (.getfield 118, 3) := by decide +kernel
theorem dX7_turningPoint_7 : decode cX7_turningPoint 7 = .ok (.ifCond .ne 13, 3) := by decide +kernel
theorem dX7_turningPoint_10 : decode cX7_turningPoint 10 = .ok (.new 187, 3) := by decide +kernel
theorem dX7_turningPoint_13 : decode cX7_turningPoint 13 = .ok (.dup, 1) := by decide +kernel
theorem dX7_turningPoint_14 : decode cX7_turningPoint 14 = .ok (.ldc 121, 2) := by decide +kernel
theorem dX7_turningPoint_16 : decode cX7_turningPoint 16 = .ok (.invokespecial 191, 3) := by decide +kernel
theorem dX7_turningPoint_19 : decode cX7_turningPoint 19 = .ok (.athrow, 1) := by decide +kernel
theorem dX7_turningPoint_20 : decode cX7_turningPoint 20 = .ok (.aload_n 0, 1) := by decide +kernel
theorem dX7_turningPoint_21 : decode cX7_turningPoint 21 = .ok (.getfield 10, 3) := by decide +kernel
theorem dX7_turningPoint_24 : decode cX7_turningPoint 24 = .ok (.invokevirtual 239, 3) := by decide +kernel
theorem dX7_turningPoint_27 : decode cX7_turningPoint 27 = .ok (.ireturn, 1) := by decide +kernel
theorem dX7_guarantee_0 : decode cX7_guarantee 0 = .ok (.iload_n 1, 1) := by decide +kernel
theorem dX7_guarantee_1 : decode cX7_guarantee 1 = .ok (.invokestatic 73, 3) := by decide +kernel
theorem dX7_guarantee_4 : decode cX7_guarantee 4 = .ok (.ifCond .eq 11, 3) := by decide +kernel
theorem dX7_guarantee_7 : decode cX7_guarantee 7 = .ok (.aload_n 0, 1) := by decide +kernel
theorem dX7_guarantee_8 : decode cX7_guarantee 8 = .ok (.iload_n 2, 1) := by decide +kernel
theorem dX7_guarantee_9 : decode cX7_guarantee 9 = .ok (.invokevirtual 91, 3) := by decide +kernel
theorem dX7_guarantee_12 : decode cX7_guarantee 12 = .ok (.ifCond .ne 13, 3) := by decide +kernel
theorem dX7_guarantee_15 : decode cX7_guarantee 15 = .ok (.new 77, 3) := by decide +kernel
theorem dX7_guarantee_18 : decode cX7_guarantee 18 = .ok (.dup, 1) := by decide +kernel
theorem dX7_guarantee_19 : decode cX7_guarantee 19 = .ok (.ldc 177, 2) := by decide +kernel
theorem dX7_guarantee_21 : decode cX7_guarantee 21 = .ok (.invokespecial 81, 3) := by decide +kernel
theorem dX7_guarantee_24 : decode cX7_guarantee 24 = .ok (.athrow, 1) := by decide +kernel
theorem dX7_guarantee_25 : decode cX7_guarantee 25 = .ok (.iload_n 3, 1) := by decide +kernel
theorem dX7_guarantee_26 : decode cX7_guarantee 26 = .ok (.invokestatic 242, 3) := by decide +kernel
theorem dX7_guarantee_29 : decode cX7_guarantee 29 = .ok (.ifCond .ne 13, 3) := by decide +kernel
theorem dX7_guarantee_32 : decode cX7_guarantee 32 = .ok (.new 44, 3) := by decide +kernel
theorem dX7_guarantee_35 : decode cX7_guarantee 35 = .ok (.dup, 1) := by decide +kernel
theorem dX7_guarantee_36 : decode cX7_guarantee 36 = .ok (.ldc 245, 2) := by decide +kernel
theorem dX7_guarantee_38 : decode cX7_guarantee 38 = .ok (.invokespecial 48, 3) := by decide +kernel
theorem dX7_guarantee_41 : decode cX7_guarantee 41 = .ok (.athrow, 1) := by decide +kernel
theorem dX7_guarantee_42 : decode cX7_guarantee 42 = .ok (.aload_n 0, 1) := by decide +kernel
theorem dX7_guarantee_43 : decode cX7_guarantee 43 = .ok (.iload_n 3, 1) := by decide +kernel
theorem dX7_guarantee_44 : decode cX7_guarantee 44 = .ok (.invokevirtual 247, 3) := by decide +kernel
theorem dX7_guarantee_47 : decode cX7_guarantee 47 = .ok (.ifCond .eq 17, 3) := by decide +kernel
theorem dX7_guarantee_50 : decode cX7_guarantee 50 = .ok (.aload_n 0, 1) := by decide +kernel
theorem dX7_guarantee_51 : decode cX7_guarantee 51 = .ok (.getfield 10, 3) := by decide +kernel
theorem dX7_guarantee_54 : decode cX7_guarantee 54 = .ok (.invokevirtual 57, 3) := by decide +kernel
theorem dX7_guarantee_57 : decode cX7_guarantee 57 = .ok (.iload_n 2, 1) := by decide +kernel
theorem dX7_guarantee_58 : decode cX7_guarantee 58 = .ok (.invokevirtual 250, 3) := by decide +kernel
theorem dX7_guarantee_61 : decode cX7_guarantee 61 = .ok (.ifCond .ne 13, 3) := by decide +kernel
theorem dX7_guarantee_64 : decode cX7_guarantee 64 = .ok (.new 100, 3) := by decide +kernel
theorem dX7_guarantee_67 : decode cX7_guarantee 67 = .ok (.dup, 1) := by decide +kernel
theorem dX7_guarantee_68 : decode cX7_guarantee 68 = .ok (.ldc 252, 2) := by decide +kernel
theorem dX7_guarantee_70 : decode cX7_guarantee 70 = .ok (.invokespecial 104, 3) := by decide +kernel
theorem dX7_guarantee_73 : decode cX7_guarantee 73 = .ok (.athrow, 1) := by decide +kernel
theorem dX7_guarantee_74 : decode cX7_guarantee 74 = .ok (.aload_n 0, 1) := by decide +kernel
theorem dX7_guarantee_75 : decode cX7_guarantee 75 = .ok (.getfield 40, 3) := by decide +kernel
theorem dX7_guarantee_78 : decode cX7_guarantee 78 = .ok (.aload_n 0, 1) := by decide +kernel
theorem dX7_guarantee_79 : decode cX7_guarantee 79 = .ok (.getfield 10, 3) := by decide +kernel
theorem dX7_guarantee_82 : decode cX7_guarantee 82 = .ok (.aload_n 0, 1) := by decide +kernel
theorem dX7_guarantee_83 : decode cX7_guarantee 83 = .ok (.getfield 10, 3) := by decide +kernel
theorem dX7_guarantee_86 : decode cX7_guarantee 86 = .ok (.invokevirtual 57, 3) := by decide +kernel
theorem dX7_guarantee_89 : decode cX7_guarantee 89 = .ok (.iload_n 1, 1) := by decide +kernel
theorem dX7_guarantee_90 : decode cX7_guarantee 90 = .ok (.iload_n 2, 1) := by decide +kernel
theorem dX7_guarantee_91 : decode cX7_guarantee 91 = .ok (.iload_n 3, 1) := by decide +kernel
theorem dX7_guarantee_92 : decode cX7_guarantee 92 = .ok (.invokevirtual 254, 3) := by decide +kernel
theorem dX7_guarantee_95 : decode cX7_guarantee 95 = .ok (.ireturn, 1) := by decide +kernel
theorem dX7_best_0 : decode cX7_best 0 = .ok (.iload_n 1, 1) := by decide +kernel
theorem dX7_best_1 : decode cX7_best 1 = .ok (.invokestatic 73, 3) := by decide +kernel
theorem dX7_best_4 : decode cX7_best 4 = .ok (.ifCond .ne 13, 3) := by decide +kernel
theorem dX7_best_7 : decode cX7_best 7 = .ok (.new 77, 3) := by decide +kernel
theorem dX7_best_10 : decode cX7_best 10 = .ok (.dup, 1) := by decide +kernel
theorem dX7_best_11 : decode cX7_best 11 = .ok (.ldc 79, 2) := by decide +kernel
theorem dX7_best_13 : decode cX7_best 13 = .ok (.invokespecial 81, 3) := by decide +kernel
theorem dX7_best_16 : decode cX7_best 16 = .ok (.athrow, 1) := by decide +kernel
theorem dX7_best_17 : decode cX7_best 17 = .ok (.iload_n 2, 1) := by decide +kernel
theorem dX7_best_18 : decode cX7_best 18 = .ok (.invokestatic 242, 3) := by decide +kernel
theorem dX7_best_21 : decode cX7_best 21 = .ok (.ifCond .ne 13, 3) := by decide +kernel
theorem dX7_best_24 : decode cX7_best 24 = .ok (.new 44, 3) := by decide +kernel
theorem dX7_best_27 : decode cX7_best 27 = .ok (.dup, 1) := by decide +kernel
theorem dX7_best_28 : decode cX7_best 28 = .ok (.ldc 245, 2) := by decide +kernel
theorem dX7_best_30 : decode cX7_best 30 = .ok (.invokespecial 48, 3) := by decide +kernel
theorem dX7_best_33 : decode cX7_best 33 = .ok (.athrow, 1) := by decide +kernel
theorem dX7_best_34 : decode cX7_best 34 = .ok (.aload_n 0, 1) := by decide +kernel
theorem dX7_best_35 : decode cX7_best 35 = .ok (.iload_n 2, 1) := by decide +kernel
theorem dX7_best_36 : decode cX7_best 36 = .ok (.invokevirtual 247, 3) := by decide +kernel
theorem dX7_best_39 : decode cX7_best 39 = .ok (.ifCond .ne 14, 3) := by decide +kernel
theorem dX7_best_42 : decode cX7_best 42 = .ok (.new 100, 3) := by decide +kernel
theorem dX7_best_45 : decode cX7_best 45 = .ok (.dup, 1) := by decide +kernel
theorem dX7_best_46 : decode cX7_best 46 = .ok (.ldc_w 258, 3) := by decide +kernel
theorem dX7_best_49 : decode cX7_best 49 = .ok (.invokespecial 104, 3) := by decide +kernel
theorem dX7_best_52 : decode cX7_best 52 = .ok (.athrow, 1) := by decide +kernel
theorem dX7_best_53 : decode cX7_best 53 = .ok (.aload_n 0, 1) := by decide +kernel
theorem dX7_best_54 : decode cX7_best 54 = .ok (.getfield 10, 3) := by decide +kernel
theorem dX7_best_57 : decode cX7_best 57 = .ok (.invokevirtual 57, 3) := by decide +kernel
theorem dX7_best_60 : decode cX7_best 60 = .ok (.astore_n 3, 1) := by decide +kernel
theorem dX7_best_61 : decode cX7_best 61 = .ok (.iconst (-1), 1) := by decide +kernel
theorem dX7_best_62 : decode cX7_best 62 = .ok (.istore 4, 2) := by decide +kernel
theorem dX7_best_64 : decode cX7_best 64 = .ok (.ldc_w 260, 3) := by decide +kernel
theorem dX7_best_67 : decode cX7_best 67 = .ok (.istore 5, 2) := by decide +kernel
theorem dX7_best_69 : decode cX7_best 69 = .ok (.iconst 0, 1) := by decide +kernel
theorem dX7_best_70 : decode cX7_best 70 = .ok (.istore 6, 2) := by decide +kernel
theorem dX7_best_72 : decode cX7_best 72 = .ok (.iload 6, 2) := by decide +kernel
theorem dX7_best_74 : decode cX7_best 74 = .ok (.aload_n 0, 1) := by decide +kernel
theorem dX7_best_75 : decode cX7_best 75 = .ok (.getfield 10, 3) := by decide +kernel
theorem dX7_best_78 : decode cX7_best 78 = .ok (.getfield 123, 3) := by decide +kernel
theorem dX7_best_81 : decode cX7_best 81 = .ok (.getfield 261, 3) := by decide +kernel
theorem dX7_best_84 : decode cX7_best 84 = .ok (.if_icmp .ge 57, 3) := by decide +kernel
theorem dX7_best_87 : decode cX7_best 87 = .ok (.aload_n 3, 1) := by decide +kernel
theorem dX7_best_88 : decode cX7_best 88 = .ok (.iload 6, 2) := by decide +kernel
theorem dX7_best_90 : decode cX7_best 90 = .ok (.invokevirtual 250, 3) := by decide +kernel
theorem dX7_best_93 : decode cX7_best 93 = .ok (.ifCond .eq 22, 3) := by decide +kernel
theorem dX7_best_96 : decode cX7_best 96 = .ok (.aload_n 0, 1) := by decide +kernel
theorem dX7_best_97 : decode cX7_best 97 = .ok (.getfield 40, 3) := by decide +kernel
theorem dX7_best_100 : decode cX7_best 100 = .ok (.aload_n 0, 1) := by decide +kernel
theorem dX7_best_101 : decode cX7_best 101 = .ok (.getfield 10, 3) := by decide +kernel
theorem dX7_best_104 : decode cX7_best 104 = .ok (.aload_n 3, 1) := by decide +kernel
theorem dX7_best_105 : decode cX7_best 105 = .ok (.iload_n 1, 1) := by decide +kernel
theorem dX7_best_106 : decode cX7_best 106 = .ok (.iload 6, 2) := by decide +kernel
theorem dX7_best_108 : decode cX7_best 108 = .ok (.iload_n 2, 1) := by decide +kernel
theorem dX7_best_109 : decode cX7_best 109 = .ok (.invokevirtual 254, 3) := by decide +kernel
theorem dX7_best_112 : decode cX7_best 112 = .ok (.goto 6, 3) := by decide +kernel
theorem dX7_best_115 : decode cX7_best 115 = .ok (.ldc_w 260, 3) := by decide +kernel
theorem dX7_best_118 : decode cX7_best 118 = .ok (.istore 7, 2) := by decide +kernel
theorem dX7_best_120 : decode cX7_best 120 = .ok (.iload 7, 2) := by decide +kernel
theorem dX7_best_122 : decode cX7_best 122 = .ok (.iload 5, 2) := by decide +kernel
theorem dX7_best_124 : decode cX7_best 124 = .ok (.if_icmp .le 11, 3) := by decide +kernel
theorem dX7_best_127 : decode cX7_best 127 = .ok (.iload 7, 2) := by decide +kernel
theorem dX7_best_129 : decode cX7_best 129 = .ok (.istore 5, 2) := by decide +kernel
theorem dX7_best_131 : decode cX7_best 131 = .ok (.iload 6, 2) := by decide +kernel
theorem dX7_best_133 : decode cX7_best 133 = .ok (.istore 4, 2) := by decide +kernel
theorem dX7_best_135 : decode cX7_best 135 = .ok (.iinc 6 1, 3) := by decide +kernel
theorem dX7_best_138 : decode cX7_best 138 = .ok (.goto (-66), 3) := by decide +kernel
theorem dX7_best_141 : decode cX7_best 141 = .ok (.aload_n 0, 1) := by decide +kernel
theorem dX7_best_142 : decode cX7_best 142 = .ok (.getfield 40, 3) := by decide +kernel
theorem dX7_best_145 : decode cX7_best 145 = .ok (.aload_n 0, 1) := by decide +kernel
theorem dX7_best_146 : decode cX7_best 146 = .ok (.getfield 10, 3) := by decide +kernel
theorem dX7_best_149 : decode cX7_best 149 = .ok (.aload_n 3, 1) := by decide +kernel
theorem dX7_best_150 : decode cX7_best 150 = .ok (.iload_n 1, 1) := by decide +kernel
theorem dX7_best_151 : decode cX7_best 151 = .ok (.iconst (-1), 1) := by decide +kernel
theorem dX7_best_152 : decode cX7_best 152 = .ok (.iload_n 2, 1) := by decide +kernel
theorem dX7_best_153 : decode cX7_best 153 = .ok (.invokevirtual 254, 3) := by decide +kernel
theorem dX7_best_156 : decode cX7_best 156 = .ok (.iload 5, 2) := by decide +kernel
theorem dX7_best_158 : decode cX7_best 158 = .ok (.if_icmp .le 7, 3) := by decide +kernel
theorem dX7_best_161 : decode cX7_best 161 = .ok (.iconst (-1), 1) := by decide +kernel
theorem dX7_best_162 : decode cX7_best 162 = .ok (.goto 5, 3) := by decide +kernel
theorem dX7_best_165 : decode cX7_best 165 = .ok (.iload 4, 2) := by decide +kernel
theorem dX7_best_167 : decode cX7_best 167 = .ok (.ireturn, 1) := by decide +kernel
theorem dX7_levels_0 : decode cX7_levels 0 = .ok (.aload_n 0, 1) := by decide +kernel
theorem dX7_levels_1 : decode cX7_levels 1 = .ok (.getfield 26, 3) := by decide +kernel
theorem dX7_levels_4 : decode cX7_levels 4 = .ok (.getfield 264, 3) := by decide +kernel
theorem dX7_levels_7 : decode cX7_levels 7 = .ok (.ireturn, 1) := by decide +kernel
theorem dX7_report_0 : decode cX7_report 0 = .ok (.iload_n 1, 1) := by decide +kernel
theorem dX7_report_1 : decode cX7_report 1 = .ok (.ifCond .lt 14, 3) := by decide +kernel
theorem dX7_report_4 : decode cX7_report 4 = .ok (.iload_n 1, 1) := by decide +kernel
theorem dX7_report_5 : decode cX7_report 5 = .ok (.aload_n 0, 1) := by decide +kernel
theorem dX7_report_6 : decode cX7_report 6 = .ok (.getfield 26, 3) := by decide +kernel
theorem dX7_report_9 : decode cX7_report 9 = .ok (.getfield 264, 3) := by decide +kernel
theorem dX7_report_12 : decode cX7_report 12 = .ok (.if_icmp .lt 14, 3) := by decide +kernel
theorem dX7_report_15 : decode cX7_report 15 = .ok (.new 187, 3) := by decide +kernel
theorem dX7_report_18 : decode cX7_report 18 = .ok (.dup, 1) := by decide +kernel
theorem dX7_report_19 : decode cX7_report 19 = .ok (.ldc_w 265, 3) := by decide +kernel
theorem dX7_report_22 : decode cX7_report 22 = .ok (.invokespecial 191, 3) := by decide +kernel
theorem dX7_report_25 : decode cX7_report 25 = .ok (.athrow, 1) := by decide +kernel
theorem dX7_report_26 : decode cX7_report 26 = .ok (.iload_n 2, 1) := by decide +kernel
theorem dX7_report_27 : decode cX7_report 27 = .ok (.lookupswitch 45 #[(0, 25), (1, 35)], 25) := by decide +kernel
theorem dX7_report_52 : decode cX7_report 52 = .ok (.aload_n 0, 1) := by decide +kernel
theorem dX7_report_53 : decode cX7_report 53 = .ok (.getfield 26, 3) := by decide +kernel
theorem dX7_report_56 : decode cX7_report 56 = .ok (.getfield 267, 3) := by decide +kernel
theorem dX7_report_59 : decode cX7_report 59 = .ok (.iload_n 1, 1) := by decide +kernel
theorem dX7_report_60 : decode cX7_report 60 = .ok (.iaload, 1) := by decide +kernel
theorem dX7_report_61 : decode cX7_report 61 = .ok (.ireturn, 1) := by decide +kernel
theorem dX7_report_62 : decode cX7_report 62 = .ok (.aload_n 0, 1) := by decide +kernel
theorem dX7_report_63 : decode cX7_report 63 = .ok (.getfield 26, 3) := by decide +kernel
theorem dX7_report_66 : decode cX7_report 66 = .ok (.getfield 271, 3) := by decide +kernel
theorem dX7_report_69 : decode cX7_report 69 = .ok (.iload_n 1, 1) := by decide +kernel
theorem dX7_report_70 : decode cX7_report 70 = .ok (.iaload, 1) := by decide +kernel
theorem dX7_report_71 : decode cX7_report 71 = .ok (.ireturn, 1) := by decide +kernel
theorem dX7_report_72 : decode cX7_report 72 = .ok (.new 44, 3) := by decide +kernel
theorem dX7_report_75 : decode cX7_report 75 = .ok (.dup, 1) := by decide +kernel
theorem dX7_report_76 : decode cX7_report 76 = .ok (.ldc 237, 2) := by decide +kernel
theorem dX7_report_78 : decode cX7_report 78 = .ok (.invokespecial 48, 3) := by decide +kernel
theorem dX7_report_81 : decode cX7_report 81 = .ok (.athrow, 1) := by decide +kernel
theorem dX7_feed_0 : decode cX7_feed 0 = .ok (.aload_n 0, 1) := by decide +kernel
theorem dX7_feed_1 : decode cX7_feed 1 = .ok (.getfield 33, 3) := by decide +kernel
theorem dX7_feed_4 : decode cX7_feed 4 = .ok (.iload_n 1, 1) := by decide +kernel
theorem dX7_feed_5 : decode cX7_feed 5 = .ok (.invokevirtual 274, 3) := by decide +kernel
theorem dX7_feed_8 : decode cX7_feed 8 = .ok (.ifCond .ne 14, 3) := by decide +kernel
theorem dX7_feed_11 : decode cX7_feed 11 = .ok (.new 100, 3) := by decide +kernel
theorem dX7_feed_14 : decode cX7_feed 14 = .ok (.dup, 1) := by decide +kernel
theorem dX7_feed_15 : decode cX7_feed 15 = .ok (.ldc_w 278, 3) := by decide +kernel
theorem dX7_feed_18 : decode cX7_feed 18 = .ok (.invokespecial 104, 3) := by decide +kernel
theorem dX7_feed_21 : decode cX7_feed 21 = .ok (.athrow, 1) := by decide +kernel
theorem dX7_feed_22 : decode cX7_feed 22 = .ok (.aload_n 0, 1) := by decide +kernel
theorem dX7_feed_23 : decode cX7_feed 23 = .ok (.getfield 33, 3) := by decide +kernel
theorem dX7_feed_26 : decode cX7_feed 26 = .ok (.getfield 280, 3) := by decide +kernel
theorem dX7_feed_29 : decode cX7_feed 29 = .ok (.ireturn, 1) := by decide +kernel
theorem dX7_readRecord_0 : decode cX7_readRecord 0 = .ok (.aload_n 0, 1) := by decide +kernel
theorem dX7_readRecord_1 : decode cX7_readRecord 1 = .ok (.getfield 33, 3) := by decide +kernel
theorem dX7_readRecord_4 : decode cX7_readRecord 4 = .ok (.aload_n 0, 1) := by decide +kernel
theorem dX7_readRecord_5 : decode cX7_readRecord 5 = .ok (.getfield 10, 3) := by decide +kernel
theorem dX7_readRecord_8 : decode cX7_readRecord 8 = .ok (.getfield 123, 3) := by decide +kernel
theorem dX7_readRecord_11 : decode cX7_readRecord 11 = .ok (.invokevirtual 283, 3) := by decide +kernel
theorem dX7_readRecord_14 : decode cX7_readRecord 14 = .ok (.istore_n 1, 1) := by decide +kernel
theorem dX7_readRecord_15 : decode cX7_readRecord 15 = .ok (.aload_n 0, 1) := by decide +kernel
theorem dX7_readRecord_16 : decode cX7_readRecord 16 = .ok (.getfield 33, 3) := by decide +kernel
theorem dX7_readRecord_19 : decode cX7_readRecord 19 = .ok (.iconst 0, 1) := by decide +kernel
theorem dX7_readRecord_20 : decode cX7_readRecord 20 = .ok (.putfield 280, 3) := by decide +kernel
theorem dX7_readRecord_23 : decode cX7_readRecord 23 = .ok (.iload_n 1, 1) := by decide +kernel
theorem dX7_readRecord_24 : decode cX7_readRecord 24 = .ok (.iconst (-1), 1) := by decide +kernel
theorem dX7_readRecord_25 : decode cX7_readRecord 25 = .ok (.if_icmp .eq 8, 3) := by decide +kernel
theorem dX7_readRecord_28 : decode cX7_readRecord 28 = .ok (.bipush (-100), 2) := by decide +kernel
theorem dX7_readRecord_30 : decode cX7_readRecord 30 = .ok (.iload_n 1, 1) := by decide +kernel
theorem dX7_readRecord_31 : decode cX7_readRecord 31 = .ok (.isub, 1) := by decide +kernel
theorem dX7_readRecord_32 : decode cX7_readRecord 32 = .ok (.ireturn, 1) := by decide +kernel
theorem dX7_readRecord_33 : decode cX7_readRecord 33 = .ok (.aload_n 0, 1) := by decide +kernel
theorem dX7_readRecord_34 : decode cX7_readRecord 34 = .ok (.getfield 33, 3) := by decide +kernel
theorem dX7_readRecord_37 : decode cX7_readRecord 37 = .ok (.getfield 287, 3) := by decide +kernel
theorem dX7_readRecord_40 : decode cX7_readRecord 40 = .ok (.iconst 2, 1) := by decide +kernel
theorem dX7_readRecord_41 : decode cX7_readRecord 41 = .ok (.idiv, 1) := by decide +kernel
theorem dX7_readRecord_42 : decode cX7_readRecord 42 = .ok (.istore_n 2, 1) := by decide +kernel
theorem dX7_readRecord_43 : decode cX7_readRecord 43 = .ok (.iconst 0, 1) := by decide +kernel
theorem dX7_readRecord_44 : decode cX7_readRecord 44 = .ok (.istore_n 3, 1) := by decide +kernel
theorem dX7_readRecord_45 : decode cX7_readRecord 45 = .ok (.iload_n 3, 1) := by decide +kernel
theorem dX7_readRecord_46 : decode cX7_readRecord 46 = .ok (.iload_n 2, 1) := by decide +kernel
theorem dX7_readRecord_47 : decode cX7_readRecord 47 = .ok (.if_icmp .ge 79, 3) := by decide +kernel
theorem dX7_readRecord_50 : decode cX7_readRecord 50 = .ok (.aload_n 0, 1) := by decide +kernel
theorem dX7_readRecord_51 : decode cX7_readRecord 51 = .ok (.getfield 33, 3) := by decide +kernel
theorem dX7_readRecord_54 : decode cX7_readRecord 54 = .ok (.iconst 2, 1) := by decide +kernel
theorem dX7_readRecord_55 : decode cX7_readRecord 55 = .ok (.iload_n 3, 1) := by decide +kernel
theorem dX7_readRecord_56 : decode cX7_readRecord 56 = .ok (.imul, 1) := by decide +kernel
theorem dX7_readRecord_57 : decode cX7_readRecord 57 = .ok (.invokevirtual 290, 3) := by decide +kernel
theorem dX7_readRecord_60 : decode cX7_readRecord 60 = .ok (.istore 4, 2) := by decide +kernel
theorem dX7_readRecord_62 : decode cX7_readRecord 62 = .ok (.aload_n 0, 1) := by decide +kernel
theorem dX7_readRecord_63 : decode cX7_readRecord 63 = .ok (.getfield 33, 3) := by decide +kernel
theorem dX7_readRecord_66 : decode cX7_readRecord 66 = .ok (.iconst 2, 1) := by decide +kernel
theorem dX7_readRecord_67 : decode cX7_readRecord 67 = .ok (.iload_n 3, 1) := by decide +kernel
theorem dX7_readRecord_68 : decode cX7_readRecord 68 = .ok (.imul, 1) := by decide +kernel
theorem dX7_readRecord_69 : decode cX7_readRecord 69 = .ok (.iconst 1, 1) := by decide +kernel
theorem dX7_readRecord_70 : decode cX7_readRecord 70 = .ok (.iadd, 1) := by decide +kernel
theorem dX7_readRecord_71 : decode cX7_readRecord 71 = .ok (.invokevirtual 290, 3) := by decide +kernel
theorem dX7_readRecord_74 : decode cX7_readRecord 74 = .ok (.istore 5, 2) := by decide +kernel
theorem dX7_readRecord_76 : decode cX7_readRecord 76 = .ok (.aload_n 0, 1) := by decide +kernel
theorem dX7_readRecord_77 : decode cX7_readRecord 77 = .ok (.getfield 10, 3) := by decide +kernel
theorem dX7_readRecord_80 : decode cX7_readRecord 80 = .ok (.invokevirtual 96, 3) := by decide +kernel
theorem dX7_readRecord_83 : decode cX7_readRecord 83 = .ok (.ifCond .ne 14, 3) := by decide +kernel
theorem dX7_readRecord_86 : decode cX7_readRecord 86 = .ok (.aload_n 0, 1) := by decide +kernel
theorem dX7_readRecord_87 : decode cX7_readRecord 87 = .ok (.iload 4, 2) := by decide +kernel
theorem dX7_readRecord_89 : decode cX7_readRecord 89 = .ok (.iload 5, 2) := by decide +kernel
theorem dX7_readRecord_91 : decode cX7_readRecord 91 = .ok (.invokevirtual 105, 3) := by decide +kernel
theorem dX7_readRecord_94 : decode cX7_readRecord 94 = .ok (.ifCond .ne 14, 3) := by decide +kernel
theorem dX7_readRecord_97 : decode cX7_readRecord 97 = .ok (.new 109, 3) := by decide +kernel
theorem dX7_readRecord_100 : decode cX7_readRecord 100 = .ok (.dup, 1) := by decide +kernel
theorem dX7_readRecord_101 : decode cX7_readRecord 101 = .ok (.ldc_w 291, 3) := by decide +kernel
theorem dX7_readRecord_104 : decode cX7_readRecord 104 = .ok (.invokespecial 113, 3) := by decide +kernel
theorem dX7_readRecord_107 : decode cX7_readRecord 107 = .ok (.athrow, 1) := by decide +kernel
theorem dX7_readRecord_108 : decode cX7_readRecord 108 = .ok (.aload_n 0, 1) := by decide +kernel
theorem dX7_readRecord_109 : decode cX7_readRecord 109 = .ok (.getfield 10, 3) := by decide +kernel
theorem dX7_readRecord_112 : decode cX7_readRecord 112 = .ok (.iload 4, 2) := by decide +kernel
theorem dX7_readRecord_114 : decode cX7_readRecord 114 = .ok (.iload 5, 2) := by decide +kernel
theorem dX7_readRecord_116 : decode cX7_readRecord 116 = .ok (.invokevirtual 114, 3) := by decide +kernel
theorem dX7_readRecord_119 : decode cX7_readRecord 119 = .ok (.pop, 1) := by decide +kernel
theorem dX7_readRecord_120 : decode cX7_readRecord 120 = .ok (.iinc 3 1, 3) := by decide +kernel
theorem dX7_readRecord_123 : decode cX7_readRecord 123 = .ok (.goto (-78), 3) := by decide +kernel
theorem dX7_readRecord_126 : decode cX7_readRecord 126 = .ok (.iload_n 2, 1) := by decide +kernel
theorem dX7_readRecord_127 : decode cX7_readRecord 127 = .ok (.ireturn, 1) := by decide +kernel
theorem dX7_written_0 : decode cX7_written 0 = .ok (.iload_n 1, 1) := by decide +kernel
theorem dX7_written_1 : decode cX7_written 1 = .ok (.istore_n 2, 1) := by decide +kernel
theorem dX7_written_2 : decode cX7_written 2 = .ok (.iconst 0, 1) := by decide +kernel
theorem dX7_written_3 : decode cX7_written 3 = .ok (.istore_n 3, 1) := by decide +kernel
theorem dX7_written_4 : decode cX7_written 4 = .ok (.iload_n 3, 1) := by decide +kernel
theorem dX7_written_5 : decode cX7_written 5 = .ok (.aload_n 0, 1) := by decide +kernel
theorem dX7_written_6 : decode cX7_written 6 = .ok (.getfield 10, 3) := by decide +kernel
theorem dX7_written_9 : decode cX7_written 9 = .ok (.getfield 118, 3) := by decide +kernel
theorem dX7_written_12 : decode cX7_written 12 = .ok (.if_icmp .ge 55, 3) := by decide +kernel
theorem dX7_written_15 : decode cX7_written 15 = .ok (.iload_n 2, 1) := by decide +kernel
theorem dX7_written_16 : decode cX7_written 16 = .ok (.ifCond .lt 51, 3) := by decide +kernel
theorem dX7_written_19 : decode cX7_written 19 = .ok (.aload_n 0, 1) := by decide +kernel
theorem dX7_written_20 : decode cX7_written 20 = .ok (.getfield 10, 3) := by decide +kernel
theorem dX7_written_23 : decode cX7_written 23 = .ok (.getfield 215, 3) := by decide +kernel
theorem dX7_written_26 : decode cX7_written 26 = .ok (.iload_n 3, 1) := by decide +kernel
theorem dX7_written_27 : decode cX7_written 27 = .ok (.aaload, 1) := by decide +kernel
theorem dX7_written_28 : decode cX7_written 28 = .ok (.astore 4, 2) := by decide +kernel
theorem dX7_written_30 : decode cX7_written 30 = .ok (.iload_n 2, 1) := by decide +kernel
theorem dX7_written_31 : decode cX7_written 31 = .ok (.aload 4, 2) := by decide +kernel
theorem dX7_written_33 : decode cX7_written 33 = .ok (.invokevirtual 293, 3) := by decide +kernel
theorem dX7_written_36 : decode cX7_written 36 = .ok (.if_icmp .ge 17, 3) := by decide +kernel
theorem dX7_written_39 : decode cX7_written 39 = .ok (.aload 4, 2) := by decide +kernel
theorem dX7_written_41 : decode cX7_written 41 = .ok (.aload_n 0, 1) := by decide +kernel
theorem dX7_written_42 : decode cX7_written 42 = .ok (.getfield 10, 3) := by decide +kernel
theorem dX7_written_45 : decode cX7_written 45 = .ok (.getfield 123, 3) := by decide +kernel
theorem dX7_written_48 : decode cX7_written 48 = .ok (.iload_n 2, 1) := by decide +kernel
theorem dX7_written_49 : decode cX7_written 49 = .ok (.invokevirtual 296, 3) := by decide +kernel
theorem dX7_written_52 : decode cX7_written 52 = .ok (.ireturn, 1) := by decide +kernel
theorem dX7_written_53 : decode cX7_written 53 = .ok (.iload_n 2, 1) := by decide +kernel
theorem dX7_written_54 : decode cX7_written 54 = .ok (.aload 4, 2) := by decide +kernel
theorem dX7_written_56 : decode cX7_written 56 = .ok (.invokevirtual 293, 3) := by decide +kernel
theorem dX7_written_59 : decode cX7_written 59 = .ok (.isub, 1) := by decide +kernel
theorem dX7_written_60 : decode cX7_written 60 = .ok (.istore_n 2, 1) := by decide +kernel
theorem dX7_written_61 : decode cX7_written 61 = .ok (.iinc 3 1, 3) := by decide +kernel
theorem dX7_written_64 : decode cX7_written 64 = .ok (.goto (-60), 3) := by decide +kernel
theorem dX7_written_67 : decode cX7_written 67 = .ok (.new 77, 3) := by decide +kernel
theorem dX7_written_70 : decode cX7_written 70 = .ok (.dup, 1) := by decide +kernel
theorem dX7_written_71 : decode cX7_written 71 = .ok (.ldc_w 300, 3) := by decide +kernel
theorem dX7_written_74 : decode cX7_written 74 = .ok (.invokespecial 81, 3) := by decide +kernel
theorem dX7_written_77 : decode cX7_written 77 = .ok (.athrow, 1) := by decide +kernel
theorem dX7_save_0 : decode cX7_save 0 = .ok (.aload_n 0, 1) := by decide +kernel
theorem dX7_save_1 : decode cX7_save 1 = .ok (.getfield 16, 3) := by decide +kernel
theorem dX7_save_4 : decode cX7_save 4 = .ok (.aload_n 0, 1) := by decide +kernel
theorem dX7_save_5 : decode cX7_save 5 = .ok (.getfield 10, 3) := by decide +kernel
theorem dX7_save_8 : decode cX7_save 8 = .ok (.invokevirtual 302, 3) := by decide +kernel
theorem dX7_save_11 : decode cX7_save 11 = .ok (.aload_n 0, 1) := by decide +kernel
theorem dX7_save_12 : decode cX7_save 12 = .ok (.iconst 1, 1) := by decide +kernel
theorem dX7_save_13 : decode cX7_save 13 = .ok (.putfield 19, 3) := by decide +kernel
theorem dX7_save_16 : decode cX7_save 16 = .ok (.aload_n 0, 1) := by decide +kernel
theorem dX7_save_17 : decode cX7_save 17 = .ok (.getfield 10, 3) := by decide +kernel
theorem dX7_save_20 : decode cX7_save 20 = .ok (.getfield 118, 3) := by decide +kernel
theorem dX7_save_23 : decode cX7_save 23 = .ok (.ireturn, 1) := by decide +kernel
theorem dX7_restore_0 : decode cX7_restore 0 = .ok (.aload_n 0, 1) := by decide +kernel
theorem dX7_restore_1 : decode cX7_restore 1 = .ok (.getfield 19, 3) := by decide +kernel
theorem dX7_restore_4 : decode cX7_restore 4 = .ok (.ifCond .ne 14, 3) := by decide +kernel
theorem dX7_restore_7 : decode cX7_restore 7 = .ok (.new 100, 3) := by decide +kernel
theorem dX7_restore_10 : decode cX7_restore 10 = .ok (.dup, 1) := by decide +kernel
theorem dX7_restore_11 : decode cX7_restore 11 = .ok (.ldc_w 306, 3) := by decide +kernel
theorem dX7_restore_14 : decode cX7_restore 14 = .ok (.invokespecial 104, 3) := by decide +kernel
theorem dX7_restore_17 : decode cX7_restore 17 = .ok (.athrow, 1) := by decide +kernel
theorem dX7_restore_18 : decode cX7_restore 18 = .ok (.aload_n 0, 1) := by decide +kernel
theorem dX7_restore_19 : decode cX7_restore 19 = .ok (.getfield 10, 3) := by decide +kernel
theorem dX7_restore_22 : decode cX7_restore 22 = .ok (.aload_n 0, 1) := by decide +kernel
theorem dX7_restore_23 : decode cX7_restore 23 = .ok (.getfield 16, 3) := by decide +kernel
theorem dX7_restore_26 : decode cX7_restore 26 = .ok (.invokevirtual 302, 3) := by decide +kernel
theorem dX7_restore_29 : decode cX7_restore 29 = .ok (.aload_n 0, 1) := by decide +kernel
theorem dX7_restore_30 : decode cX7_restore 30 = .ok (.getfield 10, 3) := by decide +kernel
theorem dX7_restore_33 : decode cX7_restore 33 = .ok (.getfield 118, 3) := by decide +kernel
theorem dX7_restore_36 : decode cX7_restore 36 = .ok (.ireturn, 1) := by decide +kernel
theorem dX7_isPlayer_0 : decode cX7_isPlayer 0 = .ok (.iload_n 0, 1) := by decide +kernel
theorem dX7_isPlayer_1 : decode cX7_isPlayer 1 = .ok (.ifCond .eq 8, 3) := by decide +kernel
theorem dX7_isPlayer_4 : decode cX7_isPlayer 4 = .ok (.iload_n 0, 1) := by decide +kernel
theorem dX7_isPlayer_5 : decode cX7_isPlayer 5 = .ok (.iconst 1, 1) := by decide +kernel
theorem dX7_isPlayer_6 : decode cX7_isPlayer 6 = .ok (.if_icmp .ne 7, 3) := by decide +kernel
theorem dX7_isPlayer_9 : decode cX7_isPlayer 9 = .ok (.iconst 1, 1) := by decide +kernel
theorem dX7_isPlayer_10 : decode cX7_isPlayer 10 = .ok (.goto 4, 3) := by decide +kernel
theorem dX7_isPlayer_13 : decode cX7_isPlayer 13 = .ok (.iconst 0, 1) := by decide +kernel
theorem dX7_isPlayer_14 : decode cX7_isPlayer 14 = .ok (.ireturn, 1) := by decide +kernel
theorem dX7_isDepth_0 : decode cX7_isDepth 0 = .ok (.iload_n 0, 1) := by decide +kernel
theorem dX7_isDepth_1 : decode cX7_isDepth 1 = .ok (.iconst 1, 1) := by decide +kernel
theorem dX7_isDepth_2 : decode cX7_isDepth 2 = .ok (.if_icmp .lt 12, 3) := by decide +kernel
theorem dX7_isDepth_5 : decode cX7_isDepth 5 = .ok (.iload_n 0, 1) := by decide +kernel
theorem dX7_isDepth_6 : decode cX7_isDepth 6 = .ok (.iconst 2, 1) := by decide +kernel
theorem dX7_isDepth_7 : decode cX7_isDepth 7 = .ok (.if_icmp .gt 7, 3) := by decide +kernel
theorem dX7_isDepth_10 : decode cX7_isDepth 10 = .ok (.iconst 1, 1) := by decide +kernel
theorem dX7_isDepth_11 : decode cX7_isDepth 11 = .ok (.goto 4, 3) := by decide +kernel
theorem dX7_isDepth_14 : decode cX7_isDepth 14 = .ok (.iconst 0, 1) := by decide +kernel
theorem dX7_isDepth_15 : decode cX7_isDepth 15 = .ok (.ireturn, 1) := by decide +kernel
theorem dX7_isChoice_0 : decode cX7_isChoice 0 = .ok (.iload_n 1, 1) := by decide +kernel
theorem dX7_isChoice_1 : decode cX7_isChoice 1 = .ok (.iconst (-1), 1) := by decide +kernel
theorem dX7_isChoice_2 : decode cX7_isChoice 2 = .ok (.if_icmp .eq 17, 3) := by decide +kernel
theorem dX7_isChoice_5 : decode cX7_isChoice 5 = .ok (.aload_n 0, 1) := by decide +kernel
theorem dX7_isChoice_6 : decode cX7_isChoice 6 = .ok (.getfield 10, 3) := by decide +kernel
theorem dX7_isChoice_9 : decode cX7_isChoice 9 = .ok (.getfield 123, 3) := by decide +kernel
theorem dX7_isChoice_12 : decode cX7_isChoice 12 = .ok (.iload_n 1, 1) := by decide +kernel
theorem dX7_isChoice_13 : decode cX7_isChoice 13 = .ok (.invokevirtual 141, 3) := by decide +kernel
theorem dX7_isChoice_16 : decode cX7_isChoice 16 = .ok (.ifCond .eq 7, 3) := by decide +kernel
theorem dX7_isChoice_19 : decode cX7_isChoice 19 = .ok (.iconst 1, 1) := by decide +kernel
theorem dX7_isChoice_20 : decode cX7_isChoice 20 = .ok (.goto 4, 3) := by decide +kernel
theorem dX7_isChoice_23 : decode cX7_isChoice 23 = .ok (.iconst 0, 1) := by decide +kernel
theorem dX7_isChoice_24 : decode cX7_isChoice 24 = .ok (.ireturn, 1) := by decide +kernel
theorem dX7_canLookAhead_0 : decode cX7_canLookAhead 0 = .ok (.iload_n 1, 1) := by decide +kernel
theorem dX7_canLookAhead_1 : decode cX7_canLookAhead 1 = .ok (.iconst 2, 1) := by decide +kernel
theorem dX7_canLookAhead_2 : decode cX7_canLookAhead 2 = .ok (.if_icmp .ne 23, 3) := by decide +kernel
theorem dX7_canLookAhead_5 : decode cX7_canLookAhead 5 = .ok (.aload_n 0, 1) := by decide +kernel
theorem dX7_canLookAhead_6 : decode cX7_canLookAhead 6 = .ok (.getfield 10, 3) := by decide +kernel
theorem dX7_canLookAhead_9 : decode cX7_canLookAhead 9 = .ok (.invokevirtual 57, 3) := by decide +kernel
theorem dX7_canLookAhead_12 : decode cX7_canLookAhead 12 = .ok (.iconst 0, 1) := by decide +kernel
theorem dX7_canLookAhead_13 : decode cX7_canLookAhead 13 = .ok (.invokevirtual 61, 3) := by decide +kernel
theorem dX7_canLookAhead_16 : decode cX7_canLookAhead 16 = .ok (.bipush 6, 2) := by decide +kernel
theorem dX7_canLookAhead_18 : decode cX7_canLookAhead 18 = .ok (.if_icmp .le 7, 3) := by decide +kernel
theorem dX7_canLookAhead_21 : decode cX7_canLookAhead 21 = .ok (.iconst 1, 1) := by decide +kernel
theorem dX7_canLookAhead_22 : decode cX7_canLookAhead 22 = .ok (.goto 4, 3) := by decide +kernel
theorem dX7_canLookAhead_25 : decode cX7_canLookAhead 25 = .ok (.iconst 0, 1) := by decide +kernel
theorem dX7_canLookAhead_26 : decode cX7_canLookAhead 26 = .ok (.istore_n 2, 1) := by decide +kernel
theorem dX7_canLookAhead_27 : decode cX7_canLookAhead 27 = .ok (.aload_n 0, 1) := by decide +kernel
theorem dX7_canLookAhead_28 : decode cX7_canLookAhead 28 = .ok (.getfield 10, 3) := by decide +kernel
theorem dX7_canLookAhead_31 : decode cX7_canLookAhead 31 = .ok (.invokevirtual 96, 3) := by decide +kernel
theorem dX7_canLookAhead_34 : decode cX7_canLookAhead 34 = .ok (.ifCond .ne 11, 3) := by decide +kernel
theorem dX7_canLookAhead_37 : decode cX7_canLookAhead 37 = .ok (.iload_n 2, 1) := by decide +kernel
theorem dX7_canLookAhead_38 : decode cX7_canLookAhead 38 = .ok (.ifCond .ne 7, 3) := by decide +kernel
theorem dX7_canLookAhead_41 : decode cX7_canLookAhead 41 = .ok (.iconst 1, 1) := by decide +kernel
theorem dX7_canLookAhead_42 : decode cX7_canLookAhead 42 = .ok (.goto 4, 3) := by decide +kernel
theorem dX7_canLookAhead_45 : decode cX7_canLookAhead 45 = .ok (.iconst 0, 1) := by decide +kernel
theorem dX7_canLookAhead_46 : decode cX7_canLookAhead 46 = .ok (.ireturn, 1) := by decide +kernel
theorem dX7_admits_0 : decode cX7_admits 0 = .ok (.aload_n 0, 1) := by decide +kernel
theorem dX7_admits_1 : decode cX7_admits 1 = .ok (.getfield 10, 3) := by decide +kernel
theorem dX7_admits_4 : decode cX7_admits 4 = .ok (.invokevirtual 57, 3) := by decide +kernel
theorem dX7_admits_7 : decode cX7_admits 7 = .ok (.astore_n 3, 1) := by decide +kernel
theorem dX7_admits_8 : decode cX7_admits 8 = .ok (.aload_n 3, 1) := by decide +kernel
theorem dX7_admits_9 : decode cX7_admits 9 = .ok (.iload_n 1, 1) := by decide +kernel
theorem dX7_admits_10 : decode cX7_admits 10 = .ok (.invokevirtual 250, 3) := by decide +kernel
theorem dX7_admits_13 : decode cX7_admits 13 = .ok (.ifCond .ne 18, 3) := by decide +kernel
theorem dX7_admits_16 : decode cX7_admits 16 = .ok (.aload_n 0, 1) := by decide +kernel
theorem dX7_admits_17 : decode cX7_admits 17 = .ok (.getfield 26, 3) := by decide +kernel
theorem dX7_admits_20 : decode cX7_admits 20 = .ok (.aload_n 0, 1) := by decide +kernel
theorem dX7_admits_21 : decode cX7_admits 21 = .ok (.getfield 10, 3) := by decide +kernel
theorem dX7_admits_24 : decode cX7_admits 24 = .ok (.iconst 2, 1) := by decide +kernel
theorem dX7_admits_25 : decode cX7_admits 25 = .ok (.iload_n 1, 1) := by decide +kernel
theorem dX7_admits_26 : decode cX7_admits 26 = .ok (.invokevirtual 308, 3) := by decide +kernel
theorem dX7_admits_29 : decode cX7_admits 29 = .ok (.iconst 0, 1) := by decide +kernel
theorem dX7_admits_30 : decode cX7_admits 30 = .ok (.ireturn, 1) := by decide +kernel
theorem dX7_admits_31 : decode cX7_admits 31 = .ok (.aload_n 3, 1) := by decide +kernel
theorem dX7_admits_32 : decode cX7_admits 32 = .ok (.iload_n 2, 1) := by decide +kernel
theorem dX7_admits_33 : decode cX7_admits 33 = .ok (.invokevirtual 250, 3) := by decide +kernel
theorem dX7_admits_36 : decode cX7_admits 36 = .ok (.ifCond .ne 18, 3) := by decide +kernel
theorem dX7_admits_39 : decode cX7_admits 39 = .ok (.aload_n 0, 1) := by decide +kernel
theorem dX7_admits_40 : decode cX7_admits 40 = .ok (.getfield 26, 3) := by decide +kernel
theorem dX7_admits_43 : decode cX7_admits 43 = .ok (.aload_n 0, 1) := by decide +kernel
theorem dX7_admits_44 : decode cX7_admits 44 = .ok (.getfield 10, 3) := by decide +kernel
theorem dX7_admits_47 : decode cX7_admits 47 = .ok (.iconst 3, 1) := by decide +kernel
theorem dX7_admits_48 : decode cX7_admits 48 = .ok (.iload_n 2, 1) := by decide +kernel
theorem dX7_admits_49 : decode cX7_admits 49 = .ok (.invokevirtual 308, 3) := by decide +kernel
theorem dX7_admits_52 : decode cX7_admits 52 = .ok (.iconst 0, 1) := by decide +kernel
theorem dX7_admits_53 : decode cX7_admits 53 = .ok (.ireturn, 1) := by decide +kernel
theorem dX7_admits_54 : decode cX7_admits 54 = .ok (.iconst 1, 1) := by decide +kernel
theorem dX7_admits_55 : decode cX7_admits 55 = .ok (.ireturn, 1) := by decide +kernel
theorem dJ13_bitCount_95d88_0 : decode cJ13_bitCount_95d88 0 = .ok (.lload_n 0, 1) := by decide +kernel
theorem dJ13_bitCount_95d88_1 : decode cJ13_bitCount_95d88 1 = .ok (.lload_n 0, 1) := by decide +kernel
theorem dJ13_bitCount_95d88_2 : decode cJ13_bitCount_95d88 2 = .ok (.iconst 1, 1) := by decide +kernel
theorem dJ13_bitCount_95d88_3 : decode cJ13_bitCount_95d88 3 = .ok (.lushr, 1) := by decide +kernel
theorem dJ13_bitCount_95d88_4 : decode cJ13_bitCount_95d88 4 = .ok (.ldc2_w 314, 3) := by decide +kernel
theorem dJ13_bitCount_95d88_7 : decode cJ13_bitCount_95d88 7 = .ok (.land, 1) := by decide +kernel
theorem dJ13_bitCount_95d88_8 : decode cJ13_bitCount_95d88 8 = .ok (.lsub, 1) := by decide +kernel
theorem dJ13_bitCount_95d88_9 : decode cJ13_bitCount_95d88 9 = .ok (.lstore_n 0, 1) := by decide +kernel
theorem dJ13_bitCount_95d88_10 : decode cJ13_bitCount_95d88 10 = .ok (.lload_n 0, 1) := by decide +kernel
theorem dJ13_bitCount_95d88_11 : decode cJ13_bitCount_95d88 11 = .ok (.ldc2_w 316, 3) := by decide +kernel
theorem dJ13_bitCount_95d88_14 : decode cJ13_bitCount_95d88 14 = .ok (.land, 1) := by decide +kernel
theorem dJ13_bitCount_95d88_15 : decode cJ13_bitCount_95d88 15 = .ok (.lload_n 0, 1) := by decide +kernel
theorem dJ13_bitCount_95d88_16 : decode cJ13_bitCount_95d88 16 = .ok (.iconst 2, 1) := by decide +kernel
theorem dJ13_bitCount_95d88_17 : decode cJ13_bitCount_95d88 17 = .ok (.lushr, 1) := by decide +kernel
theorem dJ13_bitCount_95d88_18 : decode cJ13_bitCount_95d88 18 = .ok (.ldc2_w 316, 3) := by decide +kernel
theorem dJ13_bitCount_95d88_21 : decode cJ13_bitCount_95d88 21 = .ok (.land, 1) := by decide +kernel
theorem dJ13_bitCount_95d88_22 : decode cJ13_bitCount_95d88 22 = .ok (.ladd, 1) := by decide +kernel
theorem dJ13_bitCount_95d88_23 : decode cJ13_bitCount_95d88 23 = .ok (.lstore_n 0, 1) := by decide +kernel
theorem dJ13_bitCount_95d88_24 : decode cJ13_bitCount_95d88 24 = .ok (.lload_n 0, 1) := by decide +kernel
theorem dJ13_bitCount_95d88_25 : decode cJ13_bitCount_95d88 25 = .ok (.lload_n 0, 1) := by decide +kernel
theorem dJ13_bitCount_95d88_26 : decode cJ13_bitCount_95d88 26 = .ok (.iconst 4, 1) := by decide +kernel
theorem dJ13_bitCount_95d88_27 : decode cJ13_bitCount_95d88 27 = .ok (.lushr, 1) := by decide +kernel
theorem dJ13_bitCount_95d88_28 : decode cJ13_bitCount_95d88 28 = .ok (.ladd, 1) := by decide +kernel
theorem dJ13_bitCount_95d88_29 : decode cJ13_bitCount_95d88 29 = .ok (.ldc2_w 318, 3) := by decide +kernel
theorem dJ13_bitCount_95d88_32 : decode cJ13_bitCount_95d88 32 = .ok (.land, 1) := by decide +kernel
theorem dJ13_bitCount_95d88_33 : decode cJ13_bitCount_95d88 33 = .ok (.lstore_n 0, 1) := by decide +kernel
theorem dJ13_bitCount_95d88_34 : decode cJ13_bitCount_95d88 34 = .ok (.lload_n 0, 1) := by decide +kernel
theorem dJ13_bitCount_95d88_35 : decode cJ13_bitCount_95d88 35 = .ok (.lload_n 0, 1) := by decide +kernel
theorem dJ13_bitCount_95d88_36 : decode cJ13_bitCount_95d88 36 = .ok (.bipush 8, 2) := by decide +kernel
theorem dJ13_bitCount_95d88_38 : decode cJ13_bitCount_95d88 38 = .ok (.lushr, 1) := by decide +kernel
theorem dJ13_bitCount_95d88_39 : decode cJ13_bitCount_95d88 39 = .ok (.ladd, 1) := by decide +kernel
theorem dJ13_bitCount_95d88_40 : decode cJ13_bitCount_95d88 40 = .ok (.lstore_n 0, 1) := by decide +kernel
theorem dJ13_bitCount_95d88_41 : decode cJ13_bitCount_95d88 41 = .ok (.lload_n 0, 1) := by decide +kernel
theorem dJ13_bitCount_95d88_42 : decode cJ13_bitCount_95d88 42 = .ok (.lload_n 0, 1) := by decide +kernel
theorem dJ13_bitCount_95d88_43 : decode cJ13_bitCount_95d88 43 = .ok (.bipush 16, 2) := by decide +kernel
theorem dJ13_bitCount_95d88_45 : decode cJ13_bitCount_95d88 45 = .ok (.lushr, 1) := by decide +kernel
theorem dJ13_bitCount_95d88_46 : decode cJ13_bitCount_95d88 46 = .ok (.ladd, 1) := by decide +kernel
theorem dJ13_bitCount_95d88_47 : decode cJ13_bitCount_95d88 47 = .ok (.lstore_n 0, 1) := by decide +kernel
theorem dJ13_bitCount_95d88_48 : decode cJ13_bitCount_95d88 48 = .ok (.lload_n 0, 1) := by decide +kernel
theorem dJ13_bitCount_95d88_49 : decode cJ13_bitCount_95d88 49 = .ok (.lload_n 0, 1) := by decide +kernel
theorem dJ13_bitCount_95d88_50 : decode cJ13_bitCount_95d88 50 = .ok (.bipush 32, 2) := by decide +kernel
theorem dJ13_bitCount_95d88_52 : decode cJ13_bitCount_95d88 52 = .ok (.lushr, 1) := by decide +kernel
theorem dJ13_bitCount_95d88_53 : decode cJ13_bitCount_95d88 53 = .ok (.ladd, 1) := by decide +kernel
theorem dJ13_bitCount_95d88_54 : decode cJ13_bitCount_95d88 54 = .ok (.lstore_n 0, 1) := by decide +kernel
theorem dJ13_bitCount_95d88_55 : decode cJ13_bitCount_95d88 55 = .ok (.lload_n 0, 1) := by decide +kernel
theorem dJ13_bitCount_95d88_56 : decode cJ13_bitCount_95d88 56 = .ok (.l2i, 1) := by decide +kernel
theorem dJ13_bitCount_95d88_57 : decode cJ13_bitCount_95d88 57 = .ok (.bipush 127, 2) := by decide +kernel
theorem dJ13_bitCount_95d88_59 : decode cJ13_bitCount_95d88 59 = .ok (.iand, 1) := by decide +kernel
theorem dJ13_bitCount_95d88_60 : decode cJ13_bitCount_95d88 60 = .ok (.ireturn, 1) := by decide +kernel
theorem dJ9_abs_0f7a4_0 : decode cJ9_abs_0f7a4 0 = .ok (.iload_n 0, 1) := by decide +kernel
theorem dJ9_abs_0f7a4_1 : decode cJ9_abs_0f7a4 1 = .ok (.ifCond .ge 8, 3) := by decide +kernel
theorem dJ9_abs_0f7a4_4 : decode cJ9_abs_0f7a4 4 = .ok (.iload_n 0, 1) := by decide +kernel
theorem dJ9_abs_0f7a4_5 : decode cJ9_abs_0f7a4 5 = .ok (.ineg, 1) := by decide +kernel
theorem dJ9_abs_0f7a4_6 : decode cJ9_abs_0f7a4 6 = .ok (.goto 4, 3) := by decide +kernel
theorem dJ9_abs_0f7a4_9 : decode cJ9_abs_0f7a4 9 = .ok (.iload_n 0, 1) := by decide +kernel
theorem dJ9_abs_0f7a4_10 : decode cJ9_abs_0f7a4 10 = .ok (.ireturn, 1) := by decide +kernel
theorem dJ9_max_7cf53_0 : decode cJ9_max_7cf53 0 = .ok (.iload_n 0, 1) := by decide +kernel
theorem dJ9_max_7cf53_1 : decode cJ9_max_7cf53 1 = .ok (.iload_n 1, 1) := by decide +kernel
theorem dJ9_max_7cf53_2 : decode cJ9_max_7cf53 2 = .ok (.if_icmp .lt 7, 3) := by decide +kernel
theorem dJ9_max_7cf53_5 : decode cJ9_max_7cf53 5 = .ok (.iload_n 0, 1) := by decide +kernel
theorem dJ9_max_7cf53_6 : decode cJ9_max_7cf53 6 = .ok (.goto 4, 3) := by decide +kernel
theorem dJ9_max_7cf53_9 : decode cJ9_max_7cf53 9 = .ok (.iload_n 1, 1) := by decide +kernel
theorem dJ9_max_7cf53_10 : decode cJ9_max_7cf53 10 = .ok (.ireturn, 1) := by decide +kernel
theorem dJ9_min_7cf53_0 : decode cJ9_min_7cf53 0 = .ok (.iload_n 0, 1) := by decide +kernel
theorem dJ9_min_7cf53_1 : decode cJ9_min_7cf53 1 = .ok (.iload_n 1, 1) := by decide +kernel
theorem dJ9_min_7cf53_2 : decode cJ9_min_7cf53 2 = .ok (.if_icmp .gt 7, 3) := by decide +kernel
theorem dJ9_min_7cf53_5 : decode cJ9_min_7cf53 5 = .ok (.iload_n 0, 1) := by decide +kernel
theorem dJ9_min_7cf53_6 : decode cJ9_min_7cf53 6 = .ok (.goto 4, 3) := by decide +kernel
theorem dJ9_min_7cf53_9 : decode cJ9_min_7cf53 9 = .ok (.iload_n 1, 1) := by decide +kernel
theorem dJ9_min_7cf53_10 : decode cJ9_min_7cf53 10 = .ok (.ireturn, 1) := by decide +kernel
end
section
theorem dX8_init_0 : decode cX8_init 0 = .ok (.aload_n 0, 1) := by decide +kernel
theorem dX8_init_1 : decode cX8_init 1 = .ok (.invokespecial 3, 3) := by decide +kernel
theorem dX8_init_4 : decode cX8_init 4 = .ok (.aload_n 0, 1) := by decide +kernel
theorem dX8_init_5 : decode cX8_init 5 = .ok (.iconst 5, 1) := by decide +kernel
theorem dX8_init_6 : decode cX8_init 6 = .ok (.putfield 9, 3) := by decide +kernel
theorem dX8_init_9 : decode cX8_init 9 = .ok (.aload_n 0, 1) := by decide +kernel
theorem dX8_init_10 : decode cX8_init 10 = .ok (.iconst 5, 1) := by decide +kernel
theorem dX8_init_11 : decode cX8_init 11 = .ok (.putfield 13, 3) := by decide +kernel
theorem dX8_init_14 : decode cX8_init 14 = .ok (.aload_n 0, 1) := by decide +kernel
theorem dX8_init_15 : decode cX8_init 15 = .ok (.iconst 2, 1) := by decide +kernel
theorem dX8_init_16 : decode cX8_init 16 = .ok (.newarray .int, 2) := by decide +kernel
theorem dX8_init_18 : decode cX8_init 18 = .ok (.putfield 16, 3) := by decide +kernel
theorem dX8_init_21 : decode cX8_init 21 = .ok (.aload_n 0, 1) := by decide +kernel
theorem dX8_init_22 : decode cX8_init 22 = .ok (.sipush 155, 3) := by decide +kernel
theorem dX8_init_25 : decode cX8_init 25 = .ok (.newarray .int, 2) := by decide +kernel
theorem dX8_init_27 : decode cX8_init 27 = .ok (.putfield 20, 3) := by decide +kernel
theorem dX8_init_30 : decode cX8_init 30 = .ok (.aload_n 0, 1) := by decide +kernel
theorem dX8_init_31 : decode cX8_init 31 = .ok (.sipush 155, 3) := by decide +kernel
theorem dX8_init_34 : decode cX8_init 34 = .ok (.newarray .int, 2) := by decide +kernel
theorem dX8_init_36 : decode cX8_init 36 = .ok (.putfield 23, 3) := by decide +kernel
theorem dX8_init_39 : decode cX8_init 39 = .ok (.aload_n 0, 1) := by decide +kernel
theorem dX8_init_40 : decode cX8_init 40 = .ok (.sipush 155, 3) := by decide +kernel
theorem dX8_init_43 : decode cX8_init 43 = .ok (.newarray .int, 2) := by decide +kernel
theorem dX8_init_45 : decode cX8_init 45 = .ok (.putfield 26, 3) := by decide +kernel
theorem dX8_init_48 : decode cX8_init 48 = .ok (.aload_n 0, 1) := by decide +kernel
theorem dX8_init_49 : decode cX8_init 49 = .ok (.sipush 9300, 3) := by decide +kernel
theorem dX8_init_52 : decode cX8_init 52 = .ok (.newarray .int, 2) := by decide +kernel
theorem dX8_init_54 : decode cX8_init 54 = .ok (.putfield 29, 3) := by decide +kernel
theorem dX8_init_57 : decode cX8_init 57 = .ok (.aload_n 0, 1) := by decide +kernel
theorem dX8_init_58 : decode cX8_init 58 = .ok (.sipush 420, 3) := by decide +kernel
theorem dX8_init_61 : decode cX8_init 61 = .ok (.newarray .int, 2) := by decide +kernel
theorem dX8_init_63 : decode cX8_init 63 = .ok (.putfield 32, 3) := by decide +kernel
theorem dX8_init_66 : decode cX8_init 66 = .ok (.aload_n 0, 1) := by decide +kernel
theorem dX8_init_67 : decode cX8_init 67 = .ok (.sipush 480, 3) := by decide +kernel
theorem dX8_init_70 : decode cX8_init 70 = .ok (.newarray .int, 2) := by decide +kernel
theorem dX8_init_72 : decode cX8_init 72 = .ok (.putfield 35, 3) := by decide +kernel
theorem dX8_init_75 : decode cX8_init 75 = .ok (.aload_n 0, 1) := by decide +kernel
theorem dX8_init_76 : decode cX8_init 76 = .ok (.sipush 155, 3) := by decide +kernel
theorem dX8_init_79 : decode cX8_init 79 = .ok (.newarray .int, 2) := by decide +kernel
theorem dX8_init_81 : decode cX8_init 81 = .ok (.putfield 38, 3) := by decide +kernel
theorem dX8_init_84 : decode cX8_init 84 = .ok (.aload_n 0, 1) := by decide +kernel
theorem dX8_init_85 : decode cX8_init 85 = .ok (.sipush 9300, 3) := by decide +kernel
theorem dX8_init_88 : decode cX8_init 88 = .ok (.newarray .int, 2) := by decide +kernel
theorem dX8_init_90 : decode cX8_init 90 = .ok (.putfield 41, 3) := by decide +kernel
theorem dX8_init_93 : decode cX8_init 93 = .ok (.aload_n 0, 1) := by decide +kernel
theorem dX8_init_94 : decode cX8_init 94 = .ok (.sipush 420, 3) := by decide +kernel
theorem dX8_init_97 : decode cX8_init 97 = .ok (.newarray .int, 2) := by decide +kernel
theorem dX8_init_99 : decode cX8_init 99 = .ok (.putfield 44, 3) := by decide +kernel
theorem dX8_init_102 : decode cX8_init 102 = .ok (.aload_n 0, 1) := by decide +kernel
theorem dX8_init_103 : decode cX8_init 103 = .ok (.sipush 480, 3) := by decide +kernel
theorem dX8_init_106 : decode cX8_init 106 = .ok (.newarray .int, 2) := by decide +kernel
theorem dX8_init_108 : decode cX8_init 108 = .ok (.putfield 47, 3) := by decide +kernel
theorem dX8_init_111 : decode cX8_init 111 = .ok (.aload_n 0, 1) := by decide +kernel
theorem dX8_init_112 : decode cX8_init 112 = .ok (.iconst 2, 1) := by decide +kernel
theorem dX8_init_113 : decode cX8_init 113 = .ok (.newarray .int, 2) := by decide +kernel
theorem dX8_init_115 : decode cX8_init 115 = .ok (.putfield 50, 3) := by decide +kernel
theorem dX8_init_118 : decode cX8_init 118 = .ok (.aload_n 0, 1) := by decide +kernel
theorem dX8_init_119 : decode cX8_init 119 = .ok (.bipush 98, 2) := by decide +kernel
theorem dX8_init_121 : decode cX8_init 121 = .ok (.newarray .int, 2) := by decide +kernel
theorem dX8_init_123 : decode cX8_init 123 = .ok (.putfield 53, 3) := by decide +kernel
theorem dX8_init_126 : decode cX8_init 126 = .ok (.aload_n 0, 1) := by decide +kernel
theorem dX8_init_127 : decode cX8_init 127 = .ok (.bipush 8, 2) := by decide +kernel
theorem dX8_init_129 : decode cX8_init 129 = .ok (.newarray .int, 2) := by decide +kernel
theorem dX8_init_131 : decode cX8_init 131 = .ok (.putfield 56, 3) := by decide +kernel
theorem dX8_init_134 : decode cX8_init 134 = .ok (.aload_n 0, 1) := by decide +kernel
theorem dX8_init_135 : decode cX8_init 135 = .ok (.iconst 4, 1) := by decide +kernel
theorem dX8_init_136 : decode cX8_init 136 = .ok (.newarray .int, 2) := by decide +kernel
theorem dX8_init_138 : decode cX8_init 138 = .ok (.putfield 59, 3) := by decide +kernel
theorem dX8_init_141 : decode cX8_init 141 = .ok (.aload_n 0, 1) := by decide +kernel
theorem dX8_init_142 : decode cX8_init 142 = .ok (.iconst 4, 1) := by decide +kernel
theorem dX8_init_143 : decode cX8_init 143 = .ok (.newarray .int, 2) := by decide +kernel
theorem dX8_init_145 : decode cX8_init 145 = .ok (.putfield 62, 3) := by decide +kernel
theorem dX8_init_148 : decode cX8_init 148 = .ok (.aload_n 0, 1) := by decide +kernel
theorem dX8_init_149 : decode cX8_init 149 = .ok (.bipush 80, 2) := by decide +kernel
theorem dX8_init_151 : decode cX8_init 151 = .ok (.newarray .char, 2) := by decide +kernel
theorem dX8_init_153 : decode cX8_init 153 = .ok (.putfield 65, 3) := by decide +kernel
theorem dX8_init_156 : decode cX8_init 156 = .ok (.aload_n 0, 1) := by decide +kernel
theorem dX8_init_157 : decode cX8_init 157 = .ok (.iconst 0, 1) := by decide +kernel
theorem dX8_init_158 : decode cX8_init 158 = .ok (.invokevirtual 69, 3) := by decide +kernel
theorem dX8_init_161 : decode cX8_init 161 = .ok (.return_, 1) := by decide +kernel
theorem dX8_thrown_0 : decode cX8_thrown 0 = .ok (.aload_n 0, 1) := by decide +kernel
theorem dX8_thrown_1 : decode cX8_thrown 1 = .ok (.getfield 73, 3) := by decide +kernel
theorem dX8_thrown_4 : decode cX8_thrown 4 = .ok (.ireturn, 1) := by decide +kernel
theorem dX8_no_0 : decode cX8_no 0 = .ok (.aload_n 0, 1) := by decide +kernel
theorem dX8_no_1 : decode cX8_no 1 = .ok (.iload_n 1, 1) := by decide +kernel
theorem dX8_no_2 : decode cX8_no 2 = .ok (.putfield 73, 3) := by decide +kernel
theorem dX8_no_5 : decode cX8_no 5 = .ok (.iconst 0, 1) := by decide +kernel
theorem dX8_no_6 : decode cX8_no 6 = .ok (.ireturn, 1) := by decide +kernel
theorem dX8_isIn_0 : decode cX8_isIn 0 = .ok (.iload_n 0, 1) := by decide +kernel
theorem dX8_isIn_1 : decode cX8_isIn 1 = .ok (.iload_n 1, 1) := by decide +kernel
theorem dX8_isIn_2 : decode cX8_isIn 2 = .ok (.if_icmp .lt 12, 3) := by decide +kernel
theorem dX8_isIn_5 : decode cX8_isIn 5 = .ok (.iload_n 0, 1) := by decide +kernel
theorem dX8_isIn_6 : decode cX8_isIn 6 = .ok (.iload_n 2, 1) := by decide +kernel
theorem dX8_isIn_7 : decode cX8_isIn 7 = .ok (.if_icmp .gt 7, 3) := by decide +kernel
theorem dX8_isIn_10 : decode cX8_isIn 10 = .ok (.iconst 1, 1) := by decide +kernel
theorem dX8_isIn_11 : decode cX8_isIn 11 = .ok (.goto 4, 3) := by decide +kernel
theorem dX8_isIn_14 : decode cX8_isIn 14 = .ok (.iconst 0, 1) := by decide +kernel
theorem dX8_isIn_15 : decode cX8_isIn 15 = .ok (.ireturn, 1) := by decide +kernel
theorem dX8_copies_0 : decode cX8_copies 0 = .ok (.iconst 0, 1) := by decide +kernel
theorem dX8_copies_1 : decode cX8_copies 1 = .ok (.istore_n 3, 1) := by decide +kernel
theorem dX8_copies_2 : decode cX8_copies 2 = .ok (.iload_n 3, 1) := by decide +kernel
theorem dX8_copies_3 : decode cX8_copies 3 = .ok (.iload_n 2, 1) := by decide +kernel
theorem dX8_copies_4 : decode cX8_copies 4 = .ok (.if_icmp .ge 15, 3) := by decide +kernel
theorem dX8_copies_7 : decode cX8_copies 7 = .ok (.aload_n 1, 1) := by decide +kernel
theorem dX8_copies_8 : decode cX8_copies 8 = .ok (.iload_n 3, 1) := by decide +kernel
theorem dX8_copies_9 : decode cX8_copies 9 = .ok (.aload_n 0, 1) := by decide +kernel
theorem dX8_copies_10 : decode cX8_copies 10 = .ok (.iload_n 3, 1) := by decide +kernel
theorem dX8_copies_11 : decode cX8_copies 11 = .ok (.iaload, 1) := by decide +kernel
theorem dX8_copies_12 : decode cX8_copies 12 = .ok (.iastore, 1) := by decide +kernel
theorem dX8_copies_13 : decode cX8_copies 13 = .ok (.iinc 3 1, 3) := by decide +kernel
theorem dX8_copies_16 : decode cX8_copies 16 = .ok (.goto (-14), 3) := by decide +kernel
theorem dX8_copies_19 : decode cX8_copies 19 = .ok (.return_, 1) := by decide +kernel
theorem dX8_cells_0 : decode cX8_cells 0 = .ok (.aload_n 0, 1) := by decide +kernel
theorem dX8_cells_1 : decode cX8_cells 1 = .ok (.getfield 9, 3) := by decide +kernel
theorem dX8_cells_4 : decode cX8_cells 4 = .ok (.aload_n 0, 1) := by decide +kernel
theorem dX8_cells_5 : decode cX8_cells 5 = .ok (.getfield 13, 3) := by decide +kernel
theorem dX8_cells_8 : decode cX8_cells 8 = .ok (.imul, 1) := by decide +kernel
theorem dX8_cells_9 : decode cX8_cells 9 = .ok (.ireturn, 1) := by decide +kernel
theorem dX8_isCell_0 : decode cX8_isCell 0 = .ok (.iload_n 1, 1) := by decide +kernel
theorem dX8_isCell_1 : decode cX8_isCell 1 = .ok (.iconst 0, 1) := by decide +kernel
theorem dX8_isCell_2 : decode cX8_isCell 2 = .ok (.aload_n 0, 1) := by decide +kernel
theorem dX8_isCell_3 : decode cX8_isCell 3 = .ok (.invokevirtual 76, 3) := by decide +kernel
theorem dX8_isCell_6 : decode cX8_isCell 6 = .ok (.iconst 1, 1) := by decide +kernel
theorem dX8_isCell_7 : decode cX8_isCell 7 = .ok (.isub, 1) := by decide +kernel
theorem dX8_isCell_8 : decode cX8_isCell 8 = .ok (.invokestatic 80, 3) := by decide +kernel
theorem dX8_isCell_11 : decode cX8_isCell 11 = .ok (.ireturn, 1) := by decide +kernel
theorem dX8_begins_0 : decode cX8_begins 0 = .ok (.iconst 0, 1) := by decide +kernel
theorem dX8_begins_1 : decode cX8_begins 1 = .ok (.istore_n 2, 1) := by decide +kernel
theorem dX8_begins_2 : decode cX8_begins 2 = .ok (.iload_n 2, 1) := by decide +kernel
theorem dX8_begins_3 : decode cX8_begins 3 = .ok (.sipush 155, 3) := by decide +kernel
theorem dX8_begins_6 : decode cX8_begins 6 = .ok (.if_icmp .ge 33, 3) := by decide +kernel
theorem dX8_begins_9 : decode cX8_begins 9 = .ok (.aload_n 0, 1) := by decide +kernel
theorem dX8_begins_10 : decode cX8_begins 10 = .ok (.getfield 20, 3) := by decide +kernel
theorem dX8_begins_13 : decode cX8_begins 13 = .ok (.iload_n 2, 1) := by decide +kernel
theorem dX8_begins_14 : decode cX8_begins 14 = .ok (.iload_n 2, 1) := by decide +kernel
theorem dX8_begins_15 : decode cX8_begins 15 = .ok (.bipush 49, 2) := by decide +kernel
theorem dX8_begins_17 : decode cX8_begins 17 = .ok (.if_icmp .lt 14, 3) := by decide +kernel
theorem dX8_begins_20 : decode cX8_begins 20 = .ok (.iload_n 2, 1) := by decide +kernel
theorem dX8_begins_21 : decode cX8_begins 21 = .ok (.sipush 147, 3) := by decide +kernel
theorem dX8_begins_24 : decode cX8_begins 24 = .ok (.if_icmp .ge 7, 3) := by decide +kernel
theorem dX8_begins_27 : decode cX8_begins 27 = .ok (.iconst (-1), 1) := by decide +kernel
theorem dX8_begins_28 : decode cX8_begins 28 = .ok (.goto 4, 3) := by decide +kernel
theorem dX8_begins_31 : decode cX8_begins 31 = .ok (.iconst 0, 1) := by decide +kernel
theorem dX8_begins_32 : decode cX8_begins 32 = .ok (.iastore, 1) := by decide +kernel
theorem dX8_begins_33 : decode cX8_begins 33 = .ok (.iinc 2 1, 3) := by decide +kernel
theorem dX8_begins_36 : decode cX8_begins 36 = .ok (.goto (-34), 3) := by decide +kernel
theorem dX8_begins_39 : decode cX8_begins 39 = .ok (.iconst 0, 1) := by decide +kernel
theorem dX8_begins_40 : decode cX8_begins 40 = .ok (.istore_n 2, 1) := by decide +kernel
theorem dX8_begins_41 : decode cX8_begins 41 = .ok (.iload_n 2, 1) := by decide +kernel
theorem dX8_begins_42 : decode cX8_begins 42 = .ok (.iload_n 1, 1) := by decide +kernel
theorem dX8_begins_43 : decode cX8_begins 43 = .ok (.if_icmp .ge 65, 3) := by decide +kernel
theorem dX8_begins_46 : decode cX8_begins 46 = .ok (.iload_n 2, 1) := by decide +kernel
theorem dX8_begins_47 : decode cX8_begins 47 = .ok (.ifCond .eq 8, 3) := by decide +kernel
theorem dX8_begins_50 : decode cX8_begins 50 = .ok (.iload_n 2, 1) := by decide +kernel
theorem dX8_begins_51 : decode cX8_begins 51 = .ok (.iconst 2, 1) := by decide +kernel
theorem dX8_begins_52 : decode cX8_begins 52 = .ok (.if_icmp .ne 7, 3) := by decide +kernel
theorem dX8_begins_55 : decode cX8_begins 55 = .ok (.iconst 1, 1) := by decide +kernel
theorem dX8_begins_56 : decode cX8_begins 56 = .ok (.goto 9, 3) := by decide +kernel
theorem dX8_begins_59 : decode cX8_begins 59 = .ok (.aload_n 0, 1) := by decide +kernel
theorem dX8_begins_60 : decode cX8_begins 60 = .ok (.getfield 13, 3) := by decide +kernel
theorem dX8_begins_63 : decode cX8_begins 63 = .ok (.iconst 2, 1) := by decide +kernel
theorem dX8_begins_64 : decode cX8_begins 64 = .ok (.isub, 1) := by decide +kernel
theorem dX8_begins_65 : decode cX8_begins 65 = .ok (.istore_n 3, 1) := by decide +kernel
theorem dX8_begins_66 : decode cX8_begins 66 = .ok (.iload_n 2, 1) := by decide +kernel
theorem dX8_begins_67 : decode cX8_begins 67 = .ok (.ifCond .eq 8, 3) := by decide +kernel
theorem dX8_begins_70 : decode cX8_begins 70 = .ok (.iload_n 2, 1) := by decide +kernel
theorem dX8_begins_71 : decode cX8_begins 71 = .ok (.iconst 3, 1) := by decide +kernel
theorem dX8_begins_72 : decode cX8_begins 72 = .ok (.if_icmp .ne 7, 3) := by decide +kernel
theorem dX8_begins_75 : decode cX8_begins 75 = .ok (.iconst 1, 1) := by decide +kernel
theorem dX8_begins_76 : decode cX8_begins 76 = .ok (.goto 9, 3) := by decide +kernel
theorem dX8_begins_79 : decode cX8_begins 79 = .ok (.aload_n 0, 1) := by decide +kernel
theorem dX8_begins_80 : decode cX8_begins 80 = .ok (.getfield 9, 3) := by decide +kernel
theorem dX8_begins_83 : decode cX8_begins 83 = .ok (.iconst 2, 1) := by decide +kernel
theorem dX8_begins_84 : decode cX8_begins 84 = .ok (.isub, 1) := by decide +kernel
theorem dX8_begins_85 : decode cX8_begins 85 = .ok (.istore 4, 2) := by decide +kernel
theorem dX8_begins_87 : decode cX8_begins 87 = .ok (.aload_n 0, 1) := by decide +kernel
theorem dX8_begins_88 : decode cX8_begins 88 = .ok (.getfield 20, 3) := by decide +kernel
theorem dX8_begins_91 : decode cX8_begins 91 = .ok (.iload_n 3, 1) := by decide +kernel
theorem dX8_begins_92 : decode cX8_begins 92 = .ok (.aload_n 0, 1) := by decide +kernel
theorem dX8_begins_93 : decode cX8_begins 93 = .ok (.getfield 9, 3) := by decide +kernel
theorem dX8_begins_96 : decode cX8_begins 96 = .ok (.imul, 1) := by decide +kernel
theorem dX8_begins_97 : decode cX8_begins 97 = .ok (.iload 4, 2) := by decide +kernel
theorem dX8_begins_99 : decode cX8_begins 99 = .ok (.iadd, 1) := by decide +kernel
theorem dX8_begins_100 : decode cX8_begins 100 = .ok (.iconst 2, 1) := by decide +kernel
theorem dX8_begins_101 : decode cX8_begins 101 = .ok (.iastore, 1) := by decide +kernel
theorem dX8_begins_102 : decode cX8_begins 102 = .ok (.iinc 2 1, 3) := by decide +kernel
theorem dX8_begins_105 : decode cX8_begins 105 = .ok (.goto (-64), 3) := by decide +kernel
theorem dX8_begins_108 : decode cX8_begins 108 = .ok (.return_, 1) := by decide +kernel
theorem dX8_many_0 : decode cX8_many 0 = .ok (.iconst 0, 1) := by decide +kernel
theorem dX8_many_1 : decode cX8_many 1 = .ok (.istore_n 2, 1) := by decide +kernel
theorem dX8_many_2 : decode cX8_many 2 = .ok (.iconst 0, 1) := by decide +kernel
theorem dX8_many_3 : decode cX8_many 3 = .ok (.istore_n 3, 1) := by decide +kernel
theorem dX8_many_4 : decode cX8_many 4 = .ok (.iload_n 3, 1) := by decide +kernel
theorem dX8_many_5 : decode cX8_many 5 = .ok (.aload_n 0, 1) := by decide +kernel
theorem dX8_many_6 : decode cX8_many 6 = .ok (.invokevirtual 76, 3) := by decide +kernel
theorem dX8_many_9 : decode cX8_many 9 = .ok (.if_icmp .ge 27, 3) := by decide +kernel
theorem dX8_many_12 : decode cX8_many 12 = .ok (.iload_n 2, 1) := by decide +kernel
theorem dX8_many_13 : decode cX8_many 13 = .ok (.aload_n 0, 1) := by decide +kernel
theorem dX8_many_14 : decode cX8_many 14 = .ok (.getfield 20, 3) := by decide +kernel
theorem dX8_many_17 : decode cX8_many 17 = .ok (.iload_n 3, 1) := by decide +kernel
theorem dX8_many_18 : decode cX8_many 18 = .ok (.iaload, 1) := by decide +kernel
theorem dX8_many_19 : decode cX8_many 19 = .ok (.iload_n 1, 1) := by decide +kernel
theorem dX8_many_20 : decode cX8_many 20 = .ok (.if_icmp .ne 7, 3) := by decide +kernel
theorem dX8_many_23 : decode cX8_many 23 = .ok (.iconst 1, 1) := by decide +kernel
theorem dX8_many_24 : decode cX8_many 24 = .ok (.goto 4, 3) := by decide +kernel
theorem dX8_many_27 : decode cX8_many 27 = .ok (.iconst 0, 1) := by decide +kernel
theorem dX8_many_28 : decode cX8_many 28 = .ok (.iadd, 1) := by decide +kernel
theorem dX8_many_29 : decode cX8_many 29 = .ok (.istore_n 2, 1) := by decide +kernel
theorem dX8_many_30 : decode cX8_many 30 = .ok (.iinc 3 1, 3) := by decide +kernel
theorem dX8_many_33 : decode cX8_many 33 = .ok (.goto (-29), 3) := by decide +kernel
theorem dX8_many_36 : decode cX8_many 36 = .ok (.iload_n 2, 1) := by decide +kernel
theorem dX8_many_37 : decode cX8_many 37 = .ok (.ireturn, 1) := by decide +kernel
theorem dX8_start_0 : decode cX8_start 0 = .ok (.aload_n 0, 1) := by decide +kernel
theorem dX8_start_1 : decode cX8_start 1 = .ok (.iload_n 1, 1) := by decide +kernel
theorem dX8_start_2 : decode cX8_start 2 = .ok (.iconst 4, 1) := by decide +kernel
theorem dX8_start_3 : decode cX8_start 3 = .ok (.bipush 7, 2) := by decide +kernel
theorem dX8_start_5 : decode cX8_start 5 = .ok (.invokestatic 80, 3) := by decide +kernel
theorem dX8_start_8 : decode cX8_start 8 = .ok (.ifCond .eq 26, 3) := by decide +kernel
theorem dX8_start_11 : decode cX8_start 11 = .ok (.iload_n 2, 1) := by decide +kernel
theorem dX8_start_12 : decode cX8_start 12 = .ok (.iconst 4, 1) := by decide +kernel
theorem dX8_start_13 : decode cX8_start 13 = .ok (.bipush 7, 2) := by decide +kernel
theorem dX8_start_15 : decode cX8_start 15 = .ok (.invokestatic 80, 3) := by decide +kernel
theorem dX8_start_18 : decode cX8_start 18 = .ok (.ifCond .eq 16, 3) := by decide +kernel
theorem dX8_start_21 : decode cX8_start 21 = .ok (.iload_n 3, 1) := by decide +kernel
theorem dX8_start_22 : decode cX8_start 22 = .ok (.iconst 0, 1) := by decide +kernel
theorem dX8_start_23 : decode cX8_start 23 = .ok (.iconst 4, 1) := by decide +kernel
theorem dX8_start_24 : decode cX8_start 24 = .ok (.invokestatic 80, 3) := by decide +kernel
theorem dX8_start_27 : decode cX8_start 27 = .ok (.ifCond .eq 7, 3) := by decide +kernel
theorem dX8_start_30 : decode cX8_start 30 = .ok (.iconst 0, 1) := by decide +kernel
theorem dX8_start_31 : decode cX8_start 31 = .ok (.goto 4, 3) := by decide +kernel
theorem dX8_start_34 : decode cX8_start 34 = .ok (.iconst 1, 1) := by decide +kernel
theorem dX8_start_35 : decode cX8_start 35 = .ok (.putfield 73, 3) := by decide +kernel
theorem dX8_start_38 : decode cX8_start 38 = .ok (.aload_n 0, 1) := by decide +kernel
theorem dX8_start_39 : decode cX8_start 39 = .ok (.getfield 73, 3) := by decide +kernel
theorem dX8_start_42 : decode cX8_start 42 = .ok (.iconst 1, 1) := by decide +kernel
theorem dX8_start_43 : decode cX8_start 43 = .ok (.if_icmp .ne 5, 3) := by decide +kernel
theorem dX8_start_46 : decode cX8_start 46 = .ok (.iconst 0, 1) := by decide +kernel
theorem dX8_start_47 : decode cX8_start 47 = .ok (.ireturn, 1) := by decide +kernel
theorem dX8_start_48 : decode cX8_start 48 = .ok (.aload_n 0, 1) := by decide +kernel
theorem dX8_start_49 : decode cX8_start 49 = .ok (.iload_n 1, 1) := by decide +kernel
theorem dX8_start_50 : decode cX8_start 50 = .ok (.putfield 9, 3) := by decide +kernel
theorem dX8_start_53 : decode cX8_start 53 = .ok (.aload_n 0, 1) := by decide +kernel
theorem dX8_start_54 : decode cX8_start 54 = .ok (.iload_n 2, 1) := by decide +kernel
theorem dX8_start_55 : decode cX8_start 55 = .ok (.putfield 13, 3) := by decide +kernel
theorem dX8_start_58 : decode cX8_start 58 = .ok (.aload_n 0, 1) := by decide +kernel
theorem dX8_start_59 : decode cX8_start 59 = .ok (.getfield 16, 3) := by decide +kernel
theorem dX8_start_62 : decode cX8_start 62 = .ok (.iconst 0, 1) := by decide +kernel
theorem dX8_start_63 : decode cX8_start 63 = .ok (.iconst 0, 1) := by decide +kernel
theorem dX8_start_64 : decode cX8_start 64 = .ok (.iastore, 1) := by decide +kernel
theorem dX8_start_65 : decode cX8_start 65 = .ok (.aload_n 0, 1) := by decide +kernel
theorem dX8_start_66 : decode cX8_start 66 = .ok (.getfield 16, 3) := by decide +kernel
theorem dX8_start_69 : decode cX8_start 69 = .ok (.iconst 1, 1) := by decide +kernel
theorem dX8_start_70 : decode cX8_start 70 = .ok (.iconst 0, 1) := by decide +kernel
theorem dX8_start_71 : decode cX8_start 71 = .ok (.iastore, 1) := by decide +kernel
theorem dX8_start_72 : decode cX8_start 72 = .ok (.aload_n 0, 1) := by decide +kernel
theorem dX8_start_73 : decode cX8_start 73 = .ok (.iload_n 3, 1) := by decide +kernel
theorem dX8_start_74 : decode cX8_start 74 = .ok (.invokevirtual 69, 3) := by decide +kernel
theorem dX8_start_77 : decode cX8_start 77 = .ok (.aload_n 0, 1) := by decide +kernel
theorem dX8_start_78 : decode cX8_start 78 = .ok (.iconst 0, 1) := by decide +kernel
theorem dX8_start_79 : decode cX8_start 79 = .ok (.invokevirtual 84, 3) := by decide +kernel
theorem dX8_start_82 : decode cX8_start 82 = .ok (.ireturn, 1) := by decide +kernel
theorem dX8_setRule_0 : decode cX8_setRule 0 = .ok (.aload_n 0, 1) := by decide +kernel
theorem dX8_setRule_1 : decode cX8_setRule 1 = .ok (.iload_n 1, 1) := by decide +kernel
theorem dX8_setRule_2 : decode cX8_setRule 2 = .ok (.iconst 0, 1) := by decide +kernel
theorem dX8_setRule_3 : decode cX8_setRule 3 = .ok (.iconst 2, 1) := by decide +kernel
theorem dX8_setRule_4 : decode cX8_setRule 4 = .ok (.invokestatic 80, 3) := by decide +kernel
theorem dX8_setRule_7 : decode cX8_setRule 7 = .ok (.ifCond .eq 7, 3) := by decide +kernel
theorem dX8_setRule_10 : decode cX8_setRule 10 = .ok (.iconst 0, 1) := by decide +kernel
theorem dX8_setRule_11 : decode cX8_setRule 11 = .ok (.goto 4, 3) := by decide +kernel
theorem dX8_setRule_14 : decode cX8_setRule 14 = .ok (.iconst 1, 1) := by decide +kernel
theorem dX8_setRule_15 : decode cX8_setRule 15 = .ok (.putfield 73, 3) := by decide +kernel
theorem dX8_setRule_18 : decode cX8_setRule 18 = .ok (.aload_n 0, 1) := by decide +kernel
theorem dX8_setRule_19 : decode cX8_setRule 19 = .ok (.getfield 73, 3) := by decide +kernel
theorem dX8_setRule_22 : decode cX8_setRule 22 = .ok (.iconst 1, 1) := by decide +kernel
theorem dX8_setRule_23 : decode cX8_setRule 23 = .ok (.if_icmp .ne 5, 3) := by decide +kernel
theorem dX8_setRule_26 : decode cX8_setRule 26 = .ok (.iconst 0, 1) := by decide +kernel
theorem dX8_setRule_27 : decode cX8_setRule 27 = .ok (.ireturn, 1) := by decide +kernel
theorem dX8_setRule_28 : decode cX8_setRule 28 = .ok (.aload_n 0, 1) := by decide +kernel
theorem dX8_setRule_29 : decode cX8_setRule 29 = .ok (.getfield 88, 3) := by decide +kernel
theorem dX8_setRule_32 : decode cX8_setRule 32 = .ok (.istore_n 2, 1) := by decide +kernel
theorem dX8_setRule_33 : decode cX8_setRule 33 = .ok (.aload_n 0, 1) := by decide +kernel
theorem dX8_setRule_34 : decode cX8_setRule 34 = .ok (.iload_n 1, 1) := by decide +kernel
theorem dX8_setRule_35 : decode cX8_setRule 35 = .ok (.putfield 88, 3) := by decide +kernel
theorem dX8_setRule_38 : decode cX8_setRule 38 = .ok (.iload_n 2, 1) := by decide +kernel
theorem dX8_setRule_39 : decode cX8_setRule 39 = .ok (.ireturn, 1) := by decide +kernel
theorem dX8_setBonus_0 : decode cX8_setBonus 0 = .ok (.aload_n 0, 1) := by decide +kernel
theorem dX8_setBonus_1 : decode cX8_setBonus 1 = .ok (.iload_n 1, 1) := by decide +kernel
theorem dX8_setBonus_2 : decode cX8_setBonus 2 = .ok (.iconst 0, 1) := by decide +kernel
theorem dX8_setBonus_3 : decode cX8_setBonus 3 = .ok (.iconst 1, 1) := by decide +kernel
theorem dX8_setBonus_4 : decode cX8_setBonus 4 = .ok (.invokestatic 80, 3) := by decide +kernel
theorem dX8_setBonus_7 : decode cX8_setBonus 7 = .ok (.ifCond .ne 7, 3) := by decide +kernel
theorem dX8_setBonus_10 : decode cX8_setBonus 10 = .ok (.iconst 1, 1) := by decide +kernel
theorem dX8_setBonus_11 : decode cX8_setBonus 11 = .ok (.goto 18, 3) := by decide +kernel
theorem dX8_setBonus_14 : decode cX8_setBonus 14 = .ok (.iload_n 2, 1) := by decide +kernel
theorem dX8_setBonus_15 : decode cX8_setBonus 15 = .ok (.iconst 0, 1) := by decide +kernel
theorem dX8_setBonus_16 : decode cX8_setBonus 16 = .ok (.bipush 20, 2) := by decide +kernel
theorem dX8_setBonus_18 : decode cX8_setBonus 18 = .ok (.invokestatic 80, 3) := by decide +kernel
theorem dX8_setBonus_21 : decode cX8_setBonus 21 = .ok (.ifCond .ne 7, 3) := by decide +kernel
theorem dX8_setBonus_24 : decode cX8_setBonus 24 = .ok (.iconst 2, 1) := by decide +kernel
theorem dX8_setBonus_25 : decode cX8_setBonus 25 = .ok (.goto 4, 3) := by decide +kernel
theorem dX8_setBonus_28 : decode cX8_setBonus 28 = .ok (.iconst 0, 1) := by decide +kernel
theorem dX8_setBonus_29 : decode cX8_setBonus 29 = .ok (.putfield 73, 3) := by decide +kernel
theorem dX8_setBonus_32 : decode cX8_setBonus 32 = .ok (.aload_n 0, 1) := by decide +kernel
theorem dX8_setBonus_33 : decode cX8_setBonus 33 = .ok (.getfield 73, 3) := by decide +kernel
theorem dX8_setBonus_36 : decode cX8_setBonus 36 = .ok (.ifCond .le 5, 3) := by decide +kernel
theorem dX8_setBonus_39 : decode cX8_setBonus 39 = .ok (.iconst 0, 1) := by decide +kernel
theorem dX8_setBonus_40 : decode cX8_setBonus 40 = .ok (.ireturn, 1) := by decide +kernel
theorem dX8_setBonus_41 : decode cX8_setBonus 41 = .ok (.aload_n 0, 1) := by decide +kernel
theorem dX8_setBonus_42 : decode cX8_setBonus 42 = .ok (.getfield 16, 3) := by decide +kernel
theorem dX8_setBonus_45 : decode cX8_setBonus 45 = .ok (.iload_n 1, 1) := by decide +kernel
theorem dX8_setBonus_46 : decode cX8_setBonus 46 = .ok (.iaload, 1) := by decide +kernel
theorem dX8_setBonus_47 : decode cX8_setBonus 47 = .ok (.istore_n 3, 1) := by decide +kernel
theorem dX8_setBonus_48 : decode cX8_setBonus 48 = .ok (.aload_n 0, 1) := by decide +kernel
theorem dX8_setBonus_49 : decode cX8_setBonus 49 = .ok (.getfield 16, 3) := by decide +kernel
theorem dX8_setBonus_52 : decode cX8_setBonus 52 = .ok (.iload_n 1, 1) := by decide +kernel
theorem dX8_setBonus_53 : decode cX8_setBonus 53 = .ok (.iload_n 2, 1) := by decide +kernel
theorem dX8_setBonus_54 : decode cX8_setBonus 54 = .ok (.iastore, 1) := by decide +kernel
theorem dX8_setBonus_55 : decode cX8_setBonus 55 = .ok (.iload_n 3, 1) := by decide +kernel
theorem dX8_setBonus_56 : decode cX8_setBonus 56 = .ok (.ireturn, 1) := by decide +kernel
theorem dX8_bits_0 : decode cX8_bits 0 = .ok (.lconst 0, 1) := by decide +kernel
theorem dX8_bits_1 : decode cX8_bits 1 = .ok (.lstore_n 2, 1) := by decide +kernel
theorem dX8_bits_2 : decode cX8_bits 2 = .ok (.iconst 0, 1) := by decide +kernel
theorem dX8_bits_3 : decode cX8_bits 3 = .ok (.istore 4, 2) := by decide +kernel
theorem dX8_bits_5 : decode cX8_bits 5 = .ok (.iload 4, 2) := by decide +kernel
theorem dX8_bits_7 : decode cX8_bits 7 = .ok (.aload_n 0, 1) := by decide +kernel
theorem dX8_bits_8 : decode cX8_bits 8 = .ok (.invokevirtual 76, 3) := by decide +kernel
theorem dX8_bits_11 : decode cX8_bits 11 = .ok (.if_icmp .ge 31, 3) := by decide +kernel
theorem dX8_bits_14 : decode cX8_bits 14 = .ok (.lload_n 2, 1) := by decide +kernel
theorem dX8_bits_15 : decode cX8_bits 15 = .ok (.aload_n 0, 1) := by decide +kernel
theorem dX8_bits_16 : decode cX8_bits 16 = .ok (.getfield 20, 3) := by decide +kernel
theorem dX8_bits_19 : decode cX8_bits 19 = .ok (.iload 4, 2) := by decide +kernel
theorem dX8_bits_21 : decode cX8_bits 21 = .ok (.iaload, 1) := by decide +kernel
theorem dX8_bits_22 : decode cX8_bits 22 = .ok (.iload_n 1, 1) := by decide +kernel
theorem dX8_bits_23 : decode cX8_bits 23 = .ok (.if_icmp .ne 10, 3) := by decide +kernel
theorem dX8_bits_26 : decode cX8_bits 26 = .ok (.lconst 1, 1) := by decide +kernel
theorem dX8_bits_27 : decode cX8_bits 27 = .ok (.iload 4, 2) := by decide +kernel
theorem dX8_bits_29 : decode cX8_bits 29 = .ok (.lshl, 1) := by decide +kernel
theorem dX8_bits_30 : decode cX8_bits 30 = .ok (.goto 4, 3) := by decide +kernel
theorem dX8_bits_33 : decode cX8_bits 33 = .ok (.lconst 0, 1) := by decide +kernel
theorem dX8_bits_34 : decode cX8_bits 34 = .ok (.lor, 1) := by decide +kernel
theorem dX8_bits_35 : decode cX8_bits 35 = .ok (.lstore_n 2, 1) := by decide +kernel
theorem dX8_bits_36 : decode cX8_bits 36 = .ok (.iinc 4 1, 3) := by decide +kernel
theorem dX8_bits_39 : decode cX8_bits 39 = .ok (.goto (-34), 3) := by decide +kernel
theorem dX8_bits_42 : decode cX8_bits 42 = .ok (.lload_n 2, 1) := by decide +kernel
theorem dX8_bits_43 : decode cX8_bits 43 = .ok (.lreturn, 1) := by decide +kernel
theorem dX8_all_0 : decode cX8_all 0 = .ok (.lconst 1, 1) := by decide +kernel
theorem dX8_all_1 : decode cX8_all 1 = .ok (.aload_n 0, 1) := by decide +kernel
theorem dX8_all_2 : decode cX8_all 2 = .ok (.invokevirtual 76, 3) := by decide +kernel
theorem dX8_all_5 : decode cX8_all 5 = .ok (.lshl, 1) := by decide +kernel
theorem dX8_all_6 : decode cX8_all 6 = .ok (.lconst 1, 1) := by decide +kernel
theorem dX8_all_7 : decode cX8_all 7 = .ok (.lsub, 1) := by decide +kernel
theorem dX8_all_8 : decode cX8_all 8 = .ok (.lreturn, 1) := by decide +kernel
theorem dX8_column_0 : decode cX8_column 0 = .ok (.lconst 0, 1) := by decide +kernel
theorem dX8_column_1 : decode cX8_column 1 = .ok (.lstore_n 2, 1) := by decide +kernel
theorem dX8_column_2 : decode cX8_column 2 = .ok (.iconst 0, 1) := by decide +kernel
theorem dX8_column_3 : decode cX8_column 3 = .ok (.istore 4, 2) := by decide +kernel
theorem dX8_column_5 : decode cX8_column 5 = .ok (.iload 4, 2) := by decide +kernel
theorem dX8_column_7 : decode cX8_column 7 = .ok (.aload_n 0, 1) := by decide +kernel
theorem dX8_column_8 : decode cX8_column 8 = .ok (.getfield 13, 3) := by decide +kernel
theorem dX8_column_11 : decode cX8_column 11 = .ok (.if_icmp .ge 23, 3) := by decide +kernel
theorem dX8_column_14 : decode cX8_column 14 = .ok (.lload_n 2, 1) := by decide +kernel
theorem dX8_column_15 : decode cX8_column 15 = .ok (.lconst 1, 1) := by decide +kernel
theorem dX8_column_16 : decode cX8_column 16 = .ok (.iload 4, 2) := by decide +kernel
theorem dX8_column_18 : decode cX8_column 18 = .ok (.aload_n 0, 1) := by decide +kernel
theorem dX8_column_19 : decode cX8_column 19 = .ok (.getfield 9, 3) := by decide +kernel
theorem dX8_column_22 : decode cX8_column 22 = .ok (.imul, 1) := by decide +kernel
theorem dX8_column_23 : decode cX8_column 23 = .ok (.iload_n 1, 1) := by decide +kernel
theorem dX8_column_24 : decode cX8_column 24 = .ok (.iadd, 1) := by decide +kernel
theorem dX8_column_25 : decode cX8_column 25 = .ok (.lshl, 1) := by decide +kernel
theorem dX8_column_26 : decode cX8_column 26 = .ok (.lor, 1) := by decide +kernel
theorem dX8_column_27 : decode cX8_column 27 = .ok (.lstore_n 2, 1) := by decide +kernel
theorem dX8_column_28 : decode cX8_column 28 = .ok (.iinc 4 1, 3) := by decide +kernel
theorem dX8_column_31 : decode cX8_column 31 = .ok (.goto (-26), 3) := by decide +kernel
theorem dX8_column_34 : decode cX8_column 34 = .ok (.lload_n 2, 1) := by decide +kernel
theorem dX8_column_35 : decode cX8_column 35 = .ok (.lreturn, 1) := by decide +kernel
theorem dX8_edge_0 : decode cX8_edge 0 = .ok (.lconst 1, 1) := by decide +kernel
theorem dX8_edge_1 : decode cX8_edge 1 = .ok (.aload_n 0, 1) := by decide +kernel
theorem dX8_edge_2 : decode cX8_edge 2 = .ok (.getfield 9, 3) := by decide +kernel
theorem dX8_edge_5 : decode cX8_edge 5 = .ok (.lshl, 1) := by decide +kernel
theorem dX8_edge_6 : decode cX8_edge 6 = .ok (.lconst 1, 1) := by decide +kernel
theorem dX8_edge_7 : decode cX8_edge 7 = .ok (.lsub, 1) := by decide +kernel
theorem dX8_edge_8 : decode cX8_edge 8 = .ok (.lstore_n 1, 1) := by decide +kernel
theorem dX8_edge_9 : decode cX8_edge 9 = .ok (.aload_n 0, 1) := by decide +kernel
theorem dX8_edge_10 : decode cX8_edge 10 = .ok (.iconst 0, 1) := by decide +kernel
theorem dX8_edge_11 : decode cX8_edge 11 = .ok (.invokevirtual 91, 3) := by decide +kernel
theorem dX8_edge_14 : decode cX8_edge 14 = .ok (.aload_n 0, 1) := by decide +kernel
theorem dX8_edge_15 : decode cX8_edge 15 = .ok (.aload_n 0, 1) := by decide +kernel
theorem dX8_edge_16 : decode cX8_edge 16 = .ok (.getfield 9, 3) := by decide +kernel
theorem dX8_edge_19 : decode cX8_edge 19 = .ok (.iconst 1, 1) := by decide +kernel
theorem dX8_edge_20 : decode cX8_edge 20 = .ok (.isub, 1) := by decide +kernel
theorem dX8_edge_21 : decode cX8_edge 21 = .ok (.invokevirtual 91, 3) := by decide +kernel
theorem dX8_edge_24 : decode cX8_edge 24 = .ok (.lor, 1) := by decide +kernel
theorem dX8_edge_25 : decode cX8_edge 25 = .ok (.lload_n 1, 1) := by decide +kernel
theorem dX8_edge_26 : decode cX8_edge 26 = .ok (.lor, 1) := by decide +kernel
theorem dX8_edge_27 : decode cX8_edge 27 = .ok (.lload_n 1, 1) := by decide +kernel
theorem dX8_edge_28 : decode cX8_edge 28 = .ok (.aload_n 0, 1) := by decide +kernel
theorem dX8_edge_29 : decode cX8_edge 29 = .ok (.getfield 13, 3) := by decide +kernel
theorem dX8_edge_32 : decode cX8_edge 32 = .ok (.iconst 1, 1) := by decide +kernel
theorem dX8_edge_33 : decode cX8_edge 33 = .ok (.isub, 1) := by decide +kernel
theorem dX8_edge_34 : decode cX8_edge 34 = .ok (.aload_n 0, 1) := by decide +kernel
theorem dX8_edge_35 : decode cX8_edge 35 = .ok (.getfield 9, 3) := by decide +kernel
theorem dX8_edge_38 : decode cX8_edge 38 = .ok (.imul, 1) := by decide +kernel
theorem dX8_edge_39 : decode cX8_edge 39 = .ok (.lshl, 1) := by decide +kernel
theorem dX8_edge_40 : decode cX8_edge 40 = .ok (.lor, 1) := by decide +kernel
theorem dX8_edge_41 : decode cX8_edge 41 = .ok (.lreturn, 1) := by decide +kernel
theorem dX8_grown_0 : decode cX8_grown 0 = .ok (.lload_n 1, 1) := by decide +kernel
theorem dX8_grown_1 : decode cX8_grown 1 = .ok (.lload_n 1, 1) := by decide +kernel
theorem dX8_grown_2 : decode cX8_grown 2 = .ok (.aload_n 0, 1) := by decide +kernel
theorem dX8_grown_3 : decode cX8_grown 3 = .ok (.iconst 0, 1) := by decide +kernel
theorem dX8_grown_4 : decode cX8_grown 4 = .ok (.invokevirtual 91, 3) := by decide +kernel
theorem dX8_grown_7 : decode cX8_grown 7 = .ok (.ldc2_w 95, 3) := by decide +kernel
theorem dX8_grown_10 : decode cX8_grown 10 = .ok (.lxor, 1) := by decide +kernel
theorem dX8_grown_11 : decode cX8_grown 11 = .ok (.land, 1) := by decide +kernel
theorem dX8_grown_12 : decode cX8_grown 12 = .ok (.iconst 1, 1) := by decide +kernel
theorem dX8_grown_13 : decode cX8_grown 13 = .ok (.lushr, 1) := by decide +kernel
theorem dX8_grown_14 : decode cX8_grown 14 = .ok (.lor, 1) := by decide +kernel
theorem dX8_grown_15 : decode cX8_grown 15 = .ok (.lload_n 1, 1) := by decide +kernel
theorem dX8_grown_16 : decode cX8_grown 16 = .ok (.aload_n 0, 1) := by decide +kernel
theorem dX8_grown_17 : decode cX8_grown 17 = .ok (.aload_n 0, 1) := by decide +kernel
theorem dX8_grown_18 : decode cX8_grown 18 = .ok (.getfield 9, 3) := by decide +kernel
theorem dX8_grown_21 : decode cX8_grown 21 = .ok (.iconst 1, 1) := by decide +kernel
theorem dX8_grown_22 : decode cX8_grown 22 = .ok (.isub, 1) := by decide +kernel
theorem dX8_grown_23 : decode cX8_grown 23 = .ok (.invokevirtual 91, 3) := by decide +kernel
theorem dX8_grown_26 : decode cX8_grown 26 = .ok (.ldc2_w 95, 3) := by decide +kernel
theorem dX8_grown_29 : decode cX8_grown 29 = .ok (.lxor, 1) := by decide +kernel
theorem dX8_grown_30 : decode cX8_grown 30 = .ok (.land, 1) := by decide +kernel
theorem dX8_grown_31 : decode cX8_grown 31 = .ok (.iconst 1, 1) := by decide +kernel
theorem dX8_grown_32 : decode cX8_grown 32 = .ok (.lshl, 1) := by decide +kernel
theorem dX8_grown_33 : decode cX8_grown 33 = .ok (.lor, 1) := by decide +kernel
theorem dX8_grown_34 : decode cX8_grown 34 = .ok (.lload_n 1, 1) := by decide +kernel
theorem dX8_grown_35 : decode cX8_grown 35 = .ok (.aload_n 0, 1) := by decide +kernel
theorem dX8_grown_36 : decode cX8_grown 36 = .ok (.getfield 9, 3) := by decide +kernel
theorem dX8_grown_39 : decode cX8_grown 39 = .ok (.lushr, 1) := by decide +kernel
theorem dX8_grown_40 : decode cX8_grown 40 = .ok (.lor, 1) := by decide +kernel
theorem dX8_grown_41 : decode cX8_grown 41 = .ok (.lload_n 1, 1) := by decide +kernel
theorem dX8_grown_42 : decode cX8_grown 42 = .ok (.aload_n 0, 1) := by decide +kernel
theorem dX8_grown_43 : decode cX8_grown 43 = .ok (.getfield 9, 3) := by decide +kernel
theorem dX8_grown_46 : decode cX8_grown 46 = .ok (.lshl, 1) := by decide +kernel
theorem dX8_grown_47 : decode cX8_grown 47 = .ok (.lor, 1) := by decide +kernel
theorem dX8_grown_48 : decode cX8_grown 48 = .ok (.aload_n 0, 1) := by decide +kernel
theorem dX8_grown_49 : decode cX8_grown 49 = .ok (.invokevirtual 97, 3) := by decide +kernel
theorem dX8_grown_52 : decode cX8_grown 52 = .ok (.land, 1) := by decide +kernel
theorem dX8_grown_53 : decode cX8_grown 53 = .ok (.lreturn, 1) := by decide +kernel
theorem dX8_connected_0 : decode cX8_connected 0 = .ok (.lconst 1, 1) := by decide +kernel
theorem dX8_connected_1 : decode cX8_connected 1 = .ok (.iload_n 3, 1) := by decide +kernel
theorem dX8_connected_2 : decode cX8_connected 2 = .ok (.lshl, 1) := by decide +kernel
theorem dX8_connected_3 : decode cX8_connected 3 = .ok (.lstore 4, 2) := by decide +kernel
theorem dX8_connected_5 : decode cX8_connected 5 = .ok (.aload_n 0, 1) := by decide +kernel
theorem dX8_connected_6 : decode cX8_connected 6 = .ok (.lload 4, 2) := by decide +kernel
theorem dX8_connected_8 : decode cX8_connected 8 = .ok (.invokevirtual 101, 3) := by decide +kernel
theorem dX8_connected_11 : decode cX8_connected 11 = .ok (.lload_n 1, 1) := by decide +kernel
theorem dX8_connected_12 : decode cX8_connected 12 = .ok (.land, 1) := by decide +kernel
theorem dX8_connected_13 : decode cX8_connected 13 = .ok (.lstore 6, 2) := by decide +kernel
theorem dX8_connected_15 : decode cX8_connected 15 = .ok (.lload 6, 2) := by decide +kernel
theorem dX8_connected_17 : decode cX8_connected 17 = .ok (.lload 4, 2) := by decide +kernel
theorem dX8_connected_19 : decode cX8_connected 19 = .ok (.lcmp, 1) := by decide +kernel
theorem dX8_connected_20 : decode cX8_connected 20 = .ok (.ifCond .eq 20, 3) := by decide +kernel
theorem dX8_connected_23 : decode cX8_connected 23 = .ok (.lload 6, 2) := by decide +kernel
theorem dX8_connected_25 : decode cX8_connected 25 = .ok (.lstore 4, 2) := by decide +kernel
theorem dX8_connected_27 : decode cX8_connected 27 = .ok (.aload_n 0, 1) := by decide +kernel
theorem dX8_connected_28 : decode cX8_connected 28 = .ok (.lload 4, 2) := by decide +kernel
theorem dX8_connected_30 : decode cX8_connected 30 = .ok (.invokevirtual 101, 3) := by decide +kernel
theorem dX8_connected_33 : decode cX8_connected 33 = .ok (.lload_n 1, 1) := by decide +kernel
theorem dX8_connected_34 : decode cX8_connected 34 = .ok (.land, 1) := by decide +kernel
theorem dX8_connected_35 : decode cX8_connected 35 = .ok (.lstore 6, 2) := by decide +kernel
theorem dX8_connected_37 : decode cX8_connected 37 = .ok (.goto (-22), 3) := by decide +kernel
theorem dX8_connected_40 : decode cX8_connected 40 = .ok (.lload 4, 2) := by decide +kernel
theorem dX8_connected_42 : decode cX8_connected 42 = .ok (.lreturn, 1) := by decide +kernel
theorem dX8_size_0 : decode cX8_size 0 = .ok (.iconst 0, 1) := by decide +kernel
theorem dX8_size_1 : decode cX8_size 1 = .ok (.istore_n 2, 1) := by decide +kernel
theorem dX8_size_2 : decode cX8_size 2 = .ok (.iconst 0, 1) := by decide +kernel
theorem dX8_size_3 : decode cX8_size 3 = .ok (.istore_n 3, 1) := by decide +kernel
theorem dX8_size_4 : decode cX8_size 4 = .ok (.iload_n 3, 1) := by decide +kernel
theorem dX8_size_5 : decode cX8_size 5 = .ok (.bipush 49, 2) := by decide +kernel
theorem dX8_size_7 : decode cX8_size 7 = .ok (.if_icmp .ge 18, 3) := by decide +kernel
theorem dX8_size_10 : decode cX8_size 10 = .ok (.iload_n 2, 1) := by decide +kernel
theorem dX8_size_11 : decode cX8_size 11 = .ok (.lload_n 0, 1) := by decide +kernel
theorem dX8_size_12 : decode cX8_size 12 = .ok (.iload_n 3, 1) := by decide +kernel
theorem dX8_size_13 : decode cX8_size 13 = .ok (.lshr, 1) := by decide +kernel
theorem dX8_size_14 : decode cX8_size 14 = .ok (.lconst 1, 1) := by decide +kernel
theorem dX8_size_15 : decode cX8_size 15 = .ok (.land, 1) := by decide +kernel
theorem dX8_size_16 : decode cX8_size 16 = .ok (.l2i, 1) := by decide +kernel
theorem dX8_size_17 : decode cX8_size 17 = .ok (.iadd, 1) := by decide +kernel
theorem dX8_size_18 : decode cX8_size 18 = .ok (.istore_n 2, 1) := by decide +kernel
theorem dX8_size_19 : decode cX8_size 19 = .ok (.iinc 3 1, 3) := by decide +kernel
theorem dX8_size_22 : decode cX8_size 22 = .ok (.goto (-18), 3) := by decide +kernel
theorem dX8_size_25 : decode cX8_size 25 = .ok (.iload_n 2, 1) := by decide +kernel
theorem dX8_size_26 : decode cX8_size 26 = .ok (.ireturn, 1) := by decide +kernel
theorem dX8_lowest_0 : decode cX8_lowest 0 = .ok (.iconst 0, 1) := by decide +kernel
theorem dX8_lowest_1 : decode cX8_lowest 1 = .ok (.istore_n 2, 1) := by decide +kernel
theorem dX8_lowest_2 : decode cX8_lowest 2 = .ok (.lload_n 0, 1) := by decide +kernel
theorem dX8_lowest_3 : decode cX8_lowest 3 = .ok (.iload_n 2, 1) := by decide +kernel
theorem dX8_lowest_4 : decode cX8_lowest 4 = .ok (.lshr, 1) := by decide +kernel
theorem dX8_lowest_5 : decode cX8_lowest 5 = .ok (.lconst 1, 1) := by decide +kernel
theorem dX8_lowest_6 : decode cX8_lowest 6 = .ok (.land, 1) := by decide +kernel
theorem dX8_lowest_7 : decode cX8_lowest 7 = .ok (.lconst 0, 1) := by decide +kernel
theorem dX8_lowest_8 : decode cX8_lowest 8 = .ok (.lcmp, 1) := by decide +kernel
theorem dX8_lowest_9 : decode cX8_lowest 9 = .ok (.ifCond .ne 9, 3) := by decide +kernel
theorem dX8_lowest_12 : decode cX8_lowest 12 = .ok (.iinc 2 1, 3) := by decide +kernel
theorem dX8_lowest_15 : decode cX8_lowest 15 = .ok (.goto (-13), 3) := by decide +kernel
theorem dX8_lowest_18 : decode cX8_lowest 18 = .ok (.iload_n 2, 1) := by decide +kernel
theorem dX8_lowest_19 : decode cX8_lowest 19 = .ok (.ireturn, 1) := by decide +kernel
theorem dX8_outside_0 : decode cX8_outside 0 = .ok (.aload_n 0, 1) := by decide +kernel
theorem dX8_outside_1 : decode cX8_outside 1 = .ok (.invokevirtual 97, 3) := by decide +kernel
theorem dX8_outside_4 : decode cX8_outside 4 = .ok (.aload_n 0, 1) := by decide +kernel
theorem dX8_outside_5 : decode cX8_outside 5 = .ok (.iconst 1, 1) := by decide +kernel
theorem dX8_outside_6 : decode cX8_outside 6 = .ok (.iload_n 1, 1) := by decide +kernel
theorem dX8_outside_7 : decode cX8_outside 7 = .ok (.iadd, 1) := by decide +kernel
theorem dX8_outside_8 : decode cX8_outside 8 = .ok (.invokevirtual 105, 3) := by decide +kernel
theorem dX8_outside_11 : decode cX8_outside 11 = .ok (.ldc2_w 95, 3) := by decide +kernel
theorem dX8_outside_14 : decode cX8_outside 14 = .ok (.lxor, 1) := by decide +kernel
theorem dX8_outside_15 : decode cX8_outside 15 = .ok (.land, 1) := by decide +kernel
theorem dX8_outside_16 : decode cX8_outside 16 = .ok (.aload_n 0, 1) := by decide +kernel
theorem dX8_outside_17 : decode cX8_outside 17 = .ok (.iconst 3, 1) := by decide +kernel
theorem dX8_outside_18 : decode cX8_outside 18 = .ok (.iload_n 1, 1) := by decide +kernel
theorem dX8_outside_19 : decode cX8_outside 19 = .ok (.iadd, 1) := by decide +kernel
theorem dX8_outside_20 : decode cX8_outside 20 = .ok (.invokevirtual 105, 3) := by decide +kernel
theorem dX8_outside_23 : decode cX8_outside 23 = .ok (.ldc2_w 95, 3) := by decide +kernel
theorem dX8_outside_26 : decode cX8_outside 26 = .ok (.lxor, 1) := by decide +kernel
theorem dX8_outside_27 : decode cX8_outside 27 = .ok (.land, 1) := by decide +kernel
theorem dX8_outside_28 : decode cX8_outside 28 = .ok (.aload_n 0, 1) := by decide +kernel
theorem dX8_outside_29 : decode cX8_outside 29 = .ok (.iconst 5, 1) := by decide +kernel
theorem dX8_outside_30 : decode cX8_outside 30 = .ok (.invokevirtual 105, 3) := by decide +kernel
theorem dX8_outside_33 : decode cX8_outside 33 = .ok (.ldc2_w 95, 3) := by decide +kernel
theorem dX8_outside_36 : decode cX8_outside 36 = .ok (.lxor, 1) := by decide +kernel
theorem dX8_outside_37 : decode cX8_outside 37 = .ok (.land, 1) := by decide +kernel
theorem dX8_outside_38 : decode cX8_outside 38 = .ok (.lreturn, 1) := by decide +kernel
theorem dX8_score_0 : decode cX8_score 0 = .ok (.aload_n 0, 1) := by decide +kernel
theorem dX8_score_1 : decode cX8_score 1 = .ok (.iconst 3, 1) := by decide +kernel
theorem dX8_score_2 : decode cX8_score 2 = .ok (.iload_n 1, 1) := by decide +kernel
theorem dX8_score_3 : decode cX8_score 3 = .ok (.iadd, 1) := by decide +kernel
theorem dX8_score_4 : decode cX8_score 4 = .ok (.invokevirtual 84, 3) := by decide +kernel
theorem dX8_score_7 : decode cX8_score 7 = .ok (.iconst 2, 1) := by decide +kernel
theorem dX8_score_8 : decode cX8_score 8 = .ok (.aload_n 0, 1) := by decide +kernel
theorem dX8_score_9 : decode cX8_score 9 = .ok (.getfield 20, 3) := by decide +kernel
theorem dX8_score_12 : decode cX8_score 12 = .ok (.sipush 147, 3) := by decide +kernel
theorem dX8_score_15 : decode cX8_score 15 = .ok (.iload_n 1, 1) := by decide +kernel
theorem dX8_score_16 : decode cX8_score 16 = .ok (.iadd, 1) := by decide +kernel
theorem dX8_score_17 : decode cX8_score 17 = .ok (.iaload, 1) := by decide +kernel
theorem dX8_score_18 : decode cX8_score 18 = .ok (.imul, 1) := by decide +kernel
theorem dX8_score_19 : decode cX8_score 19 = .ok (.iadd, 1) := by decide +kernel
theorem dX8_score_20 : decode cX8_score 20 = .ok (.aload_n 0, 1) := by decide +kernel
theorem dX8_score_21 : decode cX8_score 21 = .ok (.getfield 16, 3) := by decide +kernel
theorem dX8_score_24 : decode cX8_score 24 = .ok (.iload_n 1, 1) := by decide +kernel
theorem dX8_score_25 : decode cX8_score 25 = .ok (.iaload, 1) := by decide +kernel
theorem dX8_score_26 : decode cX8_score 26 = .ok (.iadd, 1) := by decide +kernel
theorem dX8_score_27 : decode cX8_score 27 = .ok (.ireturn, 1) := by decide +kernel
theorem dX8_emptyCells_0 : decode cX8_emptyCells 0 = .ok (.aload_n 0, 1) := by decide +kernel
theorem dX8_emptyCells_1 : decode cX8_emptyCells 1 = .ok (.iconst 0, 1) := by decide +kernel
theorem dX8_emptyCells_2 : decode cX8_emptyCells 2 = .ok (.invokevirtual 84, 3) := by decide +kernel
theorem dX8_emptyCells_5 : decode cX8_emptyCells 5 = .ok (.ireturn, 1) := by decide +kernel
theorem dX8_over_0 : decode cX8_over 0 = .ok (.aload_n 0, 1) := by decide +kernel
theorem dX8_over_1 : decode cX8_over 1 = .ok (.getfield 20, 3) := by decide +kernel
theorem dX8_over_4 : decode cX8_over 4 = .ok (.sipush 154, 3) := by decide +kernel
theorem dX8_over_7 : decode cX8_over 7 = .ok (.iaload, 1) := by decide +kernel
theorem dX8_over_8 : decode cX8_over 8 = .ok (.iconst 1, 1) := by decide +kernel
theorem dX8_over_9 : decode cX8_over 9 = .ok (.if_icmp .eq 23, 3) := by decide +kernel
theorem dX8_over_12 : decode cX8_over 12 = .ok (.aload_n 0, 1) := by decide +kernel
theorem dX8_over_13 : decode cX8_over 13 = .ok (.getfield 20, 3) := by decide +kernel
theorem dX8_over_16 : decode cX8_over 16 = .ok (.sipush 153, 3) := by decide +kernel
theorem dX8_over_19 : decode cX8_over 19 = .ok (.iaload, 1) := by decide +kernel
theorem dX8_over_20 : decode cX8_over 20 = .ok (.bipush 60, 2) := by decide +kernel
theorem dX8_over_22 : decode cX8_over 22 = .ok (.if_icmp .eq 10, 3) := by decide +kernel
theorem dX8_over_25 : decode cX8_over 25 = .ok (.aload_n 0, 1) := by decide +kernel
theorem dX8_over_26 : decode cX8_over 26 = .ok (.invokevirtual 108, 3) := by decide +kernel
theorem dX8_over_29 : decode cX8_over 29 = .ok (.ifCond .ne 7, 3) := by decide +kernel
theorem dX8_over_32 : decode cX8_over 32 = .ok (.iconst 1, 1) := by decide +kernel
theorem dX8_over_33 : decode cX8_over 33 = .ok (.goto 4, 3) := by decide +kernel
theorem dX8_over_36 : decode cX8_over 36 = .ok (.iconst 0, 1) := by decide +kernel
theorem dX8_over_37 : decode cX8_over 37 = .ok (.ireturn, 1) := by decide +kernel
theorem dX8_becomes_0 : decode cX8_becomes 0 = .ok (.aload_n 0, 1) := by decide +kernel
theorem dX8_becomes_1 : decode cX8_becomes 1 = .ok (.getfield 20, 3) := by decide +kernel
theorem dX8_becomes_4 : decode cX8_becomes 4 = .ok (.iload_n 1, 1) := by decide +kernel
theorem dX8_becomes_5 : decode cX8_becomes 5 = .ok (.iload_n 2, 1) := by decide +kernel
theorem dX8_becomes_6 : decode cX8_becomes 6 = .ok (.iastore, 1) := by decide +kernel
theorem dX8_becomes_7 : decode cX8_becomes 7 = .ok (.aload_n 0, 1) := by decide +kernel
theorem dX8_becomes_8 : decode cX8_becomes 8 = .ok (.getfield 20, 3) := by decide +kernel
theorem dX8_becomes_11 : decode cX8_becomes 11 = .ok (.bipush 49, 2) := by decide +kernel
theorem dX8_becomes_13 : decode cX8_becomes 13 = .ok (.iload_n 1, 1) := by decide +kernel
theorem dX8_becomes_14 : decode cX8_becomes 14 = .ok (.iadd, 1) := by decide +kernel
theorem dX8_becomes_15 : decode cX8_becomes 15 = .ok (.aload_n 0, 1) := by decide +kernel
theorem dX8_becomes_16 : decode cX8_becomes 16 = .ok (.getfield 20, 3) := by decide +kernel
theorem dX8_becomes_19 : decode cX8_becomes 19 = .ok (.sipush 153, 3) := by decide +kernel
theorem dX8_becomes_22 : decode cX8_becomes 22 = .ok (.iaload, 1) := by decide +kernel
theorem dX8_becomes_23 : decode cX8_becomes 23 = .ok (.iastore, 1) := by decide +kernel
theorem dX8_becomes_24 : decode cX8_becomes 24 = .ok (.aload_n 0, 1) := by decide +kernel
theorem dX8_becomes_25 : decode cX8_becomes 25 = .ok (.getfield 20, 3) := by decide +kernel
theorem dX8_becomes_28 : decode cX8_becomes 28 = .ok (.bipush 98, 2) := by decide +kernel
theorem dX8_becomes_30 : decode cX8_becomes 30 = .ok (.iload_n 1, 1) := by decide +kernel
theorem dX8_becomes_31 : decode cX8_becomes 31 = .ok (.iadd, 1) := by decide +kernel
theorem dX8_becomes_32 : decode cX8_becomes 32 = .ok (.iload_n 3, 1) := by decide +kernel
theorem dX8_becomes_33 : decode cX8_becomes 33 = .ok (.iastore, 1) := by decide +kernel
theorem dX8_becomes_34 : decode cX8_becomes 34 = .ok (.return_, 1) := by decide +kernel
theorem dX8_encloses_0 : decode cX8_encloses 0 = .ok (.aload_n 0, 1) := by decide +kernel
theorem dX8_encloses_1 : decode cX8_encloses 1 = .ok (.iload_n 1, 1) := by decide +kernel
theorem dX8_encloses_2 : decode cX8_encloses 2 = .ok (.invokevirtual 111, 3) := by decide +kernel
theorem dX8_encloses_5 : decode cX8_encloses 5 = .ok (.lstore_n 2, 1) := by decide +kernel
theorem dX8_encloses_6 : decode cX8_encloses 6 = .ok (.aload_n 0, 1) := by decide +kernel
theorem dX8_encloses_7 : decode cX8_encloses 7 = .ok (.invokevirtual 114, 3) := by decide +kernel
theorem dX8_encloses_10 : decode cX8_encloses 10 = .ok (.lstore 4, 2) := by decide +kernel
theorem dX8_encloses_12 : decode cX8_encloses 12 = .ok (.iconst 0, 1) := by decide +kernel
theorem dX8_encloses_13 : decode cX8_encloses 13 = .ok (.istore 6, 2) := by decide +kernel
theorem dX8_encloses_15 : decode cX8_encloses 15 = .ok (.iload 6, 2) := by decide +kernel
theorem dX8_encloses_17 : decode cX8_encloses 17 = .ok (.bipush 49, 2) := by decide +kernel
theorem dX8_encloses_19 : decode cX8_encloses 19 = .ok (.if_icmp .ge 22, 3) := by decide +kernel
theorem dX8_encloses_22 : decode cX8_encloses 22 = .ok (.aload_n 0, 1) := by decide +kernel
theorem dX8_encloses_23 : decode cX8_encloses 23 = .ok (.getfield 53, 3) := by decide +kernel
theorem dX8_encloses_26 : decode cX8_encloses 26 = .ok (.bipush 49, 2) := by decide +kernel
theorem dX8_encloses_28 : decode cX8_encloses 28 = .ok (.iload_n 1, 1) := by decide +kernel
theorem dX8_encloses_29 : decode cX8_encloses 29 = .ok (.imul, 1) := by decide +kernel
theorem dX8_encloses_30 : decode cX8_encloses 30 = .ok (.iload 6, 2) := by decide +kernel
theorem dX8_encloses_32 : decode cX8_encloses 32 = .ok (.iadd, 1) := by decide +kernel
theorem dX8_encloses_33 : decode cX8_encloses 33 = .ok (.iconst 0, 1) := by decide +kernel
theorem dX8_encloses_34 : decode cX8_encloses 34 = .ok (.iastore, 1) := by decide +kernel
theorem dX8_encloses_35 : decode cX8_encloses 35 = .ok (.iinc 6 1, 3) := by decide +kernel
theorem dX8_encloses_38 : decode cX8_encloses 38 = .ok (.goto (-23), 3) := by decide +kernel
theorem dX8_encloses_41 : decode cX8_encloses 41 = .ok (.lload_n 2, 1) := by decide +kernel
theorem dX8_encloses_42 : decode cX8_encloses 42 = .ok (.lconst 0, 1) := by decide +kernel
theorem dX8_encloses_43 : decode cX8_encloses 43 = .ok (.lcmp, 1) := by decide +kernel
theorem dX8_encloses_44 : decode cX8_encloses 44 = .ok (.ifCond .eq 98, 3) := by decide +kernel
theorem dX8_encloses_47 : decode cX8_encloses 47 = .ok (.aload_n 0, 1) := by decide +kernel
theorem dX8_encloses_48 : decode cX8_encloses 48 = .ok (.lload_n 2, 1) := by decide +kernel
theorem dX8_encloses_49 : decode cX8_encloses 49 = .ok (.lload_n 2, 1) := by decide +kernel
theorem dX8_encloses_50 : decode cX8_encloses 50 = .ok (.invokestatic 117, 3) := by decide +kernel
theorem dX8_encloses_53 : decode cX8_encloses 53 = .ok (.invokevirtual 121, 3) := by decide +kernel
theorem dX8_encloses_56 : decode cX8_encloses 56 = .ok (.lstore 6, 2) := by decide +kernel
theorem dX8_encloses_58 : decode cX8_encloses 58 = .ok (.lload_n 2, 1) := by decide +kernel
theorem dX8_encloses_59 : decode cX8_encloses 59 = .ok (.lload 6, 2) := by decide +kernel
theorem dX8_encloses_61 : decode cX8_encloses 61 = .ok (.ldc2_w 95, 3) := by decide +kernel
theorem dX8_encloses_64 : decode cX8_encloses 64 = .ok (.lxor, 1) := by decide +kernel
theorem dX8_encloses_65 : decode cX8_encloses 65 = .ok (.land, 1) := by decide +kernel
theorem dX8_encloses_66 : decode cX8_encloses 66 = .ok (.lstore_n 2, 1) := by decide +kernel
theorem dX8_encloses_67 : decode cX8_encloses 67 = .ok (.lload 6, 2) := by decide +kernel
theorem dX8_encloses_69 : decode cX8_encloses 69 = .ok (.lload 4, 2) := by decide +kernel
theorem dX8_encloses_71 : decode cX8_encloses 71 = .ok (.land, 1) := by decide +kernel
theorem dX8_encloses_72 : decode cX8_encloses 72 = .ok (.lconst 0, 1) := by decide +kernel
theorem dX8_encloses_73 : decode cX8_encloses 73 = .ok (.lcmp, 1) := by decide +kernel
theorem dX8_encloses_74 : decode cX8_encloses 74 = .ok (.ifCond .ne 11, 3) := by decide +kernel
theorem dX8_encloses_77 : decode cX8_encloses 77 = .ok (.lload 6, 2) := by decide +kernel
theorem dX8_encloses_79 : decode cX8_encloses 79 = .ok (.invokestatic 125, 3) := by decide +kernel
theorem dX8_encloses_82 : decode cX8_encloses 82 = .ok (.goto 4, 3) := by decide +kernel
theorem dX8_encloses_85 : decode cX8_encloses 85 = .ok (.iconst 0, 1) := by decide +kernel
theorem dX8_encloses_86 : decode cX8_encloses 86 = .ok (.istore 8, 2) := by decide +kernel
theorem dX8_encloses_88 : decode cX8_encloses 88 = .ok (.iconst 0, 1) := by decide +kernel
theorem dX8_encloses_89 : decode cX8_encloses 89 = .ok (.istore 9, 2) := by decide +kernel
theorem dX8_encloses_91 : decode cX8_encloses 91 = .ok (.iload 9, 2) := by decide +kernel
theorem dX8_encloses_93 : decode cX8_encloses 93 = .ok (.aload_n 0, 1) := by decide +kernel
theorem dX8_encloses_94 : decode cX8_encloses 94 = .ok (.invokevirtual 76, 3) := by decide +kernel
theorem dX8_encloses_97 : decode cX8_encloses 97 = .ok (.if_icmp .ge 42, 3) := by decide +kernel
theorem dX8_encloses_100 : decode cX8_encloses 100 = .ok (.aload_n 0, 1) := by decide +kernel
theorem dX8_encloses_101 : decode cX8_encloses 101 = .ok (.getfield 53, 3) := by decide +kernel
theorem dX8_encloses_104 : decode cX8_encloses 104 = .ok (.bipush 49, 2) := by decide +kernel
theorem dX8_encloses_106 : decode cX8_encloses 106 = .ok (.iload_n 1, 1) := by decide +kernel
theorem dX8_encloses_107 : decode cX8_encloses 107 = .ok (.imul, 1) := by decide +kernel
theorem dX8_encloses_108 : decode cX8_encloses 108 = .ok (.iload 9, 2) := by decide +kernel
theorem dX8_encloses_110 : decode cX8_encloses 110 = .ok (.iadd, 1) := by decide +kernel
theorem dX8_encloses_111 : decode cX8_encloses 111 = .ok (.dup2, 1) := by decide +kernel
theorem dX8_encloses_112 : decode cX8_encloses 112 = .ok (.iaload, 1) := by decide +kernel
theorem dX8_encloses_113 : decode cX8_encloses 113 = .ok (.lload 6, 2) := by decide +kernel
theorem dX8_encloses_115 : decode cX8_encloses 115 = .ok (.iload 9, 2) := by decide +kernel
theorem dX8_encloses_117 : decode cX8_encloses 117 = .ok (.lshr, 1) := by decide +kernel
theorem dX8_encloses_118 : decode cX8_encloses 118 = .ok (.lconst 1, 1) := by decide +kernel
theorem dX8_encloses_119 : decode cX8_encloses 119 = .ok (.land, 1) := by decide +kernel
theorem dX8_encloses_120 : decode cX8_encloses 120 = .ok (.lconst 1, 1) := by decide +kernel
theorem dX8_encloses_121 : decode cX8_encloses 121 = .ok (.lcmp, 1) := by decide +kernel
theorem dX8_encloses_122 : decode cX8_encloses 122 = .ok (.ifCond .ne 8, 3) := by decide +kernel
theorem dX8_encloses_125 : decode cX8_encloses 125 = .ok (.iload 8, 2) := by decide +kernel
theorem dX8_encloses_127 : decode cX8_encloses 127 = .ok (.goto 4, 3) := by decide +kernel
theorem dX8_encloses_130 : decode cX8_encloses 130 = .ok (.iconst 0, 1) := by decide +kernel
theorem dX8_encloses_131 : decode cX8_encloses 131 = .ok (.iadd, 1) := by decide +kernel
theorem dX8_encloses_132 : decode cX8_encloses 132 = .ok (.iastore, 1) := by decide +kernel
theorem dX8_encloses_133 : decode cX8_encloses 133 = .ok (.iinc 9 1, 3) := by decide +kernel
theorem dX8_encloses_136 : decode cX8_encloses 136 = .ok (.goto (-45), 3) := by decide +kernel
theorem dX8_encloses_139 : decode cX8_encloses 139 = .ok (.goto (-98), 3) := by decide +kernel
theorem dX8_encloses_142 : decode cX8_encloses 142 = .ok (.return_, 1) := by decide +kernel
theorem dX8_wave_0 : decode cX8_wave 0 = .ok (.aload_n 0, 1) := by decide +kernel
theorem dX8_wave_1 : decode cX8_wave 1 = .ok (.iconst 0, 1) := by decide +kernel
theorem dX8_wave_2 : decode cX8_wave 2 = .ok (.invokevirtual 128, 3) := by decide +kernel
theorem dX8_wave_5 : decode cX8_wave 5 = .ok (.aload_n 0, 1) := by decide +kernel
theorem dX8_wave_6 : decode cX8_wave 6 = .ok (.iconst 1, 1) := by decide +kernel
theorem dX8_wave_7 : decode cX8_wave 7 = .ok (.invokevirtual 128, 3) := by decide +kernel
theorem dX8_wave_10 : decode cX8_wave 10 = .ok (.iconst 0, 1) := by decide +kernel
theorem dX8_wave_11 : decode cX8_wave 11 = .ok (.istore_n 2, 1) := by decide +kernel
theorem dX8_wave_12 : decode cX8_wave 12 = .ok (.iconst 0, 1) := by decide +kernel
theorem dX8_wave_13 : decode cX8_wave 13 = .ok (.istore_n 3, 1) := by decide +kernel
theorem dX8_wave_14 : decode cX8_wave 14 = .ok (.iload_n 3, 1) := by decide +kernel
theorem dX8_wave_15 : decode cX8_wave 15 = .ok (.aload_n 0, 1) := by decide +kernel
theorem dX8_wave_16 : decode cX8_wave 16 = .ok (.invokevirtual 76, 3) := by decide +kernel
theorem dX8_wave_19 : decode cX8_wave 19 = .ok (.if_icmp .ge 97, 3) := by decide +kernel
theorem dX8_wave_22 : decode cX8_wave 22 = .ok (.aload_n 0, 1) := by decide +kernel
theorem dX8_wave_23 : decode cX8_wave 23 = .ok (.getfield 53, 3) := by decide +kernel
theorem dX8_wave_26 : decode cX8_wave 26 = .ok (.iload_n 3, 1) := by decide +kernel
theorem dX8_wave_27 : decode cX8_wave 27 = .ok (.iaload, 1) := by decide +kernel
theorem dX8_wave_28 : decode cX8_wave 28 = .ok (.istore 4, 2) := by decide +kernel
theorem dX8_wave_30 : decode cX8_wave 30 = .ok (.aload_n 0, 1) := by decide +kernel
theorem dX8_wave_31 : decode cX8_wave 31 = .ok (.getfield 53, 3) := by decide +kernel
theorem dX8_wave_34 : decode cX8_wave 34 = .ok (.bipush 49, 2) := by decide +kernel
theorem dX8_wave_36 : decode cX8_wave 36 = .ok (.iload_n 3, 1) := by decide +kernel
theorem dX8_wave_37 : decode cX8_wave 37 = .ok (.iadd, 1) := by decide +kernel
theorem dX8_wave_38 : decode cX8_wave 38 = .ok (.iaload, 1) := by decide +kernel
theorem dX8_wave_39 : decode cX8_wave 39 = .ok (.istore 5, 2) := by decide +kernel
theorem dX8_wave_41 : decode cX8_wave 41 = .ok (.iload 4, 2) := by decide +kernel
theorem dX8_wave_43 : decode cX8_wave 43 = .ok (.iload 5, 2) := by decide +kernel
theorem dX8_wave_45 : decode cX8_wave 45 = .ok (.if_icmp .ne 6, 3) := by decide +kernel
theorem dX8_wave_48 : decode cX8_wave 48 = .ok (.goto 62, 3) := by decide +kernel
theorem dX8_wave_51 : decode cX8_wave 51 = .ok (.iload 4, 2) := by decide +kernel
theorem dX8_wave_53 : decode cX8_wave 53 = .ok (.iload 5, 2) := by decide +kernel
theorem dX8_wave_55 : decode cX8_wave 55 = .ok (.if_icmp .le 7, 3) := by decide +kernel
theorem dX8_wave_58 : decode cX8_wave 58 = .ok (.iconst 0, 1) := by decide +kernel
theorem dX8_wave_59 : decode cX8_wave 59 = .ok (.goto 4, 3) := by decide +kernel
theorem dX8_wave_62 : decode cX8_wave 62 = .ok (.iconst 1, 1) := by decide +kernel
theorem dX8_wave_63 : decode cX8_wave 63 = .ok (.istore 6, 2) := by decide +kernel
theorem dX8_wave_65 : decode cX8_wave 65 = .ok (.aload_n 0, 1) := by decide +kernel
theorem dX8_wave_66 : decode cX8_wave 66 = .ok (.getfield 20, 3) := by decide +kernel
theorem dX8_wave_69 : decode cX8_wave 69 = .ok (.sipush 147, 3) := by decide +kernel
theorem dX8_wave_72 : decode cX8_wave 72 = .ok (.iload 6, 2) := by decide +kernel
theorem dX8_wave_74 : decode cX8_wave 74 = .ok (.iadd, 1) := by decide +kernel
theorem dX8_wave_75 : decode cX8_wave 75 = .ok (.dup2, 1) := by decide +kernel
theorem dX8_wave_76 : decode cX8_wave 76 = .ok (.iaload, 1) := by decide +kernel
theorem dX8_wave_77 : decode cX8_wave 77 = .ok (.aload_n 0, 1) := by decide +kernel
theorem dX8_wave_78 : decode cX8_wave 78 = .ok (.getfield 20, 3) := by decide +kernel
theorem dX8_wave_81 : decode cX8_wave 81 = .ok (.iload_n 3, 1) := by decide +kernel
theorem dX8_wave_82 : decode cX8_wave 82 = .ok (.iaload, 1) := by decide +kernel
theorem dX8_wave_83 : decode cX8_wave 83 = .ok (.iconst 2, 1) := by decide +kernel
theorem dX8_wave_84 : decode cX8_wave 84 = .ok (.iload 6, 2) := by decide +kernel
theorem dX8_wave_86 : decode cX8_wave 86 = .ok (.isub, 1) := by decide +kernel
theorem dX8_wave_87 : decode cX8_wave 87 = .ok (.if_icmp .ne 7, 3) := by decide +kernel
theorem dX8_wave_90 : decode cX8_wave 90 = .ok (.iconst 1, 1) := by decide +kernel
theorem dX8_wave_91 : decode cX8_wave 91 = .ok (.goto 4, 3) := by decide +kernel
theorem dX8_wave_94 : decode cX8_wave 94 = .ok (.iconst 0, 1) := by decide +kernel
theorem dX8_wave_95 : decode cX8_wave 95 = .ok (.iadd, 1) := by decide +kernel
theorem dX8_wave_96 : decode cX8_wave 96 = .ok (.iastore, 1) := by decide +kernel
theorem dX8_wave_97 : decode cX8_wave 97 = .ok (.aload_n 0, 1) := by decide +kernel
theorem dX8_wave_98 : decode cX8_wave 98 = .ok (.iload_n 3, 1) := by decide +kernel
theorem dX8_wave_99 : decode cX8_wave 99 = .ok (.iconst 3, 1) := by decide +kernel
theorem dX8_wave_100 : decode cX8_wave 100 = .ok (.iload 6, 2) := by decide +kernel
theorem dX8_wave_102 : decode cX8_wave 102 = .ok (.iadd, 1) := by decide +kernel
theorem dX8_wave_103 : decode cX8_wave 103 = .ok (.iload_n 1, 1) := by decide +kernel
theorem dX8_wave_104 : decode cX8_wave 104 = .ok (.invokevirtual 131, 3) := by decide +kernel
theorem dX8_wave_107 : decode cX8_wave 107 = .ok (.iinc 2 1, 3) := by decide +kernel
theorem dX8_wave_110 : decode cX8_wave 110 = .ok (.iinc 3 1, 3) := by decide +kernel
theorem dX8_wave_113 : decode cX8_wave 113 = .ok (.goto (-99), 3) := by decide +kernel
theorem dX8_wave_116 : decode cX8_wave 116 = .ok (.iload_n 2, 1) := by decide +kernel
theorem dX8_wave_117 : decode cX8_wave 117 = .ok (.ireturn, 1) := by decide +kernel
theorem dX8_plays_0 : decode cX8_plays 0 = .ok (.aload_n 0, 1) := by decide +kernel
theorem dX8_plays_1 : decode cX8_plays 1 = .ok (.iload_n 1, 1) := by decide +kernel
theorem dX8_plays_2 : decode cX8_plays 2 = .ok (.iload_n 2, 1) := by decide +kernel
theorem dX8_plays_3 : decode cX8_plays 3 = .ok (.if_icmp .ne 12, 3) := by decide +kernel
theorem dX8_plays_6 : decode cX8_plays 6 = .ok (.iload_n 1, 1) := by decide +kernel
theorem dX8_plays_7 : decode cX8_plays 7 = .ok (.iconst (-1), 1) := by decide +kernel
theorem dX8_plays_8 : decode cX8_plays 8 = .ok (.if_icmp .eq 7, 3) := by decide +kernel
theorem dX8_plays_11 : decode cX8_plays 11 = .ok (.iconst 1, 1) := by decide +kernel
theorem dX8_plays_12 : decode cX8_plays 12 = .ok (.goto 4, 3) := by decide +kernel
theorem dX8_plays_15 : decode cX8_plays 15 = .ok (.iconst 0, 1) := by decide +kernel
theorem dX8_plays_16 : decode cX8_plays 16 = .ok (.putfield 135, 3) := by decide +kernel
theorem dX8_plays_19 : decode cX8_plays 19 = .ok (.aload_n 0, 1) := by decide +kernel
theorem dX8_plays_20 : decode cX8_plays 20 = .ok (.getfield 135, 3) := by decide +kernel
theorem dX8_plays_23 : decode cX8_plays 23 = .ok (.iconst 1, 1) := by decide +kernel
theorem dX8_plays_24 : decode cX8_plays 24 = .ok (.if_icmp .ne 75, 3) := by decide +kernel
theorem dX8_plays_27 : decode cX8_plays 27 = .ok (.aload_n 0, 1) := by decide +kernel
theorem dX8_plays_28 : decode cX8_plays 28 = .ok (.iconst 0, 1) := by decide +kernel
theorem dX8_plays_29 : decode cX8_plays 29 = .ok (.invokevirtual 138, 3) := by decide +kernel
theorem dX8_plays_32 : decode cX8_plays 32 = .ok (.istore_n 3, 1) := by decide +kernel
theorem dX8_plays_33 : decode cX8_plays 33 = .ok (.aload_n 0, 1) := by decide +kernel
theorem dX8_plays_34 : decode cX8_plays 34 = .ok (.iconst 1, 1) := by decide +kernel
theorem dX8_plays_35 : decode cX8_plays 35 = .ok (.invokevirtual 138, 3) := by decide +kernel
theorem dX8_plays_38 : decode cX8_plays 38 = .ok (.istore 4, 2) := by decide +kernel
theorem dX8_plays_40 : decode cX8_plays 40 = .ok (.aload_n 0, 1) := by decide +kernel
theorem dX8_plays_41 : decode cX8_plays 41 = .ok (.getfield 88, 3) := by decide +kernel
theorem dX8_plays_44 : decode cX8_plays 44 = .ok (.ifCond .eq 17, 3) := by decide +kernel
theorem dX8_plays_47 : decode cX8_plays 47 = .ok (.aload_n 0, 1) := by decide +kernel
theorem dX8_plays_48 : decode cX8_plays 48 = .ok (.getfield 88, 3) := by decide +kernel
theorem dX8_plays_51 : decode cX8_plays 51 = .ok (.iconst 2, 1) := by decide +kernel
theorem dX8_plays_52 : decode cX8_plays 52 = .ok (.if_icmp .ne 19, 3) := by decide +kernel
theorem dX8_plays_55 : decode cX8_plays 55 = .ok (.iload_n 3, 1) := by decide +kernel
theorem dX8_plays_56 : decode cX8_plays 56 = .ok (.iload 4, 2) := by decide +kernel
theorem dX8_plays_58 : decode cX8_plays 58 = .ok (.if_icmp .ne 13, 3) := by decide +kernel
theorem dX8_plays_61 : decode cX8_plays 61 = .ok (.aload_n 0, 1) := by decide +kernel
theorem dX8_plays_62 : decode cX8_plays 62 = .ok (.iload_n 1, 1) := by decide +kernel
theorem dX8_plays_63 : decode cX8_plays 63 = .ok (.iconst 5, 1) := by decide +kernel
theorem dX8_plays_64 : decode cX8_plays 64 = .ok (.iconst (-1), 1) := by decide +kernel
theorem dX8_plays_65 : decode cX8_plays 65 = .ok (.invokevirtual 131, 3) := by decide +kernel
theorem dX8_plays_68 : decode cX8_plays 68 = .ok (.goto 28, 3) := by decide +kernel
theorem dX8_plays_71 : decode cX8_plays 71 = .ok (.aload_n 0, 1) := by decide +kernel
theorem dX8_plays_72 : decode cX8_plays 72 = .ok (.getfield 88, 3) := by decide +kernel
theorem dX8_plays_75 : decode cX8_plays 75 = .ok (.iconst 2, 1) := by decide +kernel
theorem dX8_plays_76 : decode cX8_plays 76 = .ok (.if_icmp .ne 20, 3) := by decide +kernel
theorem dX8_plays_79 : decode cX8_plays 79 = .ok (.aload_n 0, 1) := by decide +kernel
theorem dX8_plays_80 : decode cX8_plays 80 = .ok (.iload_n 1, 1) := by decide +kernel
theorem dX8_plays_81 : decode cX8_plays 81 = .ok (.iload_n 3, 1) := by decide +kernel
theorem dX8_plays_82 : decode cX8_plays 82 = .ok (.iload 4, 2) := by decide +kernel
theorem dX8_plays_84 : decode cX8_plays 84 = .ok (.if_icmp .ge 7, 3) := by decide +kernel
theorem dX8_plays_87 : decode cX8_plays 87 = .ok (.iconst 1, 1) := by decide +kernel
theorem dX8_plays_88 : decode cX8_plays 88 = .ok (.goto 4, 3) := by decide +kernel
theorem dX8_plays_91 : decode cX8_plays 91 = .ok (.iconst 2, 1) := by decide +kernel
theorem dX8_plays_92 : decode cX8_plays 92 = .ok (.iconst (-1), 1) := by decide +kernel
theorem dX8_plays_93 : decode cX8_plays 93 = .ok (.invokevirtual 131, 3) := by decide +kernel
theorem dX8_plays_96 : decode cX8_plays 96 = .ok (.goto 27, 3) := by decide +kernel
theorem dX8_plays_99 : decode cX8_plays 99 = .ok (.iload_n 1, 1) := by decide +kernel
theorem dX8_plays_100 : decode cX8_plays 100 = .ok (.iconst (-1), 1) := by decide +kernel
theorem dX8_plays_101 : decode cX8_plays 101 = .ok (.if_icmp .eq 10, 3) := by decide +kernel
theorem dX8_plays_104 : decode cX8_plays 104 = .ok (.aload_n 0, 1) := by decide +kernel
theorem dX8_plays_105 : decode cX8_plays 105 = .ok (.iload_n 1, 1) := by decide +kernel
theorem dX8_plays_106 : decode cX8_plays 106 = .ok (.iconst 1, 1) := by decide +kernel
theorem dX8_plays_107 : decode cX8_plays 107 = .ok (.iconst (-1), 1) := by decide +kernel
theorem dX8_plays_108 : decode cX8_plays 108 = .ok (.invokevirtual 131, 3) := by decide +kernel
theorem dX8_plays_111 : decode cX8_plays 111 = .ok (.iload_n 2, 1) := by decide +kernel
theorem dX8_plays_112 : decode cX8_plays 112 = .ok (.iconst (-1), 1) := by decide +kernel
theorem dX8_plays_113 : decode cX8_plays 113 = .ok (.if_icmp .eq 10, 3) := by decide +kernel
theorem dX8_plays_116 : decode cX8_plays 116 = .ok (.aload_n 0, 1) := by decide +kernel
theorem dX8_plays_117 : decode cX8_plays 117 = .ok (.iload_n 2, 1) := by decide +kernel
theorem dX8_plays_118 : decode cX8_plays 118 = .ok (.iconst 2, 1) := by decide +kernel
theorem dX8_plays_119 : decode cX8_plays 119 = .ok (.iconst (-1), 1) := by decide +kernel
theorem dX8_plays_120 : decode cX8_plays 120 = .ok (.invokevirtual 131, 3) := by decide +kernel
theorem dX8_plays_123 : decode cX8_plays 123 = .ok (.aload_n 0, 1) := by decide +kernel
theorem dX8_plays_124 : decode cX8_plays 124 = .ok (.getfield 20, 3) := by decide +kernel
theorem dX8_plays_127 : decode cX8_plays 127 = .ok (.sipush 149, 3) := by decide +kernel
theorem dX8_plays_130 : decode cX8_plays 130 = .ok (.dup2, 1) := by decide +kernel
theorem dX8_plays_131 : decode cX8_plays 131 = .ok (.iaload, 1) := by decide +kernel
theorem dX8_plays_132 : decode cX8_plays 132 = .ok (.iload_n 1, 1) := by decide +kernel
theorem dX8_plays_133 : decode cX8_plays 133 = .ok (.iconst (-1), 1) := by decide +kernel
theorem dX8_plays_134 : decode cX8_plays 134 = .ok (.if_icmp .ne 7, 3) := by decide +kernel
theorem dX8_plays_137 : decode cX8_plays 137 = .ok (.iconst 1, 1) := by decide +kernel
theorem dX8_plays_138 : decode cX8_plays 138 = .ok (.goto 4, 3) := by decide +kernel
theorem dX8_plays_141 : decode cX8_plays 141 = .ok (.iconst 0, 1) := by decide +kernel
theorem dX8_plays_142 : decode cX8_plays 142 = .ok (.iadd, 1) := by decide +kernel
theorem dX8_plays_143 : decode cX8_plays 143 = .ok (.iastore, 1) := by decide +kernel
theorem dX8_plays_144 : decode cX8_plays 144 = .ok (.aload_n 0, 1) := by decide +kernel
theorem dX8_plays_145 : decode cX8_plays 145 = .ok (.getfield 20, 3) := by decide +kernel
theorem dX8_plays_148 : decode cX8_plays 148 = .ok (.sipush 150, 3) := by decide +kernel
theorem dX8_plays_151 : decode cX8_plays 151 = .ok (.dup2, 1) := by decide +kernel
theorem dX8_plays_152 : decode cX8_plays 152 = .ok (.iaload, 1) := by decide +kernel
theorem dX8_plays_153 : decode cX8_plays 153 = .ok (.iload_n 2, 1) := by decide +kernel
theorem dX8_plays_154 : decode cX8_plays 154 = .ok (.iconst (-1), 1) := by decide +kernel
theorem dX8_plays_155 : decode cX8_plays 155 = .ok (.if_icmp .ne 7, 3) := by decide +kernel
theorem dX8_plays_158 : decode cX8_plays 158 = .ok (.iconst 1, 1) := by decide +kernel
theorem dX8_plays_159 : decode cX8_plays 159 = .ok (.goto 4, 3) := by decide +kernel
theorem dX8_plays_162 : decode cX8_plays 162 = .ok (.iconst 0, 1) := by decide +kernel
theorem dX8_plays_163 : decode cX8_plays 163 = .ok (.iadd, 1) := by decide +kernel
theorem dX8_plays_164 : decode cX8_plays 164 = .ok (.iastore, 1) := by decide +kernel
theorem dX8_plays_165 : decode cX8_plays 165 = .ok (.aload_n 0, 1) := by decide +kernel
theorem dX8_plays_166 : decode cX8_plays 166 = .ok (.getfield 20, 3) := by decide +kernel
theorem dX8_plays_169 : decode cX8_plays 169 = .ok (.sipush 151, 3) := by decide +kernel
theorem dX8_plays_172 : decode cX8_plays 172 = .ok (.dup2, 1) := by decide +kernel
theorem dX8_plays_173 : decode cX8_plays 173 = .ok (.iaload, 1) := by decide +kernel
theorem dX8_plays_174 : decode cX8_plays 174 = .ok (.aload_n 0, 1) := by decide +kernel
theorem dX8_plays_175 : decode cX8_plays 175 = .ok (.getfield 135, 3) := by decide +kernel
theorem dX8_plays_178 : decode cX8_plays 178 = .ok (.iadd, 1) := by decide +kernel
theorem dX8_plays_179 : decode cX8_plays 179 = .ok (.iastore, 1) := by decide +kernel
theorem dX8_plays_180 : decode cX8_plays 180 = .ok (.aload_n 0, 1) := by decide +kernel
theorem dX8_plays_181 : decode cX8_plays 181 = .ok (.iconst 0, 1) := by decide +kernel
theorem dX8_plays_182 : decode cX8_plays 182 = .ok (.putfield 141, 3) := by decide +kernel
theorem dX8_plays_185 : decode cX8_plays 185 = .ok (.aload_n 0, 1) := by decide +kernel
theorem dX8_plays_186 : decode cX8_plays 186 = .ok (.iconst 0, 1) := by decide +kernel
theorem dX8_plays_187 : decode cX8_plays 187 = .ok (.putfield 144, 3) := by decide +kernel
theorem dX8_plays_190 : decode cX8_plays 190 = .ok (.iconst 1, 1) := by decide +kernel
theorem dX8_plays_191 : decode cX8_plays 191 = .ok (.istore_n 3, 1) := by decide +kernel
theorem dX8_plays_192 : decode cX8_plays 192 = .ok (.iload_n 3, 1) := by decide +kernel
theorem dX8_plays_193 : decode cX8_plays 193 = .ok (.ifCond .eq 75, 3) := by decide +kernel
theorem dX8_plays_196 : decode cX8_plays 196 = .ok (.aload_n 0, 1) := by decide +kernel
theorem dX8_plays_197 : decode cX8_plays 197 = .ok (.getfield 141, 3) := by decide +kernel
theorem dX8_plays_200 : decode cX8_plays 200 = .ok (.bipush 8, 2) := by decide +kernel
theorem dX8_plays_202 : decode cX8_plays 202 = .ok (.if_icmp .ge 66, 3) := by decide +kernel
theorem dX8_plays_205 : decode cX8_plays 205 = .ok (.aload_n 0, 1) := by decide +kernel
theorem dX8_plays_206 : decode cX8_plays 206 = .ok (.aload_n 0, 1) := by decide +kernel
theorem dX8_plays_207 : decode cX8_plays 207 = .ok (.getfield 141, 3) := by decide +kernel
theorem dX8_plays_210 : decode cX8_plays 210 = .ok (.invokevirtual 147, 3) := by decide +kernel
theorem dX8_plays_213 : decode cX8_plays 213 = .ok (.istore 4, 2) := by decide +kernel
theorem dX8_plays_215 : decode cX8_plays 215 = .ok (.iload 4, 2) := by decide +kernel
theorem dX8_plays_217 : decode cX8_plays 217 = .ok (.ifCond .le 7, 3) := by decide +kernel
theorem dX8_plays_220 : decode cX8_plays 220 = .ok (.iconst 1, 1) := by decide +kernel
theorem dX8_plays_221 : decode cX8_plays 221 = .ok (.goto 4, 3) := by decide +kernel
theorem dX8_plays_224 : decode cX8_plays 224 = .ok (.iconst 0, 1) := by decide +kernel
theorem dX8_plays_225 : decode cX8_plays 225 = .ok (.istore_n 3, 1) := by decide +kernel
theorem dX8_plays_226 : decode cX8_plays 226 = .ok (.iload_n 3, 1) := by decide +kernel
theorem dX8_plays_227 : decode cX8_plays 227 = .ok (.ifCond .ne 6, 3) := by decide +kernel
theorem dX8_plays_230 : decode cX8_plays 230 = .ok (.goto (-38), 3) := by decide +kernel
theorem dX8_plays_233 : decode cX8_plays 233 = .ok (.aload_n 0, 1) := by decide +kernel
theorem dX8_plays_234 : decode cX8_plays 234 = .ok (.getfield 56, 3) := by decide +kernel
theorem dX8_plays_237 : decode cX8_plays 237 = .ok (.aload_n 0, 1) := by decide +kernel
theorem dX8_plays_238 : decode cX8_plays 238 = .ok (.getfield 141, 3) := by decide +kernel
theorem dX8_plays_241 : decode cX8_plays 241 = .ok (.iload 4, 2) := by decide +kernel
theorem dX8_plays_243 : decode cX8_plays 243 = .ok (.iastore, 1) := by decide +kernel
theorem dX8_plays_244 : decode cX8_plays 244 = .ok (.aload_n 0, 1) := by decide +kernel
theorem dX8_plays_245 : decode cX8_plays 245 = .ok (.dup, 1) := by decide +kernel
theorem dX8_plays_246 : decode cX8_plays 246 = .ok (.getfield 144, 3) := by decide +kernel
theorem dX8_plays_249 : decode cX8_plays 249 = .ok (.iload 4, 2) := by decide +kernel
theorem dX8_plays_251 : decode cX8_plays 251 = .ok (.iadd, 1) := by decide +kernel
theorem dX8_plays_252 : decode cX8_plays 252 = .ok (.putfield 144, 3) := by decide +kernel
theorem dX8_plays_255 : decode cX8_plays 255 = .ok (.aload_n 0, 1) := by decide +kernel
theorem dX8_plays_256 : decode cX8_plays 256 = .ok (.dup, 1) := by decide +kernel
theorem dX8_plays_257 : decode cX8_plays 257 = .ok (.getfield 141, 3) := by decide +kernel
theorem dX8_plays_260 : decode cX8_plays 260 = .ok (.iconst 1, 1) := by decide +kernel
theorem dX8_plays_261 : decode cX8_plays 261 = .ok (.iadd, 1) := by decide +kernel
theorem dX8_plays_262 : decode cX8_plays 262 = .ok (.putfield 141, 3) := by decide +kernel
theorem dX8_plays_265 : decode cX8_plays 265 = .ok (.goto (-73), 3) := by decide +kernel
theorem dX8_plays_268 : decode cX8_plays 268 = .ok (.aload_n 0, 1) := by decide +kernel
theorem dX8_plays_269 : decode cX8_plays 269 = .ok (.getfield 20, 3) := by decide +kernel
theorem dX8_plays_272 : decode cX8_plays 272 = .ok (.sipush 152, 3) := by decide +kernel
theorem dX8_plays_275 : decode cX8_plays 275 = .ok (.dup2, 1) := by decide +kernel
theorem dX8_plays_276 : decode cX8_plays 276 = .ok (.iaload, 1) := by decide +kernel
theorem dX8_plays_277 : decode cX8_plays 277 = .ok (.aload_n 0, 1) := by decide +kernel
theorem dX8_plays_278 : decode cX8_plays 278 = .ok (.getfield 141, 3) := by decide +kernel
theorem dX8_plays_281 : decode cX8_plays 281 = .ok (.iadd, 1) := by decide +kernel
theorem dX8_plays_282 : decode cX8_plays 282 = .ok (.iastore, 1) := by decide +kernel
theorem dX8_plays_283 : decode cX8_plays 283 = .ok (.aload_n 0, 1) := by decide +kernel
theorem dX8_plays_284 : decode cX8_plays 284 = .ok (.getfield 20, 3) := by decide +kernel
theorem dX8_plays_287 : decode cX8_plays 287 = .ok (.sipush 154, 3) := by decide +kernel
theorem dX8_plays_290 : decode cX8_plays 290 = .ok (.iload_n 1, 1) := by decide +kernel
theorem dX8_plays_291 : decode cX8_plays 291 = .ok (.iconst (-1), 1) := by decide +kernel
theorem dX8_plays_292 : decode cX8_plays 292 = .ok (.if_icmp .ne 12, 3) := by decide +kernel
theorem dX8_plays_295 : decode cX8_plays 295 = .ok (.iload_n 2, 1) := by decide +kernel
theorem dX8_plays_296 : decode cX8_plays 296 = .ok (.iconst (-1), 1) := by decide +kernel
theorem dX8_plays_297 : decode cX8_plays 297 = .ok (.if_icmp .ne 7, 3) := by decide +kernel
theorem dX8_plays_300 : decode cX8_plays 300 = .ok (.iconst 1, 1) := by decide +kernel
theorem dX8_plays_301 : decode cX8_plays 301 = .ok (.goto 4, 3) := by decide +kernel
theorem dX8_plays_304 : decode cX8_plays 304 = .ok (.iconst 0, 1) := by decide +kernel
theorem dX8_plays_305 : decode cX8_plays 305 = .ok (.iastore, 1) := by decide +kernel
theorem dX8_plays_306 : decode cX8_plays 306 = .ok (.aload_n 0, 1) := by decide +kernel
theorem dX8_plays_307 : decode cX8_plays 307 = .ok (.getfield 20, 3) := by decide +kernel
theorem dX8_plays_310 : decode cX8_plays 310 = .ok (.sipush 153, 3) := by decide +kernel
theorem dX8_plays_313 : decode cX8_plays 313 = .ok (.dup2, 1) := by decide +kernel
theorem dX8_plays_314 : decode cX8_plays 314 = .ok (.iaload, 1) := by decide +kernel
theorem dX8_plays_315 : decode cX8_plays 315 = .ok (.iconst 1, 1) := by decide +kernel
theorem dX8_plays_316 : decode cX8_plays 316 = .ok (.iadd, 1) := by decide +kernel
theorem dX8_plays_317 : decode cX8_plays 317 = .ok (.iastore, 1) := by decide +kernel
theorem dX8_plays_318 : decode cX8_plays 318 = .ok (.return_, 1) := by decide +kernel
theorem dX8_mayChoose_0 : decode cX8_mayChoose 0 = .ok (.iload_n 1, 1) := by decide +kernel
theorem dX8_mayChoose_1 : decode cX8_mayChoose 1 = .ok (.iconst (-1), 1) := by decide +kernel
theorem dX8_mayChoose_2 : decode cX8_mayChoose 2 = .ok (.if_icmp .eq 12, 3) := by decide +kernel
theorem dX8_mayChoose_5 : decode cX8_mayChoose 5 = .ok (.aload_n 0, 1) := by decide +kernel
theorem dX8_mayChoose_6 : decode cX8_mayChoose 6 = .ok (.getfield 20, 3) := by decide +kernel
theorem dX8_mayChoose_9 : decode cX8_mayChoose 9 = .ok (.iload_n 1, 1) := by decide +kernel
theorem dX8_mayChoose_10 : decode cX8_mayChoose 10 = .ok (.iaload, 1) := by decide +kernel
theorem dX8_mayChoose_11 : decode cX8_mayChoose 11 = .ok (.ifCond .ne 7, 3) := by decide +kernel
theorem dX8_mayChoose_14 : decode cX8_mayChoose 14 = .ok (.iconst 1, 1) := by decide +kernel
theorem dX8_mayChoose_15 : decode cX8_mayChoose 15 = .ok (.goto 4, 3) := by decide +kernel
theorem dX8_mayChoose_18 : decode cX8_mayChoose 18 = .ok (.iconst 0, 1) := by decide +kernel
theorem dX8_mayChoose_19 : decode cX8_mayChoose 19 = .ok (.ireturn, 1) := by decide +kernel
theorem dX8_isChoice_0 : decode cX8_isChoice 0 = .ok (.iload_n 1, 1) := by decide +kernel
theorem dX8_isChoice_1 : decode cX8_isChoice 1 = .ok (.iconst (-1), 1) := by decide +kernel
theorem dX8_isChoice_2 : decode cX8_isChoice 2 = .ok (.if_icmp .eq 11, 3) := by decide +kernel
theorem dX8_isChoice_5 : decode cX8_isChoice 5 = .ok (.aload_n 0, 1) := by decide +kernel
theorem dX8_isChoice_6 : decode cX8_isChoice 6 = .ok (.iload_n 1, 1) := by decide +kernel
theorem dX8_isChoice_7 : decode cX8_isChoice 7 = .ok (.invokevirtual 150, 3) := by decide +kernel
theorem dX8_isChoice_10 : decode cX8_isChoice 10 = .ok (.ifCond .eq 7, 3) := by decide +kernel
theorem dX8_isChoice_13 : decode cX8_isChoice 13 = .ok (.iconst 1, 1) := by decide +kernel
theorem dX8_isChoice_14 : decode cX8_isChoice 14 = .ok (.goto 4, 3) := by decide +kernel
theorem dX8_isChoice_17 : decode cX8_isChoice 17 = .ok (.iconst 0, 1) := by decide +kernel
theorem dX8_isChoice_18 : decode cX8_isChoice 18 = .ok (.ireturn, 1) := by decide +kernel
theorem dX8_reports_0 : decode cX8_reports 0 = .ok (.aload_n 0, 1) := by decide +kernel
theorem dX8_reports_1 : decode cX8_reports 1 = .ok (.getfield 59, 3) := by decide +kernel
theorem dX8_reports_4 : decode cX8_reports 4 = .ok (.iconst 0, 1) := by decide +kernel
theorem dX8_reports_5 : decode cX8_reports 5 = .ok (.iconst 1, 1) := by decide +kernel
theorem dX8_reports_6 : decode cX8_reports 6 = .ok (.iastore, 1) := by decide +kernel
theorem dX8_reports_7 : decode cX8_reports 7 = .ok (.aload_n 0, 1) := by decide +kernel
theorem dX8_reports_8 : decode cX8_reports 8 = .ok (.getfield 62, 3) := by decide +kernel
theorem dX8_reports_11 : decode cX8_reports 11 = .ok (.iconst 0, 1) := by decide +kernel
theorem dX8_reports_12 : decode cX8_reports 12 = .ok (.aload_n 0, 1) := by decide +kernel
theorem dX8_reports_13 : decode cX8_reports 13 = .ok (.getfield 20, 3) := by decide +kernel
theorem dX8_reports_16 : decode cX8_reports 16 = .ok (.sipush 153, 3) := by decide +kernel
theorem dX8_reports_19 : decode cX8_reports 19 = .ok (.iaload, 1) := by decide +kernel
theorem dX8_reports_20 : decode cX8_reports 20 = .ok (.iastore, 1) := by decide +kernel
theorem dX8_reports_21 : decode cX8_reports 21 = .ok (.aload_n 0, 1) := by decide +kernel
theorem dX8_reports_22 : decode cX8_reports 22 = .ok (.getfield 59, 3) := by decide +kernel
theorem dX8_reports_25 : decode cX8_reports 25 = .ok (.iconst 1, 1) := by decide +kernel
theorem dX8_reports_26 : decode cX8_reports 26 = .ok (.iconst 2, 1) := by decide +kernel
theorem dX8_reports_27 : decode cX8_reports 27 = .ok (.iload_n 1, 1) := by decide +kernel
theorem dX8_reports_28 : decode cX8_reports 28 = .ok (.iadd, 1) := by decide +kernel
theorem dX8_reports_29 : decode cX8_reports 29 = .ok (.iastore, 1) := by decide +kernel
theorem dX8_reports_30 : decode cX8_reports 30 = .ok (.aload_n 0, 1) := by decide +kernel
theorem dX8_reports_31 : decode cX8_reports 31 = .ok (.getfield 62, 3) := by decide +kernel
theorem dX8_reports_34 : decode cX8_reports 34 = .ok (.iconst 1, 1) := by decide +kernel
theorem dX8_reports_35 : decode cX8_reports 35 = .ok (.iload_n 2, 1) := by decide +kernel
theorem dX8_reports_36 : decode cX8_reports 36 = .ok (.iastore, 1) := by decide +kernel
theorem dX8_reports_37 : decode cX8_reports 37 = .ok (.aload_n 0, 1) := by decide +kernel
theorem dX8_reports_38 : decode cX8_reports 38 = .ok (.getfield 59, 3) := by decide +kernel
theorem dX8_reports_41 : decode cX8_reports 41 = .ok (.iconst 2, 1) := by decide +kernel
theorem dX8_reports_42 : decode cX8_reports 42 = .ok (.bipush 10, 2) := by decide +kernel
theorem dX8_reports_44 : decode cX8_reports 44 = .ok (.aload_n 0, 1) := by decide +kernel
theorem dX8_reports_45 : decode cX8_reports 45 = .ok (.getfield 20, 3) := by decide +kernel
theorem dX8_reports_48 : decode cX8_reports 48 = .ok (.iload_n 2, 1) := by decide +kernel
theorem dX8_reports_49 : decode cX8_reports 49 = .ok (.iaload, 1) := by decide +kernel
theorem dX8_reports_50 : decode cX8_reports 50 = .ok (.iadd, 1) := by decide +kernel
theorem dX8_reports_51 : decode cX8_reports 51 = .ok (.iastore, 1) := by decide +kernel
theorem dX8_reports_52 : decode cX8_reports 52 = .ok (.aload_n 0, 1) := by decide +kernel
theorem dX8_reports_53 : decode cX8_reports 53 = .ok (.getfield 62, 3) := by decide +kernel
theorem dX8_reports_56 : decode cX8_reports 56 = .ok (.iconst 2, 1) := by decide +kernel
theorem dX8_reports_57 : decode cX8_reports 57 = .ok (.aload_n 0, 1) := by decide +kernel
theorem dX8_reports_58 : decode cX8_reports 58 = .ok (.getfield 20, 3) := by decide +kernel
theorem dX8_reports_61 : decode cX8_reports 61 = .ok (.bipush 49, 2) := by decide +kernel
theorem dX8_reports_63 : decode cX8_reports 63 = .ok (.iload_n 2, 1) := by decide +kernel
theorem dX8_reports_64 : decode cX8_reports 64 = .ok (.iadd, 1) := by decide +kernel
theorem dX8_reports_65 : decode cX8_reports 65 = .ok (.iaload, 1) := by decide +kernel
theorem dX8_reports_66 : decode cX8_reports 66 = .ok (.iastore, 1) := by decide +kernel
theorem dX8_reports_67 : decode cX8_reports 67 = .ok (.aload_n 0, 1) := by decide +kernel
theorem dX8_reports_68 : decode cX8_reports 68 = .ok (.iconst 3, 1) := by decide +kernel
theorem dX8_reports_69 : decode cX8_reports 69 = .ok (.putfield 154, 3) := by decide +kernel
theorem dX8_reports_72 : decode cX8_reports 72 = .ok (.aload_n 0, 1) := by decide +kernel
theorem dX8_reports_73 : decode cX8_reports 73 = .ok (.getfield 20, 3) := by decide +kernel
theorem dX8_reports_76 : decode cX8_reports 76 = .ok (.bipush 98, 2) := by decide +kernel
theorem dX8_reports_78 : decode cX8_reports 78 = .ok (.iload_n 2, 1) := by decide +kernel
theorem dX8_reports_79 : decode cX8_reports 79 = .ok (.iadd, 1) := by decide +kernel
theorem dX8_reports_80 : decode cX8_reports 80 = .ok (.iaload, 1) := by decide +kernel
theorem dX8_reports_81 : decode cX8_reports 81 = .ok (.ifCond .ge 4, 3) := by decide +kernel
theorem dX8_reports_84 : decode cX8_reports 84 = .ok (.return_, 1) := by decide +kernel
theorem dX8_reports_85 : decode cX8_reports 85 = .ok (.aload_n 0, 1) := by decide +kernel
theorem dX8_reports_86 : decode cX8_reports 86 = .ok (.getfield 59, 3) := by decide +kernel
theorem dX8_reports_89 : decode cX8_reports 89 = .ok (.iconst 3, 1) := by decide +kernel
theorem dX8_reports_90 : decode cX8_reports 90 = .ok (.bipush 20, 2) := by decide +kernel
theorem dX8_reports_92 : decode cX8_reports 92 = .ok (.aload_n 0, 1) := by decide +kernel
theorem dX8_reports_93 : decode cX8_reports 93 = .ok (.getfield 20, 3) := by decide +kernel
theorem dX8_reports_96 : decode cX8_reports 96 = .ok (.bipush 98, 2) := by decide +kernel
theorem dX8_reports_98 : decode cX8_reports 98 = .ok (.iload_n 2, 1) := by decide +kernel
theorem dX8_reports_99 : decode cX8_reports 99 = .ok (.iadd, 1) := by decide +kernel
theorem dX8_reports_100 : decode cX8_reports 100 = .ok (.iaload, 1) := by decide +kernel
theorem dX8_reports_101 : decode cX8_reports 101 = .ok (.iadd, 1) := by decide +kernel
theorem dX8_reports_102 : decode cX8_reports 102 = .ok (.iastore, 1) := by decide +kernel
theorem dX8_reports_103 : decode cX8_reports 103 = .ok (.aload_n 0, 1) := by decide +kernel
theorem dX8_reports_104 : decode cX8_reports 104 = .ok (.getfield 62, 3) := by decide +kernel
theorem dX8_reports_107 : decode cX8_reports 107 = .ok (.iconst 3, 1) := by decide +kernel
theorem dX8_reports_108 : decode cX8_reports 108 = .ok (.aload_n 0, 1) := by decide +kernel
theorem dX8_reports_109 : decode cX8_reports 109 = .ok (.getfield 35, 3) := by decide +kernel
theorem dX8_reports_112 : decode cX8_reports 112 = .ok (.bipush 8, 2) := by decide +kernel
theorem dX8_reports_114 : decode cX8_reports 114 = .ok (.aload_n 0, 1) := by decide +kernel
theorem dX8_reports_115 : decode cX8_reports 115 = .ok (.getfield 20, 3) := by decide +kernel
theorem dX8_reports_118 : decode cX8_reports 118 = .ok (.bipush 49, 2) := by decide +kernel
theorem dX8_reports_120 : decode cX8_reports 120 = .ok (.iload_n 2, 1) := by decide +kernel
theorem dX8_reports_121 : decode cX8_reports 121 = .ok (.iadd, 1) := by decide +kernel
theorem dX8_reports_122 : decode cX8_reports 122 = .ok (.iaload, 1) := by decide +kernel
theorem dX8_reports_123 : decode cX8_reports 123 = .ok (.imul, 1) := by decide +kernel
theorem dX8_reports_124 : decode cX8_reports 124 = .ok (.aload_n 0, 1) := by decide +kernel
theorem dX8_reports_125 : decode cX8_reports 125 = .ok (.getfield 20, 3) := by decide +kernel
theorem dX8_reports_128 : decode cX8_reports 128 = .ok (.bipush 98, 2) := by decide +kernel
theorem dX8_reports_130 : decode cX8_reports 130 = .ok (.iload_n 2, 1) := by decide +kernel
theorem dX8_reports_131 : decode cX8_reports 131 = .ok (.iadd, 1) := by decide +kernel
theorem dX8_reports_132 : decode cX8_reports 132 = .ok (.iaload, 1) := by decide +kernel
theorem dX8_reports_133 : decode cX8_reports 133 = .ok (.iadd, 1) := by decide +kernel
theorem dX8_reports_134 : decode cX8_reports 134 = .ok (.iaload, 1) := by decide +kernel
theorem dX8_reports_135 : decode cX8_reports 135 = .ok (.iastore, 1) := by decide +kernel
theorem dX8_reports_136 : decode cX8_reports 136 = .ok (.aload_n 0, 1) := by decide +kernel
theorem dX8_reports_137 : decode cX8_reports 137 = .ok (.iconst 4, 1) := by decide +kernel
theorem dX8_reports_138 : decode cX8_reports 138 = .ok (.putfield 154, 3) := by decide +kernel
theorem dX8_reports_141 : decode cX8_reports 141 = .ok (.return_, 1) := by decide +kernel
theorem dX8_goes_0 : decode cX8_goes 0 = .ok (.aload_n 0, 1) := by decide +kernel
theorem dX8_goes_1 : decode cX8_goes 1 = .ok (.iload_n 1, 1) := by decide +kernel
theorem dX8_goes_2 : decode cX8_goes 2 = .ok (.invokevirtual 157, 3) := by decide +kernel
theorem dX8_goes_5 : decode cX8_goes 5 = .ok (.ifCond .eq 11, 3) := by decide +kernel
theorem dX8_goes_8 : decode cX8_goes 8 = .ok (.aload_n 0, 1) := by decide +kernel
theorem dX8_goes_9 : decode cX8_goes 9 = .ok (.iload_n 2, 1) := by decide +kernel
theorem dX8_goes_10 : decode cX8_goes 10 = .ok (.invokevirtual 157, 3) := by decide +kernel
theorem dX8_goes_13 : decode cX8_goes 13 = .ok (.ifCond .ne 28, 3) := by decide +kernel
theorem dX8_goes_16 : decode cX8_goes 16 = .ok (.aload_n 0, 1) := by decide +kernel
theorem dX8_goes_17 : decode cX8_goes 17 = .ok (.iload_n 1, 1) := by decide +kernel
theorem dX8_goes_18 : decode cX8_goes 18 = .ok (.invokevirtual 157, 3) := by decide +kernel
theorem dX8_goes_21 : decode cX8_goes 21 = .ok (.ifCond .ne 12, 3) := by decide +kernel
theorem dX8_goes_24 : decode cX8_goes 24 = .ok (.aload_n 0, 1) := by decide +kernel
theorem dX8_goes_25 : decode cX8_goes 25 = .ok (.iconst 0, 1) := by decide +kernel
theorem dX8_goes_26 : decode cX8_goes 26 = .ok (.iload_n 1, 1) := by decide +kernel
theorem dX8_goes_27 : decode cX8_goes 27 = .ok (.invokevirtual 160, 3) := by decide +kernel
theorem dX8_goes_30 : decode cX8_goes 30 = .ok (.goto 9, 3) := by decide +kernel
theorem dX8_goes_33 : decode cX8_goes 33 = .ok (.aload_n 0, 1) := by decide +kernel
theorem dX8_goes_34 : decode cX8_goes 34 = .ok (.iconst 1, 1) := by decide +kernel
theorem dX8_goes_35 : decode cX8_goes 35 = .ok (.iload_n 2, 1) := by decide +kernel
theorem dX8_goes_36 : decode cX8_goes 36 = .ok (.invokevirtual 160, 3) := by decide +kernel
theorem dX8_goes_39 : decode cX8_goes 39 = .ok (.iconst 0, 1) := by decide +kernel
theorem dX8_goes_40 : decode cX8_goes 40 = .ok (.ireturn, 1) := by decide +kernel
theorem dX8_goes_41 : decode cX8_goes 41 = .ok (.aload_n 0, 1) := by decide +kernel
theorem dX8_goes_42 : decode cX8_goes 42 = .ok (.getfield 20, 3) := by decide +kernel
theorem dX8_goes_45 : decode cX8_goes 45 = .ok (.sipush 153, 3) := by decide +kernel
theorem dX8_goes_48 : decode cX8_goes 48 = .ok (.iaload, 1) := by decide +kernel
theorem dX8_goes_49 : decode cX8_goes 49 = .ok (.istore_n 3, 1) := by decide +kernel
theorem dX8_goes_50 : decode cX8_goes 50 = .ok (.iconst 0, 1) := by decide +kernel
theorem dX8_goes_51 : decode cX8_goes 51 = .ok (.istore 4, 2) := by decide +kernel
theorem dX8_goes_53 : decode cX8_goes 53 = .ok (.iload 4, 2) := by decide +kernel
theorem dX8_goes_55 : decode cX8_goes 55 = .ok (.sipush 155, 3) := by decide +kernel
theorem dX8_goes_58 : decode cX8_goes 58 = .ok (.if_icmp .ge 29, 3) := by decide +kernel
theorem dX8_goes_61 : decode cX8_goes 61 = .ok (.aload_n 0, 1) := by decide +kernel
theorem dX8_goes_62 : decode cX8_goes 62 = .ok (.getfield 29, 3) := by decide +kernel
theorem dX8_goes_65 : decode cX8_goes 65 = .ok (.sipush 155, 3) := by decide +kernel
theorem dX8_goes_68 : decode cX8_goes 68 = .ok (.iload_n 3, 1) := by decide +kernel
theorem dX8_goes_69 : decode cX8_goes 69 = .ok (.imul, 1) := by decide +kernel
theorem dX8_goes_70 : decode cX8_goes 70 = .ok (.iload 4, 2) := by decide +kernel
theorem dX8_goes_72 : decode cX8_goes 72 = .ok (.iadd, 1) := by decide +kernel
theorem dX8_goes_73 : decode cX8_goes 73 = .ok (.aload_n 0, 1) := by decide +kernel
theorem dX8_goes_74 : decode cX8_goes 74 = .ok (.getfield 20, 3) := by decide +kernel
theorem dX8_goes_77 : decode cX8_goes 77 = .ok (.iload 4, 2) := by decide +kernel
theorem dX8_goes_79 : decode cX8_goes 79 = .ok (.iaload, 1) := by decide +kernel
theorem dX8_goes_80 : decode cX8_goes 80 = .ok (.iastore, 1) := by decide +kernel
theorem dX8_goes_81 : decode cX8_goes 81 = .ok (.iinc 4 1, 3) := by decide +kernel
theorem dX8_goes_84 : decode cX8_goes 84 = .ok (.goto (-31), 3) := by decide +kernel
theorem dX8_goes_87 : decode cX8_goes 87 = .ok (.aload_n 0, 1) := by decide +kernel
theorem dX8_goes_88 : decode cX8_goes 88 = .ok (.iload_n 1, 1) := by decide +kernel
theorem dX8_goes_89 : decode cX8_goes 89 = .ok (.iload_n 2, 1) := by decide +kernel
theorem dX8_goes_90 : decode cX8_goes 90 = .ok (.invokevirtual 164, 3) := by decide +kernel
theorem dX8_goes_93 : decode cX8_goes 93 = .ok (.bipush 7, 2) := by decide +kernel
theorem dX8_goes_95 : decode cX8_goes 95 = .ok (.iload_n 3, 1) := by decide +kernel
theorem dX8_goes_96 : decode cX8_goes 96 = .ok (.imul, 1) := by decide +kernel
theorem dX8_goes_97 : decode cX8_goes 97 = .ok (.istore 4, 2) := by decide +kernel
theorem dX8_goes_99 : decode cX8_goes 99 = .ok (.aload_n 0, 1) := by decide +kernel
theorem dX8_goes_100 : decode cX8_goes 100 = .ok (.getfield 32, 3) := by decide +kernel
theorem dX8_goes_103 : decode cX8_goes 103 = .ok (.iload 4, 2) := by decide +kernel
theorem dX8_goes_105 : decode cX8_goes 105 = .ok (.iload_n 1, 1) := by decide +kernel
theorem dX8_goes_106 : decode cX8_goes 106 = .ok (.iastore, 1) := by decide +kernel
theorem dX8_goes_107 : decode cX8_goes 107 = .ok (.aload_n 0, 1) := by decide +kernel
theorem dX8_goes_108 : decode cX8_goes 108 = .ok (.getfield 32, 3) := by decide +kernel
theorem dX8_goes_111 : decode cX8_goes 111 = .ok (.iload 4, 2) := by decide +kernel
theorem dX8_goes_113 : decode cX8_goes 113 = .ok (.iconst 1, 1) := by decide +kernel
theorem dX8_goes_114 : decode cX8_goes 114 = .ok (.iadd, 1) := by decide +kernel
theorem dX8_goes_115 : decode cX8_goes 115 = .ok (.iload_n 2, 1) := by decide +kernel
theorem dX8_goes_116 : decode cX8_goes 116 = .ok (.iastore, 1) := by decide +kernel
theorem dX8_goes_117 : decode cX8_goes 117 = .ok (.aload_n 0, 1) := by decide +kernel
theorem dX8_goes_118 : decode cX8_goes 118 = .ok (.getfield 32, 3) := by decide +kernel
theorem dX8_goes_121 : decode cX8_goes 121 = .ok (.iload 4, 2) := by decide +kernel
theorem dX8_goes_123 : decode cX8_goes 123 = .ok (.iconst 2, 1) := by decide +kernel
theorem dX8_goes_124 : decode cX8_goes 124 = .ok (.iadd, 1) := by decide +kernel
theorem dX8_goes_125 : decode cX8_goes 125 = .ok (.aload_n 0, 1) := by decide +kernel
theorem dX8_goes_126 : decode cX8_goes 126 = .ok (.getfield 135, 3) := by decide +kernel
theorem dX8_goes_129 : decode cX8_goes 129 = .ok (.iastore, 1) := by decide +kernel
theorem dX8_goes_130 : decode cX8_goes 130 = .ok (.aload_n 0, 1) := by decide +kernel
theorem dX8_goes_131 : decode cX8_goes 131 = .ok (.getfield 32, 3) := by decide +kernel
theorem dX8_goes_134 : decode cX8_goes 134 = .ok (.iload 4, 2) := by decide +kernel
theorem dX8_goes_136 : decode cX8_goes 136 = .ok (.iconst 3, 1) := by decide +kernel
theorem dX8_goes_137 : decode cX8_goes 137 = .ok (.iadd, 1) := by decide +kernel
theorem dX8_goes_138 : decode cX8_goes 138 = .ok (.aload_n 0, 1) := by decide +kernel
theorem dX8_goes_139 : decode cX8_goes 139 = .ok (.getfield 141, 3) := by decide +kernel
theorem dX8_goes_142 : decode cX8_goes 142 = .ok (.iastore, 1) := by decide +kernel
theorem dX8_goes_143 : decode cX8_goes 143 = .ok (.aload_n 0, 1) := by decide +kernel
theorem dX8_goes_144 : decode cX8_goes 144 = .ok (.getfield 32, 3) := by decide +kernel
theorem dX8_goes_147 : decode cX8_goes 147 = .ok (.iload 4, 2) := by decide +kernel
theorem dX8_goes_149 : decode cX8_goes 149 = .ok (.iconst 4, 1) := by decide +kernel
theorem dX8_goes_150 : decode cX8_goes 150 = .ok (.iadd, 1) := by decide +kernel
theorem dX8_goes_151 : decode cX8_goes 151 = .ok (.aload_n 0, 1) := by decide +kernel
theorem dX8_goes_152 : decode cX8_goes 152 = .ok (.getfield 144, 3) := by decide +kernel
theorem dX8_goes_155 : decode cX8_goes 155 = .ok (.iastore, 1) := by decide +kernel
theorem dX8_goes_156 : decode cX8_goes 156 = .ok (.aload_n 0, 1) := by decide +kernel
theorem dX8_goes_157 : decode cX8_goes 157 = .ok (.getfield 32, 3) := by decide +kernel
theorem dX8_goes_160 : decode cX8_goes 160 = .ok (.iload 4, 2) := by decide +kernel
theorem dX8_goes_162 : decode cX8_goes 162 = .ok (.iconst 5, 1) := by decide +kernel
theorem dX8_goes_163 : decode cX8_goes 163 = .ok (.iadd, 1) := by decide +kernel
theorem dX8_goes_164 : decode cX8_goes 164 = .ok (.aload_n 0, 1) := by decide +kernel
theorem dX8_goes_165 : decode cX8_goes 165 = .ok (.iconst 0, 1) := by decide +kernel
theorem dX8_goes_166 : decode cX8_goes 166 = .ok (.invokevirtual 138, 3) := by decide +kernel
theorem dX8_goes_169 : decode cX8_goes 169 = .ok (.iastore, 1) := by decide +kernel
theorem dX8_goes_170 : decode cX8_goes 170 = .ok (.aload_n 0, 1) := by decide +kernel
theorem dX8_goes_171 : decode cX8_goes 171 = .ok (.getfield 32, 3) := by decide +kernel
theorem dX8_goes_174 : decode cX8_goes 174 = .ok (.iload 4, 2) := by decide +kernel
theorem dX8_goes_176 : decode cX8_goes 176 = .ok (.bipush 6, 2) := by decide +kernel
theorem dX8_goes_178 : decode cX8_goes 178 = .ok (.iadd, 1) := by decide +kernel
theorem dX8_goes_179 : decode cX8_goes 179 = .ok (.aload_n 0, 1) := by decide +kernel
theorem dX8_goes_180 : decode cX8_goes 180 = .ok (.iconst 1, 1) := by decide +kernel
theorem dX8_goes_181 : decode cX8_goes 181 = .ok (.invokevirtual 138, 3) := by decide +kernel
theorem dX8_goes_184 : decode cX8_goes 184 = .ok (.iastore, 1) := by decide +kernel
theorem dX8_goes_185 : decode cX8_goes 185 = .ok (.iconst 0, 1) := by decide +kernel
theorem dX8_goes_186 : decode cX8_goes 186 = .ok (.istore 5, 2) := by decide +kernel
theorem dX8_goes_188 : decode cX8_goes 188 = .ok (.iload 5, 2) := by decide +kernel
theorem dX8_goes_190 : decode cX8_goes 190 = .ok (.aload_n 0, 1) := by decide +kernel
theorem dX8_goes_191 : decode cX8_goes 191 = .ok (.getfield 141, 3) := by decide +kernel
theorem dX8_goes_194 : decode cX8_goes 194 = .ok (.if_icmp .ge 28, 3) := by decide +kernel
theorem dX8_goes_197 : decode cX8_goes 197 = .ok (.aload_n 0, 1) := by decide +kernel
theorem dX8_goes_198 : decode cX8_goes 198 = .ok (.getfield 35, 3) := by decide +kernel
theorem dX8_goes_201 : decode cX8_goes 201 = .ok (.bipush 8, 2) := by decide +kernel
theorem dX8_goes_203 : decode cX8_goes 203 = .ok (.iload_n 3, 1) := by decide +kernel
theorem dX8_goes_204 : decode cX8_goes 204 = .ok (.imul, 1) := by decide +kernel
theorem dX8_goes_205 : decode cX8_goes 205 = .ok (.iload 5, 2) := by decide +kernel
theorem dX8_goes_207 : decode cX8_goes 207 = .ok (.iadd, 1) := by decide +kernel
theorem dX8_goes_208 : decode cX8_goes 208 = .ok (.aload_n 0, 1) := by decide +kernel
theorem dX8_goes_209 : decode cX8_goes 209 = .ok (.getfield 56, 3) := by decide +kernel
theorem dX8_goes_212 : decode cX8_goes 212 = .ok (.iload 5, 2) := by decide +kernel
theorem dX8_goes_214 : decode cX8_goes 214 = .ok (.iaload, 1) := by decide +kernel
theorem dX8_goes_215 : decode cX8_goes 215 = .ok (.iastore, 1) := by decide +kernel
theorem dX8_goes_216 : decode cX8_goes 216 = .ok (.iinc 5 1, 3) := by decide +kernel
theorem dX8_goes_219 : decode cX8_goes 219 = .ok (.goto (-31), 3) := by decide +kernel
theorem dX8_goes_222 : decode cX8_goes 222 = .ok (.iconst 1, 1) := by decide +kernel
theorem dX8_goes_223 : decode cX8_goes 223 = .ok (.ireturn, 1) := by decide +kernel
theorem dX8_play_0 : decode cX8_play 0 = .ok (.aload_n 0, 1) := by decide +kernel
theorem dX8_play_1 : decode cX8_play 1 = .ok (.aload_n 0, 1) := by decide +kernel
theorem dX8_play_2 : decode cX8_play 2 = .ok (.iload_n 1, 1) := by decide +kernel
theorem dX8_play_3 : decode cX8_play 3 = .ok (.invokevirtual 167, 3) := by decide +kernel
theorem dX8_play_6 : decode cX8_play 6 = .ok (.ifCond .eq 11, 3) := by decide +kernel
theorem dX8_play_9 : decode cX8_play 9 = .ok (.aload_n 0, 1) := by decide +kernel
theorem dX8_play_10 : decode cX8_play 10 = .ok (.iload_n 2, 1) := by decide +kernel
theorem dX8_play_11 : decode cX8_play 11 = .ok (.invokevirtual 167, 3) := by decide +kernel
theorem dX8_play_14 : decode cX8_play 14 = .ok (.ifCond .ne 7, 3) := by decide +kernel
theorem dX8_play_17 : decode cX8_play 17 = .ok (.iconst 1, 1) := by decide +kernel
theorem dX8_play_18 : decode cX8_play 18 = .ok (.goto 15, 3) := by decide +kernel
theorem dX8_play_21 : decode cX8_play 21 = .ok (.aload_n 0, 1) := by decide +kernel
theorem dX8_play_22 : decode cX8_play 22 = .ok (.invokevirtual 170, 3) := by decide +kernel
theorem dX8_play_25 : decode cX8_play 25 = .ok (.ifCond .eq 7, 3) := by decide +kernel
theorem dX8_play_28 : decode cX8_play 28 = .ok (.iconst 2, 1) := by decide +kernel
theorem dX8_play_29 : decode cX8_play 29 = .ok (.goto 4, 3) := by decide +kernel
theorem dX8_play_32 : decode cX8_play 32 = .ok (.iconst 0, 1) := by decide +kernel
theorem dX8_play_33 : decode cX8_play 33 = .ok (.putfield 73, 3) := by decide +kernel
theorem dX8_play_36 : decode cX8_play 36 = .ok (.aload_n 0, 1) := by decide +kernel
theorem dX8_play_37 : decode cX8_play 37 = .ok (.getfield 73, 3) := by decide +kernel
theorem dX8_play_40 : decode cX8_play 40 = .ok (.ifCond .le 5, 3) := by decide +kernel
theorem dX8_play_43 : decode cX8_play 43 = .ok (.iconst 0, 1) := by decide +kernel
theorem dX8_play_44 : decode cX8_play 44 = .ok (.ireturn, 1) := by decide +kernel
theorem dX8_play_45 : decode cX8_play 45 = .ok (.aload_n 0, 1) := by decide +kernel
theorem dX8_play_46 : decode cX8_play 46 = .ok (.iload_n 1, 1) := by decide +kernel
theorem dX8_play_47 : decode cX8_play 47 = .ok (.iload_n 2, 1) := by decide +kernel
theorem dX8_play_48 : decode cX8_play 48 = .ok (.invokevirtual 174, 3) := by decide +kernel
theorem dX8_play_51 : decode cX8_play 51 = .ok (.ifCond .eq 10, 3) := by decide +kernel
theorem dX8_play_54 : decode cX8_play 54 = .ok (.aload_n 0, 1) := by decide +kernel
theorem dX8_play_55 : decode cX8_play 55 = .ok (.getfield 144, 3) := by decide +kernel
theorem dX8_play_58 : decode cX8_play 58 = .ok (.goto 8, 3) := by decide +kernel
theorem dX8_play_61 : decode cX8_play 61 = .ok (.aload_n 0, 1) := by decide +kernel
theorem dX8_play_62 : decode cX8_play 62 = .ok (.iconst 3, 1) := by decide +kernel
theorem dX8_play_63 : decode cX8_play 63 = .ok (.invokevirtual 178, 3) := by decide +kernel
theorem dX8_play_66 : decode cX8_play 66 = .ok (.ireturn, 1) := by decide +kernel
theorem dX8_undo_0 : decode cX8_undo 0 = .ok (.aload_n 0, 1) := by decide +kernel
theorem dX8_undo_1 : decode cX8_undo 1 = .ok (.aload_n 0, 1) := by decide +kernel
theorem dX8_undo_2 : decode cX8_undo 2 = .ok (.getfield 20, 3) := by decide +kernel
theorem dX8_undo_5 : decode cX8_undo 5 = .ok (.sipush 153, 3) := by decide +kernel
theorem dX8_undo_8 : decode cX8_undo 8 = .ok (.iaload, 1) := by decide +kernel
theorem dX8_undo_9 : decode cX8_undo 9 = .ok (.ifCond .ne 7, 3) := by decide +kernel
theorem dX8_undo_12 : decode cX8_undo 12 = .ok (.iconst 1, 1) := by decide +kernel
theorem dX8_undo_13 : decode cX8_undo 13 = .ok (.goto 4, 3) := by decide +kernel
theorem dX8_undo_16 : decode cX8_undo 16 = .ok (.iconst 0, 1) := by decide +kernel
theorem dX8_undo_17 : decode cX8_undo 17 = .ok (.putfield 73, 3) := by decide +kernel
theorem dX8_undo_20 : decode cX8_undo 20 = .ok (.aload_n 0, 1) := by decide +kernel
theorem dX8_undo_21 : decode cX8_undo 21 = .ok (.getfield 73, 3) := by decide +kernel
theorem dX8_undo_24 : decode cX8_undo 24 = .ok (.iconst 1, 1) := by decide +kernel
theorem dX8_undo_25 : decode cX8_undo 25 = .ok (.if_icmp .ne 5, 3) := by decide +kernel
theorem dX8_undo_28 : decode cX8_undo 28 = .ok (.iconst 0, 1) := by decide +kernel
theorem dX8_undo_29 : decode cX8_undo 29 = .ok (.ireturn, 1) := by decide +kernel
theorem dX8_undo_30 : decode cX8_undo 30 = .ok (.aload_n 0, 1) := by decide +kernel
theorem dX8_undo_31 : decode cX8_undo 31 = .ok (.getfield 20, 3) := by decide +kernel
theorem dX8_undo_34 : decode cX8_undo 34 = .ok (.sipush 153, 3) := by decide +kernel
theorem dX8_undo_37 : decode cX8_undo 37 = .ok (.iaload, 1) := by decide +kernel
theorem dX8_undo_38 : decode cX8_undo 38 = .ok (.iconst 1, 1) := by decide +kernel
theorem dX8_undo_39 : decode cX8_undo 39 = .ok (.isub, 1) := by decide +kernel
theorem dX8_undo_40 : decode cX8_undo 40 = .ok (.istore_n 1, 1) := by decide +kernel
theorem dX8_undo_41 : decode cX8_undo 41 = .ok (.iconst 0, 1) := by decide +kernel
theorem dX8_undo_42 : decode cX8_undo 42 = .ok (.istore_n 2, 1) := by decide +kernel
theorem dX8_undo_43 : decode cX8_undo 43 = .ok (.iload_n 2, 1) := by decide +kernel
theorem dX8_undo_44 : decode cX8_undo 44 = .ok (.sipush 155, 3) := by decide +kernel
theorem dX8_undo_47 : decode cX8_undo 47 = .ok (.if_icmp .ge 27, 3) := by decide +kernel
theorem dX8_undo_50 : decode cX8_undo 50 = .ok (.aload_n 0, 1) := by decide +kernel
theorem dX8_undo_51 : decode cX8_undo 51 = .ok (.getfield 20, 3) := by decide +kernel
theorem dX8_undo_54 : decode cX8_undo 54 = .ok (.iload_n 2, 1) := by decide +kernel
theorem dX8_undo_55 : decode cX8_undo 55 = .ok (.aload_n 0, 1) := by decide +kernel
theorem dX8_undo_56 : decode cX8_undo 56 = .ok (.getfield 29, 3) := by decide +kernel
theorem dX8_undo_59 : decode cX8_undo 59 = .ok (.sipush 155, 3) := by decide +kernel
theorem dX8_undo_62 : decode cX8_undo 62 = .ok (.iload_n 1, 1) := by decide +kernel
theorem dX8_undo_63 : decode cX8_undo 63 = .ok (.imul, 1) := by decide +kernel
theorem dX8_undo_64 : decode cX8_undo 64 = .ok (.iload_n 2, 1) := by decide +kernel
theorem dX8_undo_65 : decode cX8_undo 65 = .ok (.iadd, 1) := by decide +kernel
theorem dX8_undo_66 : decode cX8_undo 66 = .ok (.iaload, 1) := by decide +kernel
theorem dX8_undo_67 : decode cX8_undo 67 = .ok (.iastore, 1) := by decide +kernel
theorem dX8_undo_68 : decode cX8_undo 68 = .ok (.iinc 2 1, 3) := by decide +kernel
theorem dX8_undo_71 : decode cX8_undo 71 = .ok (.goto (-28), 3) := by decide +kernel
theorem dX8_undo_74 : decode cX8_undo 74 = .ok (.iload_n 1, 1) := by decide +kernel
theorem dX8_undo_75 : decode cX8_undo 75 = .ok (.ireturn, 1) := by decide +kernel
theorem dX8_isOver_0 : decode cX8_isOver 0 = .ok (.aload_n 0, 1) := by decide +kernel
theorem dX8_isOver_1 : decode cX8_isOver 1 = .ok (.iconst 0, 1) := by decide +kernel
theorem dX8_isOver_2 : decode cX8_isOver 2 = .ok (.putfield 73, 3) := by decide +kernel
theorem dX8_isOver_5 : decode cX8_isOver 5 = .ok (.aload_n 0, 1) := by decide +kernel
theorem dX8_isOver_6 : decode cX8_isOver 6 = .ok (.invokevirtual 170, 3) := by decide +kernel
theorem dX8_isOver_9 : decode cX8_isOver 9 = .ok (.ireturn, 1) := by decide +kernel
theorem dX8_cell_0 : decode cX8_cell 0 = .ok (.aload_n 0, 1) := by decide +kernel
theorem dX8_cell_1 : decode cX8_cell 1 = .ok (.iload_n 1, 1) := by decide +kernel
theorem dX8_cell_2 : decode cX8_cell 2 = .ok (.iconst 0, 1) := by decide +kernel
theorem dX8_cell_3 : decode cX8_cell 3 = .ok (.aload_n 0, 1) := by decide +kernel
theorem dX8_cell_4 : decode cX8_cell 4 = .ok (.getfield 9, 3) := by decide +kernel
theorem dX8_cell_7 : decode cX8_cell 7 = .ok (.iconst 1, 1) := by decide +kernel
theorem dX8_cell_8 : decode cX8_cell 8 = .ok (.isub, 1) := by decide +kernel
theorem dX8_cell_9 : decode cX8_cell 9 = .ok (.invokestatic 80, 3) := by decide +kernel
theorem dX8_cell_12 : decode cX8_cell 12 = .ok (.ifCond .eq 21, 3) := by decide +kernel
theorem dX8_cell_15 : decode cX8_cell 15 = .ok (.iload_n 2, 1) := by decide +kernel
theorem dX8_cell_16 : decode cX8_cell 16 = .ok (.iconst 0, 1) := by decide +kernel
theorem dX8_cell_17 : decode cX8_cell 17 = .ok (.aload_n 0, 1) := by decide +kernel
theorem dX8_cell_18 : decode cX8_cell 18 = .ok (.getfield 13, 3) := by decide +kernel
theorem dX8_cell_21 : decode cX8_cell 21 = .ok (.iconst 1, 1) := by decide +kernel
theorem dX8_cell_22 : decode cX8_cell 22 = .ok (.isub, 1) := by decide +kernel
theorem dX8_cell_23 : decode cX8_cell 23 = .ok (.invokestatic 80, 3) := by decide +kernel
theorem dX8_cell_26 : decode cX8_cell 26 = .ok (.ifCond .eq 7, 3) := by decide +kernel
theorem dX8_cell_29 : decode cX8_cell 29 = .ok (.iconst 0, 1) := by decide +kernel
theorem dX8_cell_30 : decode cX8_cell 30 = .ok (.goto 4, 3) := by decide +kernel
theorem dX8_cell_33 : decode cX8_cell 33 = .ok (.iconst 1, 1) := by decide +kernel
theorem dX8_cell_34 : decode cX8_cell 34 = .ok (.putfield 73, 3) := by decide +kernel
theorem dX8_cell_37 : decode cX8_cell 37 = .ok (.aload_n 0, 1) := by decide +kernel
theorem dX8_cell_38 : decode cX8_cell 38 = .ok (.getfield 73, 3) := by decide +kernel
theorem dX8_cell_41 : decode cX8_cell 41 = .ok (.ifCond .ne 19, 3) := by decide +kernel
theorem dX8_cell_44 : decode cX8_cell 44 = .ok (.aload_n 0, 1) := by decide +kernel
theorem dX8_cell_45 : decode cX8_cell 45 = .ok (.getfield 20, 3) := by decide +kernel
theorem dX8_cell_48 : decode cX8_cell 48 = .ok (.iload_n 2, 1) := by decide +kernel
theorem dX8_cell_49 : decode cX8_cell 49 = .ok (.aload_n 0, 1) := by decide +kernel
theorem dX8_cell_50 : decode cX8_cell 50 = .ok (.getfield 9, 3) := by decide +kernel
theorem dX8_cell_53 : decode cX8_cell 53 = .ok (.imul, 1) := by decide +kernel
theorem dX8_cell_54 : decode cX8_cell 54 = .ok (.iload_n 1, 1) := by decide +kernel
theorem dX8_cell_55 : decode cX8_cell 55 = .ok (.iadd, 1) := by decide +kernel
theorem dX8_cell_56 : decode cX8_cell 56 = .ok (.iaload, 1) := by decide +kernel
theorem dX8_cell_57 : decode cX8_cell 57 = .ok (.goto 4, 3) := by decide +kernel
theorem dX8_cell_60 : decode cX8_cell 60 = .ok (.iconst 0, 1) := by decide +kernel
theorem dX8_cell_61 : decode cX8_cell 61 = .ok (.ireturn, 1) := by decide +kernel
theorem dX8_since_0 : decode cX8_since 0 = .ok (.aload_n 0, 1) := by decide +kernel
theorem dX8_since_1 : decode cX8_since 1 = .ok (.aload_n 0, 1) := by decide +kernel
theorem dX8_since_2 : decode cX8_since 2 = .ok (.iload_n 1, 1) := by decide +kernel
theorem dX8_since_3 : decode cX8_since 3 = .ok (.invokevirtual 150, 3) := by decide +kernel
theorem dX8_since_6 : decode cX8_since 6 = .ok (.ifCond .ne 7, 3) := by decide +kernel
theorem dX8_since_9 : decode cX8_since 9 = .ok (.iconst 1, 1) := by decide +kernel
theorem dX8_since_10 : decode cX8_since 10 = .ok (.goto 17, 3) := by decide +kernel
theorem dX8_since_13 : decode cX8_since 13 = .ok (.iload_n 2, 1) := by decide +kernel
theorem dX8_since_14 : decode cX8_since 14 = .ok (.iconst 0, 1) := by decide +kernel
theorem dX8_since_15 : decode cX8_since 15 = .ok (.iconst 1, 1) := by decide +kernel
theorem dX8_since_16 : decode cX8_since 16 = .ok (.invokestatic 80, 3) := by decide +kernel
theorem dX8_since_19 : decode cX8_since 19 = .ok (.ifCond .ne 7, 3) := by decide +kernel
theorem dX8_since_22 : decode cX8_since 22 = .ok (.iconst 2, 1) := by decide +kernel
theorem dX8_since_23 : decode cX8_since 23 = .ok (.goto 4, 3) := by decide +kernel
theorem dX8_since_26 : decode cX8_since 26 = .ok (.iconst 0, 1) := by decide +kernel
theorem dX8_since_27 : decode cX8_since 27 = .ok (.putfield 73, 3) := by decide +kernel
theorem dX8_since_30 : decode cX8_since 30 = .ok (.aload_n 0, 1) := by decide +kernel
theorem dX8_since_31 : decode cX8_since 31 = .ok (.getfield 73, 3) := by decide +kernel
theorem dX8_since_34 : decode cX8_since 34 = .ok (.ifCond .ne 24, 3) := by decide +kernel
theorem dX8_since_37 : decode cX8_since 37 = .ok (.aload_n 0, 1) := by decide +kernel
theorem dX8_since_38 : decode cX8_since 38 = .ok (.getfield 20, 3) := by decide +kernel
theorem dX8_since_41 : decode cX8_since 41 = .ok (.iload_n 2, 1) := by decide +kernel
theorem dX8_since_42 : decode cX8_since 42 = .ok (.ifCond .ne 8, 3) := by decide +kernel
theorem dX8_since_45 : decode cX8_since 45 = .ok (.bipush 49, 2) := by decide +kernel
theorem dX8_since_47 : decode cX8_since 47 = .ok (.goto 5, 3) := by decide +kernel
theorem dX8_since_50 : decode cX8_since 50 = .ok (.bipush 98, 2) := by decide +kernel
theorem dX8_since_52 : decode cX8_since 52 = .ok (.iload_n 1, 1) := by decide +kernel
theorem dX8_since_53 : decode cX8_since 53 = .ok (.iadd, 1) := by decide +kernel
theorem dX8_since_54 : decode cX8_since 54 = .ok (.iaload, 1) := by decide +kernel
theorem dX8_since_55 : decode cX8_since 55 = .ok (.goto 4, 3) := by decide +kernel
theorem dX8_since_58 : decode cX8_since 58 = .ok (.iconst 0, 1) := by decide +kernel
theorem dX8_since_59 : decode cX8_since 59 = .ok (.ireturn, 1) := by decide +kernel
theorem dX8_count_0 : decode cX8_count 0 = .ok (.aload_n 0, 1) := by decide +kernel
theorem dX8_count_1 : decode cX8_count 1 = .ok (.iload_n 1, 1) := by decide +kernel
theorem dX8_count_2 : decode cX8_count 2 = .ok (.iconst 0, 1) := by decide +kernel
theorem dX8_count_3 : decode cX8_count 3 = .ok (.bipush 6, 2) := by decide +kernel
theorem dX8_count_5 : decode cX8_count 5 = .ok (.invokestatic 80, 3) := by decide +kernel
theorem dX8_count_8 : decode cX8_count 8 = .ok (.ifCond .eq 7, 3) := by decide +kernel
theorem dX8_count_11 : decode cX8_count 11 = .ok (.iconst 0, 1) := by decide +kernel
theorem dX8_count_12 : decode cX8_count 12 = .ok (.goto 4, 3) := by decide +kernel
theorem dX8_count_15 : decode cX8_count 15 = .ok (.iconst 1, 1) := by decide +kernel
theorem dX8_count_16 : decode cX8_count 16 = .ok (.putfield 73, 3) := by decide +kernel
theorem dX8_count_19 : decode cX8_count 19 = .ok (.aload_n 0, 1) := by decide +kernel
theorem dX8_count_20 : decode cX8_count 20 = .ok (.getfield 73, 3) := by decide +kernel
theorem dX8_count_23 : decode cX8_count 23 = .ok (.iconst 1, 1) := by decide +kernel
theorem dX8_count_24 : decode cX8_count 24 = .ok (.if_icmp .ne 5, 3) := by decide +kernel
theorem dX8_count_27 : decode cX8_count 27 = .ok (.iconst 0, 1) := by decide +kernel
theorem dX8_count_28 : decode cX8_count 28 = .ok (.ireturn, 1) := by decide +kernel
theorem dX8_count_29 : decode cX8_count 29 = .ok (.iload_n 1, 1) := by decide +kernel
theorem dX8_count_30 : decode cX8_count 30 = .ok (.tableswitch 77 0 5 #[38, 47, 52, 57, 62, 68], 38) := by decide +kernel
theorem dX8_count_68 : decode cX8_count 68 = .ok (.aload_n 0, 1) := by decide +kernel
theorem dX8_count_69 : decode cX8_count 69 = .ok (.getfield 20, 3) := by decide +kernel
theorem dX8_count_72 : decode cX8_count 72 = .ok (.sipush 153, 3) := by decide +kernel
theorem dX8_count_75 : decode cX8_count 75 = .ok (.iaload, 1) := by decide +kernel
theorem dX8_count_76 : decode cX8_count 76 = .ok (.ireturn, 1) := by decide +kernel
theorem dX8_count_77 : decode cX8_count 77 = .ok (.aload_n 0, 1) := by decide +kernel
theorem dX8_count_78 : decode cX8_count 78 = .ok (.getfield 9, 3) := by decide +kernel
theorem dX8_count_81 : decode cX8_count 81 = .ok (.ireturn, 1) := by decide +kernel
theorem dX8_count_82 : decode cX8_count 82 = .ok (.aload_n 0, 1) := by decide +kernel
theorem dX8_count_83 : decode cX8_count 83 = .ok (.getfield 13, 3) := by decide +kernel
theorem dX8_count_86 : decode cX8_count 86 = .ok (.ireturn, 1) := by decide +kernel
theorem dX8_count_87 : decode cX8_count 87 = .ok (.aload_n 0, 1) := by decide +kernel
theorem dX8_count_88 : decode cX8_count 88 = .ok (.invokevirtual 108, 3) := by decide +kernel
theorem dX8_count_91 : decode cX8_count 91 = .ok (.ireturn, 1) := by decide +kernel
theorem dX8_count_92 : decode cX8_count 92 = .ok (.aload_n 0, 1) := by decide +kernel
theorem dX8_count_93 : decode cX8_count 93 = .ok (.iconst 5, 1) := by decide +kernel
theorem dX8_count_94 : decode cX8_count 94 = .ok (.invokevirtual 84, 3) := by decide +kernel
theorem dX8_count_97 : decode cX8_count 97 = .ok (.ireturn, 1) := by decide +kernel
theorem dX8_count_98 : decode cX8_count 98 = .ok (.aload_n 0, 1) := by decide +kernel
theorem dX8_count_99 : decode cX8_count 99 = .ok (.getfield 20, 3) := by decide +kernel
theorem dX8_count_102 : decode cX8_count 102 = .ok (.sipush 151, 3) := by decide +kernel
theorem dX8_count_105 : decode cX8_count 105 = .ok (.iaload, 1) := by decide +kernel
theorem dX8_count_106 : decode cX8_count 106 = .ok (.ireturn, 1) := by decide +kernel
theorem dX8_count_107 : decode cX8_count 107 = .ok (.aload_n 0, 1) := by decide +kernel
theorem dX8_count_108 : decode cX8_count 108 = .ok (.getfield 20, 3) := by decide +kernel
theorem dX8_count_111 : decode cX8_count 111 = .ok (.sipush 152, 3) := by decide +kernel
theorem dX8_count_114 : decode cX8_count 114 = .ok (.iaload, 1) := by decide +kernel
theorem dX8_count_115 : decode cX8_count 115 = .ok (.ireturn, 1) := by decide +kernel
theorem dX8_regions_0 : decode cX8_regions 0 = .ok (.aload_n 0, 1) := by decide +kernel
theorem dX8_regions_1 : decode cX8_regions 1 = .ok (.iload_n 1, 1) := by decide +kernel
theorem dX8_regions_2 : decode cX8_regions 2 = .ok (.invokevirtual 111, 3) := by decide +kernel
theorem dX8_regions_5 : decode cX8_regions 5 = .ok (.lstore_n 3, 1) := by decide +kernel
theorem dX8_regions_6 : decode cX8_regions 6 = .ok (.iconst 0, 1) := by decide +kernel
theorem dX8_regions_7 : decode cX8_regions 7 = .ok (.istore 5, 2) := by decide +kernel
theorem dX8_regions_9 : decode cX8_regions 9 = .ok (.iconst 0, 1) := by decide +kernel
theorem dX8_regions_10 : decode cX8_regions 10 = .ok (.istore 6, 2) := by decide +kernel
theorem dX8_regions_12 : decode cX8_regions 12 = .ok (.lload_n 3, 1) := by decide +kernel
theorem dX8_regions_13 : decode cX8_regions 13 = .ok (.lconst 0, 1) := by decide +kernel
theorem dX8_regions_14 : decode cX8_regions 14 = .ok (.lcmp, 1) := by decide +kernel
theorem dX8_regions_15 : decode cX8_regions 15 = .ok (.ifCond .eq 51, 3) := by decide +kernel
theorem dX8_regions_18 : decode cX8_regions 18 = .ok (.aload_n 0, 1) := by decide +kernel
theorem dX8_regions_19 : decode cX8_regions 19 = .ok (.lload_n 3, 1) := by decide +kernel
theorem dX8_regions_20 : decode cX8_regions 20 = .ok (.lload_n 3, 1) := by decide +kernel
theorem dX8_regions_21 : decode cX8_regions 21 = .ok (.invokestatic 117, 3) := by decide +kernel
theorem dX8_regions_24 : decode cX8_regions 24 = .ok (.invokevirtual 121, 3) := by decide +kernel
theorem dX8_regions_27 : decode cX8_regions 27 = .ok (.lstore 7, 2) := by decide +kernel
theorem dX8_regions_29 : decode cX8_regions 29 = .ok (.lload_n 3, 1) := by decide +kernel
theorem dX8_regions_30 : decode cX8_regions 30 = .ok (.lload 7, 2) := by decide +kernel
theorem dX8_regions_32 : decode cX8_regions 32 = .ok (.ldc2_w 95, 3) := by decide +kernel
theorem dX8_regions_35 : decode cX8_regions 35 = .ok (.lxor, 1) := by decide +kernel
theorem dX8_regions_36 : decode cX8_regions 36 = .ok (.land, 1) := by decide +kernel
theorem dX8_regions_37 : decode cX8_regions 37 = .ok (.lstore_n 3, 1) := by decide +kernel
theorem dX8_regions_38 : decode cX8_regions 38 = .ok (.iinc 5 1, 3) := by decide +kernel
theorem dX8_regions_41 : decode cX8_regions 41 = .ok (.lload 7, 2) := by decide +kernel
theorem dX8_regions_43 : decode cX8_regions 43 = .ok (.invokestatic 125, 3) := by decide +kernel
theorem dX8_regions_46 : decode cX8_regions 46 = .ok (.iload 6, 2) := by decide +kernel
theorem dX8_regions_48 : decode cX8_regions 48 = .ok (.if_icmp .le 11, 3) := by decide +kernel
theorem dX8_regions_51 : decode cX8_regions 51 = .ok (.lload 7, 2) := by decide +kernel
theorem dX8_regions_53 : decode cX8_regions 53 = .ok (.invokestatic 125, 3) := by decide +kernel
theorem dX8_regions_56 : decode cX8_regions 56 = .ok (.goto 5, 3) := by decide +kernel
theorem dX8_regions_59 : decode cX8_regions 59 = .ok (.iload 6, 2) := by decide +kernel
theorem dX8_regions_61 : decode cX8_regions 61 = .ok (.istore 6, 2) := by decide +kernel
theorem dX8_regions_63 : decode cX8_regions 63 = .ok (.goto (-51), 3) := by decide +kernel
theorem dX8_regions_66 : decode cX8_regions 66 = .ok (.iload_n 2, 1) := by decide +kernel
theorem dX8_regions_67 : decode cX8_regions 67 = .ok (.ifCond .eq 8, 3) := by decide +kernel
theorem dX8_regions_70 : decode cX8_regions 70 = .ok (.iload 6, 2) := by decide +kernel
theorem dX8_regions_72 : decode cX8_regions 72 = .ok (.goto 5, 3) := by decide +kernel
theorem dX8_regions_75 : decode cX8_regions 75 = .ok (.iload 5, 2) := by decide +kernel
theorem dX8_regions_77 : decode cX8_regions 77 = .ok (.ireturn, 1) := by decide +kernel
theorem dX8_player_0 : decode cX8_player 0 = .ok (.aload_n 0, 1) := by decide +kernel
theorem dX8_player_1 : decode cX8_player 1 = .ok (.iload_n 1, 1) := by decide +kernel
theorem dX8_player_2 : decode cX8_player 2 = .ok (.iconst 0, 1) := by decide +kernel
theorem dX8_player_3 : decode cX8_player 3 = .ok (.iconst 1, 1) := by decide +kernel
theorem dX8_player_4 : decode cX8_player 4 = .ok (.invokestatic 80, 3) := by decide +kernel
theorem dX8_player_7 : decode cX8_player 7 = .ok (.ifCond .ne 7, 3) := by decide +kernel
theorem dX8_player_10 : decode cX8_player 10 = .ok (.iconst 1, 1) := by decide +kernel
theorem dX8_player_11 : decode cX8_player 11 = .ok (.goto 18, 3) := by decide +kernel
theorem dX8_player_14 : decode cX8_player 14 = .ok (.iload_n 2, 1) := by decide +kernel
theorem dX8_player_15 : decode cX8_player 15 = .ok (.iconst 0, 1) := by decide +kernel
theorem dX8_player_16 : decode cX8_player 16 = .ok (.bipush 7, 2) := by decide +kernel
theorem dX8_player_18 : decode cX8_player 18 = .ok (.invokestatic 80, 3) := by decide +kernel
theorem dX8_player_21 : decode cX8_player 21 = .ok (.ifCond .ne 7, 3) := by decide +kernel
theorem dX8_player_24 : decode cX8_player 24 = .ok (.iconst 2, 1) := by decide +kernel
theorem dX8_player_25 : decode cX8_player 25 = .ok (.goto 4, 3) := by decide +kernel
theorem dX8_player_28 : decode cX8_player 28 = .ok (.iconst 0, 1) := by decide +kernel
theorem dX8_player_29 : decode cX8_player 29 = .ok (.putfield 73, 3) := by decide +kernel
theorem dX8_player_32 : decode cX8_player 32 = .ok (.aload_n 0, 1) := by decide +kernel
theorem dX8_player_33 : decode cX8_player 33 = .ok (.getfield 73, 3) := by decide +kernel
theorem dX8_player_36 : decode cX8_player 36 = .ok (.ifCond .le 5, 3) := by decide +kernel
theorem dX8_player_39 : decode cX8_player 39 = .ok (.iconst 0, 1) := by decide +kernel
theorem dX8_player_40 : decode cX8_player 40 = .ok (.ireturn, 1) := by decide +kernel
theorem dX8_player_41 : decode cX8_player 41 = .ok (.iload_n 2, 1) := by decide +kernel
theorem dX8_player_42 : decode cX8_player 42 = .ok (.tableswitch 89 0 5 #[38, 44, 52, 60, 71, 78], 38) := by decide +kernel
theorem dX8_player_80 : decode cX8_player 80 = .ok (.aload_n 0, 1) := by decide +kernel
theorem dX8_player_81 : decode cX8_player 81 = .ok (.iload_n 1, 1) := by decide +kernel
theorem dX8_player_82 : decode cX8_player 82 = .ok (.invokevirtual 138, 3) := by decide +kernel
theorem dX8_player_85 : decode cX8_player 85 = .ok (.ireturn, 1) := by decide +kernel
theorem dX8_player_86 : decode cX8_player 86 = .ok (.aload_n 0, 1) := by decide +kernel
theorem dX8_player_87 : decode cX8_player 87 = .ok (.iconst 1, 1) := by decide +kernel
theorem dX8_player_88 : decode cX8_player 88 = .ok (.iload_n 1, 1) := by decide +kernel
theorem dX8_player_89 : decode cX8_player 89 = .ok (.iadd, 1) := by decide +kernel
theorem dX8_player_90 : decode cX8_player 90 = .ok (.invokevirtual 84, 3) := by decide +kernel
theorem dX8_player_93 : decode cX8_player 93 = .ok (.ireturn, 1) := by decide +kernel
theorem dX8_player_94 : decode cX8_player 94 = .ok (.aload_n 0, 1) := by decide +kernel
theorem dX8_player_95 : decode cX8_player 95 = .ok (.iconst 3, 1) := by decide +kernel
theorem dX8_player_96 : decode cX8_player 96 = .ok (.iload_n 1, 1) := by decide +kernel
theorem dX8_player_97 : decode cX8_player 97 = .ok (.iadd, 1) := by decide +kernel
theorem dX8_player_98 : decode cX8_player 98 = .ok (.invokevirtual 84, 3) := by decide +kernel
theorem dX8_player_101 : decode cX8_player 101 = .ok (.ireturn, 1) := by decide +kernel
theorem dX8_player_102 : decode cX8_player 102 = .ok (.aload_n 0, 1) := by decide +kernel
theorem dX8_player_103 : decode cX8_player 103 = .ok (.getfield 20, 3) := by decide +kernel
theorem dX8_player_106 : decode cX8_player 106 = .ok (.sipush 147, 3) := by decide +kernel
theorem dX8_player_109 : decode cX8_player 109 = .ok (.iload_n 1, 1) := by decide +kernel
theorem dX8_player_110 : decode cX8_player 110 = .ok (.iadd, 1) := by decide +kernel
theorem dX8_player_111 : decode cX8_player 111 = .ok (.iaload, 1) := by decide +kernel
theorem dX8_player_112 : decode cX8_player 112 = .ok (.ireturn, 1) := by decide +kernel
theorem dX8_player_113 : decode cX8_player 113 = .ok (.aload_n 0, 1) := by decide +kernel
theorem dX8_player_114 : decode cX8_player 114 = .ok (.getfield 16, 3) := by decide +kernel
theorem dX8_player_117 : decode cX8_player 117 = .ok (.iload_n 1, 1) := by decide +kernel
theorem dX8_player_118 : decode cX8_player 118 = .ok (.iaload, 1) := by decide +kernel
theorem dX8_player_119 : decode cX8_player 119 = .ok (.ireturn, 1) := by decide +kernel
theorem dX8_player_120 : decode cX8_player 120 = .ok (.aload_n 0, 1) := by decide +kernel
theorem dX8_player_121 : decode cX8_player 121 = .ok (.getfield 20, 3) := by decide +kernel
theorem dX8_player_124 : decode cX8_player 124 = .ok (.sipush 149, 3) := by decide +kernel
theorem dX8_player_127 : decode cX8_player 127 = .ok (.iload_n 1, 1) := by decide +kernel
theorem dX8_player_128 : decode cX8_player 128 = .ok (.iadd, 1) := by decide +kernel
theorem dX8_player_129 : decode cX8_player 129 = .ok (.iaload, 1) := by decide +kernel
theorem dX8_player_130 : decode cX8_player 130 = .ok (.ireturn, 1) := by decide +kernel
theorem dX8_player_131 : decode cX8_player 131 = .ok (.aload_n 0, 1) := by decide +kernel
theorem dX8_player_132 : decode cX8_player 132 = .ok (.iload_n 1, 1) := by decide +kernel
theorem dX8_player_133 : decode cX8_player 133 = .ok (.iload_n 2, 1) := by decide +kernel
theorem dX8_player_134 : decode cX8_player 134 = .ok (.bipush 7, 2) := by decide +kernel
theorem dX8_player_136 : decode cX8_player 136 = .ok (.if_icmp .ne 7, 3) := by decide +kernel
theorem dX8_player_139 : decode cX8_player 139 = .ok (.iconst 1, 1) := by decide +kernel
theorem dX8_player_140 : decode cX8_player 140 = .ok (.goto 4, 3) := by decide +kernel
theorem dX8_player_143 : decode cX8_player 143 = .ok (.iconst 0, 1) := by decide +kernel
theorem dX8_player_144 : decode cX8_player 144 = .ok (.invokevirtual 181, 3) := by decide +kernel
theorem dX8_player_147 : decode cX8_player 147 = .ok (.ireturn, 1) := by decide +kernel
theorem dX8_isOutside_0 : decode cX8_isOutside 0 = .ok (.aload_n 0, 1) := by decide +kernel
theorem dX8_isOutside_1 : decode cX8_isOutside 1 = .ok (.iload_n 1, 1) := by decide +kernel
theorem dX8_isOutside_2 : decode cX8_isOutside 2 = .ok (.invokevirtual 111, 3) := by decide +kernel
theorem dX8_isOutside_5 : decode cX8_isOutside 5 = .ok (.iload_n 2, 1) := by decide +kernel
theorem dX8_isOutside_6 : decode cX8_isOutside 6 = .ok (.lshr, 1) := by decide +kernel
theorem dX8_isOutside_7 : decode cX8_isOutside 7 = .ok (.lconst 1, 1) := by decide +kernel
theorem dX8_isOutside_8 : decode cX8_isOutside 8 = .ok (.land, 1) := by decide +kernel
theorem dX8_isOutside_9 : decode cX8_isOutside 9 = .ok (.lconst 1, 1) := by decide +kernel
theorem dX8_isOutside_10 : decode cX8_isOutside 10 = .ok (.lcmp, 1) := by decide +kernel
theorem dX8_isOutside_11 : decode cX8_isOutside 11 = .ok (.ifCond .ne 7, 3) := by decide +kernel
theorem dX8_isOutside_14 : decode cX8_isOutside 14 = .ok (.iconst 1, 1) := by decide +kernel
theorem dX8_isOutside_15 : decode cX8_isOutside 15 = .ok (.goto 4, 3) := by decide +kernel
theorem dX8_isOutside_18 : decode cX8_isOutside 18 = .ok (.iconst 0, 1) := by decide +kernel
theorem dX8_isOutside_19 : decode cX8_isOutside 19 = .ok (.ireturn, 1) := by decide +kernel
theorem dX8_region_0 : decode cX8_region 0 = .ok (.aload_n 0, 1) := by decide +kernel
theorem dX8_region_1 : decode cX8_region 1 = .ok (.iload_n 1, 1) := by decide +kernel
theorem dX8_region_2 : decode cX8_region 2 = .ok (.iconst 0, 1) := by decide +kernel
theorem dX8_region_3 : decode cX8_region 3 = .ok (.iconst 1, 1) := by decide +kernel
theorem dX8_region_4 : decode cX8_region 4 = .ok (.invokestatic 80, 3) := by decide +kernel
theorem dX8_region_7 : decode cX8_region 7 = .ok (.ifCond .eq 11, 3) := by decide +kernel
theorem dX8_region_10 : decode cX8_region 10 = .ok (.aload_n 0, 1) := by decide +kernel
theorem dX8_region_11 : decode cX8_region 11 = .ok (.iload_n 2, 1) := by decide +kernel
theorem dX8_region_12 : decode cX8_region 12 = .ok (.invokevirtual 150, 3) := by decide +kernel
theorem dX8_region_15 : decode cX8_region 15 = .ok (.ifCond .ne 7, 3) := by decide +kernel
theorem dX8_region_18 : decode cX8_region 18 = .ok (.iconst 1, 1) := by decide +kernel
theorem dX8_region_19 : decode cX8_region 19 = .ok (.goto 17, 3) := by decide +kernel
theorem dX8_region_22 : decode cX8_region 22 = .ok (.aload_n 0, 1) := by decide +kernel
theorem dX8_region_23 : decode cX8_region 23 = .ok (.iload_n 1, 1) := by decide +kernel
theorem dX8_region_24 : decode cX8_region 24 = .ok (.iload_n 2, 1) := by decide +kernel
theorem dX8_region_25 : decode cX8_region 25 = .ok (.invokevirtual 185, 3) := by decide +kernel
theorem dX8_region_28 : decode cX8_region 28 = .ok (.ifCond .ne 7, 3) := by decide +kernel
theorem dX8_region_31 : decode cX8_region 31 = .ok (.iconst 2, 1) := by decide +kernel
theorem dX8_region_32 : decode cX8_region 32 = .ok (.goto 4, 3) := by decide +kernel
theorem dX8_region_35 : decode cX8_region 35 = .ok (.iconst 0, 1) := by decide +kernel
theorem dX8_region_36 : decode cX8_region 36 = .ok (.putfield 73, 3) := by decide +kernel
theorem dX8_region_39 : decode cX8_region 39 = .ok (.aload_n 0, 1) := by decide +kernel
theorem dX8_region_40 : decode cX8_region 40 = .ok (.getfield 73, 3) := by decide +kernel
theorem dX8_region_43 : decode cX8_region 43 = .ok (.ifCond .ne 16, 3) := by decide +kernel
theorem dX8_region_46 : decode cX8_region 46 = .ok (.aload_n 0, 1) := by decide +kernel
theorem dX8_region_47 : decode cX8_region 47 = .ok (.aload_n 0, 1) := by decide +kernel
theorem dX8_region_48 : decode cX8_region 48 = .ok (.iload_n 1, 1) := by decide +kernel
theorem dX8_region_49 : decode cX8_region 49 = .ok (.invokevirtual 111, 3) := by decide +kernel
theorem dX8_region_52 : decode cX8_region 52 = .ok (.iload_n 2, 1) := by decide +kernel
theorem dX8_region_53 : decode cX8_region 53 = .ok (.invokevirtual 121, 3) := by decide +kernel
theorem dX8_region_56 : decode cX8_region 56 = .ok (.goto 4, 3) := by decide +kernel
theorem dX8_region_59 : decode cX8_region 59 = .ok (.lconst 0, 1) := by decide +kernel
theorem dX8_region_60 : decode cX8_region 60 = .ok (.lreturn, 1) := by decide +kernel
theorem dX8_cells__0 : decode cX8_cells_ 0 = .ok (.aload_n 0, 1) := by decide +kernel
theorem dX8_cells__1 : decode cX8_cells_ 1 = .ok (.iload_n 1, 1) := by decide +kernel
theorem dX8_cells__2 : decode cX8_cells_ 2 = .ok (.iconst 0, 1) := by decide +kernel
theorem dX8_cells__3 : decode cX8_cells_ 3 = .ok (.iconst 5, 1) := by decide +kernel
theorem dX8_cells__4 : decode cX8_cells_ 4 = .ok (.invokestatic 80, 3) := by decide +kernel
theorem dX8_cells__7 : decode cX8_cells_ 7 = .ok (.ifCond .eq 7, 3) := by decide +kernel
theorem dX8_cells__10 : decode cX8_cells_ 10 = .ok (.iconst 0, 1) := by decide +kernel
theorem dX8_cells__11 : decode cX8_cells_ 11 = .ok (.goto 4, 3) := by decide +kernel
theorem dX8_cells__14 : decode cX8_cells_ 14 = .ok (.iconst 1, 1) := by decide +kernel
theorem dX8_cells__15 : decode cX8_cells_ 15 = .ok (.putfield 73, 3) := by decide +kernel
theorem dX8_cells__18 : decode cX8_cells_ 18 = .ok (.aload_n 0, 1) := by decide +kernel
theorem dX8_cells__19 : decode cX8_cells_ 19 = .ok (.getfield 73, 3) := by decide +kernel
theorem dX8_cells__22 : decode cX8_cells_ 22 = .ok (.ifCond .ne 11, 3) := by decide +kernel
theorem dX8_cells__25 : decode cX8_cells_ 25 = .ok (.aload_n 0, 1) := by decide +kernel
theorem dX8_cells__26 : decode cX8_cells_ 26 = .ok (.iload_n 1, 1) := by decide +kernel
theorem dX8_cells__27 : decode cX8_cells_ 27 = .ok (.invokevirtual 105, 3) := by decide +kernel
theorem dX8_cells__30 : decode cX8_cells_ 30 = .ok (.goto 4, 3) := by decide +kernel
theorem dX8_cells__33 : decode cX8_cells_ 33 = .ok (.lconst 0, 1) := by decide +kernel
theorem dX8_cells__34 : decode cX8_cells_ 34 = .ok (.lreturn, 1) := by decide +kernel
theorem dX8_chain_0 : decode cX8_chain 0 = .ok (.aload_n 0, 1) := by decide +kernel
theorem dX8_chain_1 : decode cX8_chain 1 = .ok (.aload_n 0, 1) := by decide +kernel
theorem dX8_chain_2 : decode cX8_chain 2 = .ok (.iload_n 1, 1) := by decide +kernel
theorem dX8_chain_3 : decode cX8_chain 3 = .ok (.invokevirtual 150, 3) := by decide +kernel
theorem dX8_chain_6 : decode cX8_chain 6 = .ok (.ifCond .ne 7, 3) := by decide +kernel
theorem dX8_chain_9 : decode cX8_chain 9 = .ok (.iconst 1, 1) := by decide +kernel
theorem dX8_chain_10 : decode cX8_chain 10 = .ok (.goto 28, 3) := by decide +kernel
theorem dX8_chain_13 : decode cX8_chain 13 = .ok (.aload_n 0, 1) := by decide +kernel
theorem dX8_chain_14 : decode cX8_chain 14 = .ok (.getfield 20, 3) := by decide +kernel
theorem dX8_chain_17 : decode cX8_chain 17 = .ok (.iload_n 1, 1) := by decide +kernel
theorem dX8_chain_18 : decode cX8_chain 18 = .ok (.iaload, 1) := by decide +kernel
theorem dX8_chain_19 : decode cX8_chain 19 = .ok (.iconst 1, 1) := by decide +kernel
theorem dX8_chain_20 : decode cX8_chain 20 = .ok (.if_icmp .eq 17, 3) := by decide +kernel
theorem dX8_chain_23 : decode cX8_chain 23 = .ok (.aload_n 0, 1) := by decide +kernel
theorem dX8_chain_24 : decode cX8_chain 24 = .ok (.getfield 20, 3) := by decide +kernel
theorem dX8_chain_27 : decode cX8_chain 27 = .ok (.iload_n 1, 1) := by decide +kernel
theorem dX8_chain_28 : decode cX8_chain 28 = .ok (.iaload, 1) := by decide +kernel
theorem dX8_chain_29 : decode cX8_chain 29 = .ok (.iconst 2, 1) := by decide +kernel
theorem dX8_chain_30 : decode cX8_chain 30 = .ok (.if_icmp .eq 7, 3) := by decide +kernel
theorem dX8_chain_33 : decode cX8_chain 33 = .ok (.iconst 2, 1) := by decide +kernel
theorem dX8_chain_34 : decode cX8_chain 34 = .ok (.goto 4, 3) := by decide +kernel
theorem dX8_chain_37 : decode cX8_chain 37 = .ok (.iconst 0, 1) := by decide +kernel
theorem dX8_chain_38 : decode cX8_chain 38 = .ok (.putfield 73, 3) := by decide +kernel
theorem dX8_chain_41 : decode cX8_chain 41 = .ok (.aload_n 0, 1) := by decide +kernel
theorem dX8_chain_42 : decode cX8_chain 42 = .ok (.getfield 73, 3) := by decide +kernel
theorem dX8_chain_45 : decode cX8_chain 45 = .ok (.ifCond .ne 21, 3) := by decide +kernel
theorem dX8_chain_48 : decode cX8_chain 48 = .ok (.aload_n 0, 1) := by decide +kernel
theorem dX8_chain_49 : decode cX8_chain 49 = .ok (.aload_n 0, 1) := by decide +kernel
theorem dX8_chain_50 : decode cX8_chain 50 = .ok (.aload_n 0, 1) := by decide +kernel
theorem dX8_chain_51 : decode cX8_chain 51 = .ok (.getfield 20, 3) := by decide +kernel
theorem dX8_chain_54 : decode cX8_chain 54 = .ok (.iload_n 1, 1) := by decide +kernel
theorem dX8_chain_55 : decode cX8_chain 55 = .ok (.iaload, 1) := by decide +kernel
theorem dX8_chain_56 : decode cX8_chain 56 = .ok (.invokevirtual 105, 3) := by decide +kernel
theorem dX8_chain_59 : decode cX8_chain 59 = .ok (.iload_n 1, 1) := by decide +kernel
theorem dX8_chain_60 : decode cX8_chain 60 = .ok (.invokevirtual 121, 3) := by decide +kernel
theorem dX8_chain_63 : decode cX8_chain 63 = .ok (.goto 4, 3) := by decide +kernel
theorem dX8_chain_66 : decode cX8_chain 66 = .ok (.lconst 0, 1) := by decide +kernel
theorem dX8_chain_67 : decode cX8_chain 67 = .ok (.lreturn, 1) := by decide +kernel
theorem dX8_isEnclosed_0 : decode cX8_isEnclosed 0 = .ok (.aload_n 0, 1) := by decide +kernel
theorem dX8_isEnclosed_1 : decode cX8_isEnclosed 1 = .ok (.lload_n 1, 1) := by decide +kernel
theorem dX8_isEnclosed_2 : decode cX8_isEnclosed 2 = .ok (.iload_n 3, 1) := by decide +kernel
theorem dX8_isEnclosed_3 : decode cX8_isEnclosed 3 = .ok (.invokevirtual 121, 3) := by decide +kernel
theorem dX8_isEnclosed_6 : decode cX8_isEnclosed 6 = .ok (.aload_n 0, 1) := by decide +kernel
theorem dX8_isEnclosed_7 : decode cX8_isEnclosed 7 = .ok (.invokevirtual 114, 3) := by decide +kernel
theorem dX8_isEnclosed_10 : decode cX8_isEnclosed 10 = .ok (.land, 1) := by decide +kernel
theorem dX8_isEnclosed_11 : decode cX8_isEnclosed 11 = .ok (.lconst 0, 1) := by decide +kernel
theorem dX8_isEnclosed_12 : decode cX8_isEnclosed 12 = .ok (.lcmp, 1) := by decide +kernel
theorem dX8_isEnclosed_13 : decode cX8_isEnclosed 13 = .ok (.ifCond .ne 7, 3) := by decide +kernel
theorem dX8_isEnclosed_16 : decode cX8_isEnclosed 16 = .ok (.iconst 1, 1) := by decide +kernel
theorem dX8_isEnclosed_17 : decode cX8_isEnclosed 17 = .ok (.goto 4, 3) := by decide +kernel
theorem dX8_isEnclosed_20 : decode cX8_isEnclosed 20 = .ok (.iconst 0, 1) := by decide +kernel
theorem dX8_isEnclosed_21 : decode cX8_isEnclosed 21 = .ok (.ireturn, 1) := by decide +kernel
theorem dX8_stonesToEnclose_0 : decode cX8_stonesToEnclose 0 = .ok (.aload_n 0, 1) := by decide +kernel
theorem dX8_stonesToEnclose_1 : decode cX8_stonesToEnclose 1 = .ok (.iload_n 1, 1) := by decide +kernel
theorem dX8_stonesToEnclose_2 : decode cX8_stonesToEnclose 2 = .ok (.iconst 0, 1) := by decide +kernel
theorem dX8_stonesToEnclose_3 : decode cX8_stonesToEnclose 3 = .ok (.iconst 1, 1) := by decide +kernel
theorem dX8_stonesToEnclose_4 : decode cX8_stonesToEnclose 4 = .ok (.invokestatic 80, 3) := by decide +kernel
theorem dX8_stonesToEnclose_7 : decode cX8_stonesToEnclose 7 = .ok (.ifCond .eq 11, 3) := by decide +kernel
theorem dX8_stonesToEnclose_10 : decode cX8_stonesToEnclose 10 = .ok (.aload_n 0, 1) := by decide +kernel
theorem dX8_stonesToEnclose_11 : decode cX8_stonesToEnclose 11 = .ok (.iload_n 2, 1) := by decide +kernel
theorem dX8_stonesToEnclose_12 : decode cX8_stonesToEnclose 12 = .ok (.invokevirtual 150, 3) := by decide +kernel
theorem dX8_stonesToEnclose_15 : decode cX8_stonesToEnclose 15 = .ok (.ifCond .ne 7, 3) := by decide +kernel
theorem dX8_stonesToEnclose_18 : decode cX8_stonesToEnclose 18 = .ok (.iconst 1, 1) := by decide +kernel
theorem dX8_stonesToEnclose_19 : decode cX8_stonesToEnclose 19 = .ok (.goto 17, 3) := by decide +kernel
theorem dX8_stonesToEnclose_22 : decode cX8_stonesToEnclose 22 = .ok (.aload_n 0, 1) := by decide +kernel
theorem dX8_stonesToEnclose_23 : decode cX8_stonesToEnclose 23 = .ok (.iload_n 1, 1) := by decide +kernel
theorem dX8_stonesToEnclose_24 : decode cX8_stonesToEnclose 24 = .ok (.iload_n 2, 1) := by decide +kernel
theorem dX8_stonesToEnclose_25 : decode cX8_stonesToEnclose 25 = .ok (.invokevirtual 185, 3) := by decide +kernel
theorem dX8_stonesToEnclose_28 : decode cX8_stonesToEnclose 28 = .ok (.ifCond .ne 7, 3) := by decide +kernel
theorem dX8_stonesToEnclose_31 : decode cX8_stonesToEnclose 31 = .ok (.iconst 2, 1) := by decide +kernel
theorem dX8_stonesToEnclose_32 : decode cX8_stonesToEnclose 32 = .ok (.goto 4, 3) := by decide +kernel
theorem dX8_stonesToEnclose_35 : decode cX8_stonesToEnclose 35 = .ok (.iconst 0, 1) := by decide +kernel
theorem dX8_stonesToEnclose_36 : decode cX8_stonesToEnclose 36 = .ok (.putfield 73, 3) := by decide +kernel
theorem dX8_stonesToEnclose_39 : decode cX8_stonesToEnclose 39 = .ok (.aload_n 0, 1) := by decide +kernel
theorem dX8_stonesToEnclose_40 : decode cX8_stonesToEnclose 40 = .ok (.getfield 73, 3) := by decide +kernel
theorem dX8_stonesToEnclose_43 : decode cX8_stonesToEnclose 43 = .ok (.ifCond .le 5, 3) := by decide +kernel
theorem dX8_stonesToEnclose_46 : decode cX8_stonesToEnclose 46 = .ok (.iconst 0, 1) := by decide +kernel
theorem dX8_stonesToEnclose_47 : decode cX8_stonesToEnclose 47 = .ok (.ireturn, 1) := by decide +kernel
theorem dX8_stonesToEnclose_48 : decode cX8_stonesToEnclose 48 = .ok (.aload_n 0, 1) := by decide +kernel
theorem dX8_stonesToEnclose_49 : decode cX8_stonesToEnclose 49 = .ok (.iload_n 1, 1) := by decide +kernel
theorem dX8_stonesToEnclose_50 : decode cX8_stonesToEnclose 50 = .ok (.invokevirtual 111, 3) := by decide +kernel
theorem dX8_stonesToEnclose_53 : decode cX8_stonesToEnclose 53 = .ok (.lstore_n 3, 1) := by decide +kernel
theorem dX8_stonesToEnclose_54 : decode cX8_stonesToEnclose 54 = .ok (.aload_n 0, 1) := by decide +kernel
theorem dX8_stonesToEnclose_55 : decode cX8_stonesToEnclose 55 = .ok (.lload_n 3, 1) := by decide +kernel
theorem dX8_stonesToEnclose_56 : decode cX8_stonesToEnclose 56 = .ok (.iload_n 2, 1) := by decide +kernel
theorem dX8_stonesToEnclose_57 : decode cX8_stonesToEnclose 57 = .ok (.invokevirtual 188, 3) := by decide +kernel
theorem dX8_stonesToEnclose_60 : decode cX8_stonesToEnclose 60 = .ok (.ifCond .eq 5, 3) := by decide +kernel
theorem dX8_stonesToEnclose_63 : decode cX8_stonesToEnclose 63 = .ok (.iconst 0, 1) := by decide +kernel
theorem dX8_stonesToEnclose_64 : decode cX8_stonesToEnclose 64 = .ok (.ireturn, 1) := by decide +kernel
theorem dX8_stonesToEnclose_65 : decode cX8_stonesToEnclose 65 = .ok (.aload_n 0, 1) := by decide +kernel
theorem dX8_stonesToEnclose_66 : decode cX8_stonesToEnclose 66 = .ok (.iconst 0, 1) := by decide +kernel
theorem dX8_stonesToEnclose_67 : decode cX8_stonesToEnclose 67 = .ok (.invokevirtual 105, 3) := by decide +kernel
theorem dX8_stonesToEnclose_70 : decode cX8_stonesToEnclose 70 = .ok (.lconst 1, 1) := by decide +kernel
theorem dX8_stonesToEnclose_71 : decode cX8_stonesToEnclose 71 = .ok (.iload_n 2, 1) := by decide +kernel
theorem dX8_stonesToEnclose_72 : decode cX8_stonesToEnclose 72 = .ok (.lshl, 1) := by decide +kernel
theorem dX8_stonesToEnclose_73 : decode cX8_stonesToEnclose 73 = .ok (.ldc2_w 95, 3) := by decide +kernel
theorem dX8_stonesToEnclose_76 : decode cX8_stonesToEnclose 76 = .ok (.lxor, 1) := by decide +kernel
theorem dX8_stonesToEnclose_77 : decode cX8_stonesToEnclose 77 = .ok (.land, 1) := by decide +kernel
theorem dX8_stonesToEnclose_78 : decode cX8_stonesToEnclose 78 = .ok (.lstore 5, 2) := by decide +kernel
theorem dX8_stonesToEnclose_80 : decode cX8_stonesToEnclose 80 = .ok (.iconst 3, 1) := by decide +kernel
theorem dX8_stonesToEnclose_81 : decode cX8_stonesToEnclose 81 = .ok (.istore 7, 2) := by decide +kernel
theorem dX8_stonesToEnclose_83 : decode cX8_stonesToEnclose 83 = .ok (.iconst 0, 1) := by decide +kernel
theorem dX8_stonesToEnclose_84 : decode cX8_stonesToEnclose 84 = .ok (.istore 8, 2) := by decide +kernel
theorem dX8_stonesToEnclose_86 : decode cX8_stonesToEnclose 86 = .ok (.iload 8, 2) := by decide +kernel
theorem dX8_stonesToEnclose_88 : decode cX8_stonesToEnclose 88 = .ok (.aload_n 0, 1) := by decide +kernel
theorem dX8_stonesToEnclose_89 : decode cX8_stonesToEnclose 89 = .ok (.invokevirtual 76, 3) := by decide +kernel
theorem dX8_stonesToEnclose_92 : decode cX8_stonesToEnclose 92 = .ok (.if_icmp .ge 113, 3) := by decide +kernel
theorem dX8_stonesToEnclose_95 : decode cX8_stonesToEnclose 95 = .ok (.lload 5, 2) := by decide +kernel
theorem dX8_stonesToEnclose_97 : decode cX8_stonesToEnclose 97 = .ok (.iload 8, 2) := by decide +kernel
theorem dX8_stonesToEnclose_99 : decode cX8_stonesToEnclose 99 = .ok (.lshr, 1) := by decide +kernel
theorem dX8_stonesToEnclose_100 : decode cX8_stonesToEnclose 100 = .ok (.lconst 1, 1) := by decide +kernel
theorem dX8_stonesToEnclose_101 : decode cX8_stonesToEnclose 101 = .ok (.land, 1) := by decide +kernel
theorem dX8_stonesToEnclose_102 : decode cX8_stonesToEnclose 102 = .ok (.lconst 0, 1) := by decide +kernel
theorem dX8_stonesToEnclose_103 : decode cX8_stonesToEnclose 103 = .ok (.lcmp, 1) := by decide +kernel
theorem dX8_stonesToEnclose_104 : decode cX8_stonesToEnclose 104 = .ok (.ifCond .ne 6, 3) := by decide +kernel
theorem dX8_stonesToEnclose_107 : decode cX8_stonesToEnclose 107 = .ok (.goto 92, 3) := by decide +kernel
theorem dX8_stonesToEnclose_110 : decode cX8_stonesToEnclose 110 = .ok (.aload_n 0, 1) := by decide +kernel
theorem dX8_stonesToEnclose_111 : decode cX8_stonesToEnclose 111 = .ok (.lload_n 3, 1) := by decide +kernel
theorem dX8_stonesToEnclose_112 : decode cX8_stonesToEnclose 112 = .ok (.lconst 1, 1) := by decide +kernel
theorem dX8_stonesToEnclose_113 : decode cX8_stonesToEnclose 113 = .ok (.iload 8, 2) := by decide +kernel
theorem dX8_stonesToEnclose_115 : decode cX8_stonesToEnclose 115 = .ok (.lshl, 1) := by decide +kernel
theorem dX8_stonesToEnclose_116 : decode cX8_stonesToEnclose 116 = .ok (.ldc2_w 95, 3) := by decide +kernel
theorem dX8_stonesToEnclose_119 : decode cX8_stonesToEnclose 119 = .ok (.lxor, 1) := by decide +kernel
theorem dX8_stonesToEnclose_120 : decode cX8_stonesToEnclose 120 = .ok (.land, 1) := by decide +kernel
theorem dX8_stonesToEnclose_121 : decode cX8_stonesToEnclose 121 = .ok (.iload_n 2, 1) := by decide +kernel
theorem dX8_stonesToEnclose_122 : decode cX8_stonesToEnclose 122 = .ok (.invokevirtual 188, 3) := by decide +kernel
theorem dX8_stonesToEnclose_125 : decode cX8_stonesToEnclose 125 = .ok (.ifCond .eq 5, 3) := by decide +kernel
theorem dX8_stonesToEnclose_128 : decode cX8_stonesToEnclose 128 = .ok (.iconst 1, 1) := by decide +kernel
theorem dX8_stonesToEnclose_129 : decode cX8_stonesToEnclose 129 = .ok (.ireturn, 1) := by decide +kernel
theorem dX8_stonesToEnclose_130 : decode cX8_stonesToEnclose 130 = .ok (.iload 8, 2) := by decide +kernel
theorem dX8_stonesToEnclose_132 : decode cX8_stonesToEnclose 132 = .ok (.iconst 1, 1) := by decide +kernel
theorem dX8_stonesToEnclose_133 : decode cX8_stonesToEnclose 133 = .ok (.iadd, 1) := by decide +kernel
theorem dX8_stonesToEnclose_134 : decode cX8_stonesToEnclose 134 = .ok (.istore 9, 2) := by decide +kernel
theorem dX8_stonesToEnclose_136 : decode cX8_stonesToEnclose 136 = .ok (.iload 9, 2) := by decide +kernel
theorem dX8_stonesToEnclose_138 : decode cX8_stonesToEnclose 138 = .ok (.aload_n 0, 1) := by decide +kernel
theorem dX8_stonesToEnclose_139 : decode cX8_stonesToEnclose 139 = .ok (.invokevirtual 76, 3) := by decide +kernel
theorem dX8_stonesToEnclose_142 : decode cX8_stonesToEnclose 142 = .ok (.if_icmp .ge 57, 3) := by decide +kernel
theorem dX8_stonesToEnclose_145 : decode cX8_stonesToEnclose 145 = .ok (.iload 7, 2) := by decide +kernel
theorem dX8_stonesToEnclose_147 : decode cX8_stonesToEnclose 147 = .ok (.iconst 2, 1) := by decide +kernel
theorem dX8_stonesToEnclose_148 : decode cX8_stonesToEnclose 148 = .ok (.if_icmp .le 51, 3) := by decide +kernel
theorem dX8_stonesToEnclose_151 : decode cX8_stonesToEnclose 151 = .ok (.lload 5, 2) := by decide +kernel
theorem dX8_stonesToEnclose_153 : decode cX8_stonesToEnclose 153 = .ok (.iload 9, 2) := by decide +kernel
theorem dX8_stonesToEnclose_155 : decode cX8_stonesToEnclose 155 = .ok (.lshr, 1) := by decide +kernel
theorem dX8_stonesToEnclose_156 : decode cX8_stonesToEnclose 156 = .ok (.lconst 1, 1) := by decide +kernel
theorem dX8_stonesToEnclose_157 : decode cX8_stonesToEnclose 157 = .ok (.land, 1) := by decide +kernel
theorem dX8_stonesToEnclose_158 : decode cX8_stonesToEnclose 158 = .ok (.lconst 1, 1) := by decide +kernel
theorem dX8_stonesToEnclose_159 : decode cX8_stonesToEnclose 159 = .ok (.lcmp, 1) := by decide +kernel
theorem dX8_stonesToEnclose_160 : decode cX8_stonesToEnclose 160 = .ok (.ifCond .ne 33, 3) := by decide +kernel
theorem dX8_stonesToEnclose_163 : decode cX8_stonesToEnclose 163 = .ok (.aload_n 0, 1) := by decide +kernel
theorem dX8_stonesToEnclose_164 : decode cX8_stonesToEnclose 164 = .ok (.lload_n 3, 1) := by decide +kernel
theorem dX8_stonesToEnclose_165 : decode cX8_stonesToEnclose 165 = .ok (.lconst 1, 1) := by decide +kernel
theorem dX8_stonesToEnclose_166 : decode cX8_stonesToEnclose 166 = .ok (.iload 8, 2) := by decide +kernel
theorem dX8_stonesToEnclose_168 : decode cX8_stonesToEnclose 168 = .ok (.lshl, 1) := by decide +kernel
theorem dX8_stonesToEnclose_169 : decode cX8_stonesToEnclose 169 = .ok (.ldc2_w 95, 3) := by decide +kernel
theorem dX8_stonesToEnclose_172 : decode cX8_stonesToEnclose 172 = .ok (.lxor, 1) := by decide +kernel
theorem dX8_stonesToEnclose_173 : decode cX8_stonesToEnclose 173 = .ok (.land, 1) := by decide +kernel
theorem dX8_stonesToEnclose_174 : decode cX8_stonesToEnclose 174 = .ok (.lconst 1, 1) := by decide +kernel
theorem dX8_stonesToEnclose_175 : decode cX8_stonesToEnclose 175 = .ok (.iload 9, 2) := by decide +kernel
theorem dX8_stonesToEnclose_177 : decode cX8_stonesToEnclose 177 = .ok (.lshl, 1) := by decide +kernel
theorem dX8_stonesToEnclose_178 : decode cX8_stonesToEnclose 178 = .ok (.ldc2_w 95, 3) := by decide +kernel
theorem dX8_stonesToEnclose_181 : decode cX8_stonesToEnclose 181 = .ok (.lxor, 1) := by decide +kernel
theorem dX8_stonesToEnclose_182 : decode cX8_stonesToEnclose 182 = .ok (.land, 1) := by decide +kernel
theorem dX8_stonesToEnclose_183 : decode cX8_stonesToEnclose 183 = .ok (.iload_n 2, 1) := by decide +kernel
theorem dX8_stonesToEnclose_184 : decode cX8_stonesToEnclose 184 = .ok (.invokevirtual 188, 3) := by decide +kernel
theorem dX8_stonesToEnclose_187 : decode cX8_stonesToEnclose 187 = .ok (.ifCond .eq 6, 3) := by decide +kernel
theorem dX8_stonesToEnclose_190 : decode cX8_stonesToEnclose 190 = .ok (.iconst 2, 1) := by decide +kernel
theorem dX8_stonesToEnclose_191 : decode cX8_stonesToEnclose 191 = .ok (.istore 7, 2) := by decide +kernel
theorem dX8_stonesToEnclose_193 : decode cX8_stonesToEnclose 193 = .ok (.iinc 9 1, 3) := by decide +kernel
theorem dX8_stonesToEnclose_196 : decode cX8_stonesToEnclose 196 = .ok (.goto (-60), 3) := by decide +kernel
theorem dX8_stonesToEnclose_199 : decode cX8_stonesToEnclose 199 = .ok (.iinc 8 1, 3) := by decide +kernel
theorem dX8_stonesToEnclose_202 : decode cX8_stonesToEnclose 202 = .ok (.goto (-116), 3) := by decide +kernel
theorem dX8_stonesToEnclose_205 : decode cX8_stonesToEnclose 205 = .ok (.iload 7, 2) := by decide +kernel
theorem dX8_stonesToEnclose_207 : decode cX8_stonesToEnclose 207 = .ok (.iconst 2, 1) := by decide +kernel
theorem dX8_stonesToEnclose_208 : decode cX8_stonesToEnclose 208 = .ok (.if_icmp .ne 7, 3) := by decide +kernel
theorem dX8_stonesToEnclose_211 : decode cX8_stonesToEnclose 211 = .ok (.iconst 2, 1) := by decide +kernel
theorem dX8_stonesToEnclose_212 : decode cX8_stonesToEnclose 212 = .ok (.goto 8, 3) := by decide +kernel
theorem dX8_stonesToEnclose_215 : decode cX8_stonesToEnclose 215 = .ok (.aload_n 0, 1) := by decide +kernel
theorem dX8_stonesToEnclose_216 : decode cX8_stonesToEnclose 216 = .ok (.iconst 2, 1) := by decide +kernel
theorem dX8_stonesToEnclose_217 : decode cX8_stonesToEnclose 217 = .ok (.invokevirtual 178, 3) := by decide +kernel
theorem dX8_stonesToEnclose_220 : decode cX8_stonesToEnclose 220 = .ok (.ireturn, 1) := by decide +kernel
theorem dX8_share_0 : decode cX8_share 0 = .ok (.aload_n 0, 1) := by decide +kernel
theorem dX8_share_1 : decode cX8_share 1 = .ok (.iload_n 1, 1) := by decide +kernel
theorem dX8_share_2 : decode cX8_share 2 = .ok (.iconst 0, 1) := by decide +kernel
theorem dX8_share_3 : decode cX8_share 3 = .ok (.iconst 1, 1) := by decide +kernel
theorem dX8_share_4 : decode cX8_share 4 = .ok (.invokestatic 80, 3) := by decide +kernel
theorem dX8_share_7 : decode cX8_share 7 = .ok (.ifCond .eq 7, 3) := by decide +kernel
theorem dX8_share_10 : decode cX8_share 10 = .ok (.iconst 0, 1) := by decide +kernel
theorem dX8_share_11 : decode cX8_share 11 = .ok (.goto 4, 3) := by decide +kernel
theorem dX8_share_14 : decode cX8_share 14 = .ok (.iconst 1, 1) := by decide +kernel
theorem dX8_share_15 : decode cX8_share 15 = .ok (.putfield 73, 3) := by decide +kernel
theorem dX8_share_18 : decode cX8_share 18 = .ok (.aload_n 0, 1) := by decide +kernel
theorem dX8_share_19 : decode cX8_share 19 = .ok (.getfield 73, 3) := by decide +kernel
theorem dX8_share_22 : decode cX8_share 22 = .ok (.iconst 1, 1) := by decide +kernel
theorem dX8_share_23 : decode cX8_share 23 = .ok (.if_icmp .ne 7, 3) := by decide +kernel
theorem dX8_share_26 : decode cX8_share 26 = .ok (.dconst 0, 1) := by decide +kernel
theorem dX8_share_27 : decode cX8_share 27 = .ok (.goto 25, 3) := by decide +kernel
theorem dX8_share_30 : decode cX8_share 30 = .ok (.aload_n 0, 1) := by decide +kernel
theorem dX8_share_31 : decode cX8_share 31 = .ok (.iconst 1, 1) := by decide +kernel
theorem dX8_share_32 : decode cX8_share 32 = .ok (.iload_n 1, 1) := by decide +kernel
theorem dX8_share_33 : decode cX8_share 33 = .ok (.iadd, 1) := by decide +kernel
theorem dX8_share_34 : decode cX8_share 34 = .ok (.invokevirtual 84, 3) := by decide +kernel
theorem dX8_share_37 : decode cX8_share 37 = .ok (.aload_n 0, 1) := by decide +kernel
theorem dX8_share_38 : decode cX8_share 38 = .ok (.iconst 3, 1) := by decide +kernel
theorem dX8_share_39 : decode cX8_share 39 = .ok (.iload_n 1, 1) := by decide +kernel
theorem dX8_share_40 : decode cX8_share 40 = .ok (.iadd, 1) := by decide +kernel
theorem dX8_share_41 : decode cX8_share 41 = .ok (.invokevirtual 84, 3) := by decide +kernel
theorem dX8_share_44 : decode cX8_share 44 = .ok (.iadd, 1) := by decide +kernel
theorem dX8_share_45 : decode cX8_share 45 = .ok (.i2d, 1) := by decide +kernel
theorem dX8_share_46 : decode cX8_share 46 = .ok (.aload_n 0, 1) := by decide +kernel
theorem dX8_share_47 : decode cX8_share 47 = .ok (.invokevirtual 76, 3) := by decide +kernel
theorem dX8_share_50 : decode cX8_share 50 = .ok (.i2d, 1) := by decide +kernel
theorem dX8_share_51 : decode cX8_share 51 = .ok (.ddiv, 1) := by decide +kernel
theorem dX8_share_52 : decode cX8_share 52 = .ok (.dreturn, 1) := by decide +kernel
theorem dX8_round_0 : decode cX8_round 0 = .ok (.aload_n 0, 1) := by decide +kernel
theorem dX8_round_1 : decode cX8_round 1 = .ok (.iload_n 1, 1) := by decide +kernel
theorem dX8_round_2 : decode cX8_round 2 = .ok (.iconst 0, 1) := by decide +kernel
theorem dX8_round_3 : decode cX8_round 3 = .ok (.aload_n 0, 1) := by decide +kernel
theorem dX8_round_4 : decode cX8_round 4 = .ok (.getfield 20, 3) := by decide +kernel
theorem dX8_round_7 : decode cX8_round 7 = .ok (.sipush 153, 3) := by decide +kernel
theorem dX8_round_10 : decode cX8_round 10 = .ok (.iaload, 1) := by decide +kernel
theorem dX8_round_11 : decode cX8_round 11 = .ok (.iconst 1, 1) := by decide +kernel
theorem dX8_round_12 : decode cX8_round 12 = .ok (.isub, 1) := by decide +kernel
theorem dX8_round_13 : decode cX8_round 13 = .ok (.invokestatic 80, 3) := by decide +kernel
theorem dX8_round_16 : decode cX8_round 16 = .ok (.ifCond .ne 7, 3) := by decide +kernel
theorem dX8_round_19 : decode cX8_round 19 = .ok (.iconst 1, 1) := by decide +kernel
theorem dX8_round_20 : decode cX8_round 20 = .ok (.goto 18, 3) := by decide +kernel
theorem dX8_round_23 : decode cX8_round 23 = .ok (.iload_n 2, 1) := by decide +kernel
theorem dX8_round_24 : decode cX8_round 24 = .ok (.iconst 0, 1) := by decide +kernel
theorem dX8_round_25 : decode cX8_round 25 = .ok (.bipush 6, 2) := by decide +kernel
theorem dX8_round_27 : decode cX8_round 27 = .ok (.invokestatic 80, 3) := by decide +kernel
theorem dX8_round_30 : decode cX8_round 30 = .ok (.ifCond .ne 7, 3) := by decide +kernel
theorem dX8_round_33 : decode cX8_round 33 = .ok (.iconst 2, 1) := by decide +kernel
theorem dX8_round_34 : decode cX8_round 34 = .ok (.goto 4, 3) := by decide +kernel
theorem dX8_round_37 : decode cX8_round 37 = .ok (.iconst 0, 1) := by decide +kernel
theorem dX8_round_38 : decode cX8_round 38 = .ok (.putfield 73, 3) := by decide +kernel
theorem dX8_round_41 : decode cX8_round 41 = .ok (.aload_n 0, 1) := by decide +kernel
theorem dX8_round_42 : decode cX8_round 42 = .ok (.getfield 73, 3) := by decide +kernel
theorem dX8_round_45 : decode cX8_round 45 = .ok (.ifCond .ne 17, 3) := by decide +kernel
theorem dX8_round_48 : decode cX8_round 48 = .ok (.aload_n 0, 1) := by decide +kernel
theorem dX8_round_49 : decode cX8_round 49 = .ok (.getfield 32, 3) := by decide +kernel
theorem dX8_round_52 : decode cX8_round 52 = .ok (.bipush 7, 2) := by decide +kernel
theorem dX8_round_54 : decode cX8_round 54 = .ok (.iload_n 1, 1) := by decide +kernel
theorem dX8_round_55 : decode cX8_round 55 = .ok (.imul, 1) := by decide +kernel
theorem dX8_round_56 : decode cX8_round 56 = .ok (.iload_n 2, 1) := by decide +kernel
theorem dX8_round_57 : decode cX8_round 57 = .ok (.iadd, 1) := by decide +kernel
theorem dX8_round_58 : decode cX8_round 58 = .ok (.iaload, 1) := by decide +kernel
theorem dX8_round_59 : decode cX8_round 59 = .ok (.goto 4, 3) := by decide +kernel
theorem dX8_round_62 : decode cX8_round 62 = .ok (.iconst 0, 1) := by decide +kernel
theorem dX8_round_63 : decode cX8_round 63 = .ok (.ireturn, 1) := by decide +kernel
theorem dX8_turningPoint_0 : decode cX8_turningPoint 0 = .ok (.aload_n 0, 1) := by decide +kernel
theorem dX8_turningPoint_1 : decode cX8_turningPoint 1 = .ok (.aload_n 0, 1) := by decide +kernel
theorem dX8_turningPoint_2 : decode cX8_turningPoint 2 = .ok (.getfield 20, 3) := by decide +kernel
theorem dX8_turningPoint_5 : decode cX8_turningPoint 5 = .ok (.sipush 153, 3) := by decide +kernel
theorem dX8_turningPoint_8 : decode cX8_turningPoint 8 = .ok (.iaload, 1) := by decide +kernel
theorem dX8_turningPoint_9 : decode cX8_turningPoint 9 = .ok (.ifCond .ne 7, 3) := by decide +kernel
theorem dX8_turningPoint_12 : decode cX8_turningPoint 12 = .ok (.iconst 1, 1) := by decide +kernel
theorem dX8_turningPoint_13 : decode cX8_turningPoint 13 = .ok (.goto 4, 3) := by decide +kernel
theorem dX8_turningPoint_16 : decode cX8_turningPoint 16 = .ok (.iconst 0, 1) := by decide +kernel
theorem dX8_turningPoint_17 : decode cX8_turningPoint 17 = .ok (.putfield 73, 3) := by decide +kernel
theorem dX8_turningPoint_20 : decode cX8_turningPoint 20 = .ok (.iconst 0, 1) := by decide +kernel
theorem dX8_turningPoint_21 : decode cX8_turningPoint 21 = .ok (.istore_n 1, 1) := by decide +kernel
theorem dX8_turningPoint_22 : decode cX8_turningPoint 22 = .ok (.iconst (-1), 1) := by decide +kernel
theorem dX8_turningPoint_23 : decode cX8_turningPoint 23 = .ok (.istore_n 2, 1) := by decide +kernel
theorem dX8_turningPoint_24 : decode cX8_turningPoint 24 = .ok (.aload_n 0, 1) := by decide +kernel
theorem dX8_turningPoint_25 : decode cX8_turningPoint 25 = .ok (.getfield 16, 3) := by decide +kernel
theorem dX8_turningPoint_28 : decode cX8_turningPoint 28 = .ok (.iconst 0, 1) := by decide +kernel
theorem dX8_turningPoint_29 : decode cX8_turningPoint 29 = .ok (.iaload, 1) := by decide +kernel
theorem dX8_turningPoint_30 : decode cX8_turningPoint 30 = .ok (.aload_n 0, 1) := by decide +kernel
theorem dX8_turningPoint_31 : decode cX8_turningPoint 31 = .ok (.getfield 16, 3) := by decide +kernel
theorem dX8_turningPoint_34 : decode cX8_turningPoint 34 = .ok (.iconst 1, 1) := by decide +kernel
theorem dX8_turningPoint_35 : decode cX8_turningPoint 35 = .ok (.iaload, 1) := by decide +kernel
theorem dX8_turningPoint_36 : decode cX8_turningPoint 36 = .ok (.isub, 1) := by decide +kernel
theorem dX8_turningPoint_37 : decode cX8_turningPoint 37 = .ok (.istore_n 3, 1) := by decide +kernel
theorem dX8_turningPoint_38 : decode cX8_turningPoint 38 = .ok (.iconst 0, 1) := by decide +kernel
theorem dX8_turningPoint_39 : decode cX8_turningPoint 39 = .ok (.istore 4, 2) := by decide +kernel
theorem dX8_turningPoint_41 : decode cX8_turningPoint 41 = .ok (.iload 4, 2) := by decide +kernel
theorem dX8_turningPoint_43 : decode cX8_turningPoint 43 = .ok (.aload_n 0, 1) := by decide +kernel
theorem dX8_turningPoint_44 : decode cX8_turningPoint 44 = .ok (.getfield 20, 3) := by decide +kernel
theorem dX8_turningPoint_47 : decode cX8_turningPoint 47 = .ok (.sipush 153, 3) := by decide +kernel
theorem dX8_turningPoint_50 : decode cX8_turningPoint 50 = .ok (.iaload, 1) := by decide +kernel
theorem dX8_turningPoint_51 : decode cX8_turningPoint 51 = .ok (.if_icmp .ge 71, 3) := by decide +kernel
theorem dX8_turningPoint_54 : decode cX8_turningPoint 54 = .ok (.aload_n 0, 1) := by decide +kernel
theorem dX8_turningPoint_55 : decode cX8_turningPoint 55 = .ok (.getfield 32, 3) := by decide +kernel
theorem dX8_turningPoint_58 : decode cX8_turningPoint 58 = .ok (.bipush 7, 2) := by decide +kernel
theorem dX8_turningPoint_60 : decode cX8_turningPoint 60 = .ok (.iload 4, 2) := by decide +kernel
theorem dX8_turningPoint_62 : decode cX8_turningPoint 62 = .ok (.imul, 1) := by decide +kernel
theorem dX8_turningPoint_63 : decode cX8_turningPoint 63 = .ok (.iconst 5, 1) := by decide +kernel
theorem dX8_turningPoint_64 : decode cX8_turningPoint 64 = .ok (.iadd, 1) := by decide +kernel
theorem dX8_turningPoint_65 : decode cX8_turningPoint 65 = .ok (.iaload, 1) := by decide +kernel
theorem dX8_turningPoint_66 : decode cX8_turningPoint 66 = .ok (.aload_n 0, 1) := by decide +kernel
theorem dX8_turningPoint_67 : decode cX8_turningPoint 67 = .ok (.getfield 32, 3) := by decide +kernel
theorem dX8_turningPoint_70 : decode cX8_turningPoint 70 = .ok (.bipush 7, 2) := by decide +kernel
theorem dX8_turningPoint_72 : decode cX8_turningPoint 72 = .ok (.iload 4, 2) := by decide +kernel
theorem dX8_turningPoint_74 : decode cX8_turningPoint 74 = .ok (.imul, 1) := by decide +kernel
theorem dX8_turningPoint_75 : decode cX8_turningPoint 75 = .ok (.bipush 6, 2) := by decide +kernel
theorem dX8_turningPoint_77 : decode cX8_turningPoint 77 = .ok (.iadd, 1) := by decide +kernel
theorem dX8_turningPoint_78 : decode cX8_turningPoint 78 = .ok (.iaload, 1) := by decide +kernel
theorem dX8_turningPoint_79 : decode cX8_turningPoint 79 = .ok (.isub, 1) := by decide +kernel
theorem dX8_turningPoint_80 : decode cX8_turningPoint 80 = .ok (.istore 5, 2) := by decide +kernel
theorem dX8_turningPoint_82 : decode cX8_turningPoint 82 = .ok (.iload 5, 2) := by decide +kernel
theorem dX8_turningPoint_84 : decode cX8_turningPoint 84 = .ok (.iload_n 3, 1) := by decide +kernel
theorem dX8_turningPoint_85 : decode cX8_turningPoint 85 = .ok (.if_icmp .le 10, 3) := by decide +kernel
theorem dX8_turningPoint_88 : decode cX8_turningPoint 88 = .ok (.iload 5, 2) := by decide +kernel
theorem dX8_turningPoint_90 : decode cX8_turningPoint 90 = .ok (.iload_n 3, 1) := by decide +kernel
theorem dX8_turningPoint_91 : decode cX8_turningPoint 91 = .ok (.isub, 1) := by decide +kernel
theorem dX8_turningPoint_92 : decode cX8_turningPoint 92 = .ok (.goto 7, 3) := by decide +kernel
theorem dX8_turningPoint_95 : decode cX8_turningPoint 95 = .ok (.iload_n 3, 1) := by decide +kernel
theorem dX8_turningPoint_96 : decode cX8_turningPoint 96 = .ok (.iload 5, 2) := by decide +kernel
theorem dX8_turningPoint_98 : decode cX8_turningPoint 98 = .ok (.isub, 1) := by decide +kernel
theorem dX8_turningPoint_99 : decode cX8_turningPoint 99 = .ok (.istore 6, 2) := by decide +kernel
theorem dX8_turningPoint_101 : decode cX8_turningPoint 101 = .ok (.iload 6, 2) := by decide +kernel
theorem dX8_turningPoint_103 : decode cX8_turningPoint 103 = .ok (.iload_n 2, 1) := by decide +kernel
theorem dX8_turningPoint_104 : decode cX8_turningPoint 104 = .ok (.if_icmp .le 9, 3) := by decide +kernel
theorem dX8_turningPoint_107 : decode cX8_turningPoint 107 = .ok (.iload 4, 2) := by decide +kernel
theorem dX8_turningPoint_109 : decode cX8_turningPoint 109 = .ok (.istore_n 1, 1) := by decide +kernel
theorem dX8_turningPoint_110 : decode cX8_turningPoint 110 = .ok (.iload 6, 2) := by decide +kernel
theorem dX8_turningPoint_112 : decode cX8_turningPoint 112 = .ok (.istore_n 2, 1) := by decide +kernel
theorem dX8_turningPoint_113 : decode cX8_turningPoint 113 = .ok (.iload 5, 2) := by decide +kernel
theorem dX8_turningPoint_115 : decode cX8_turningPoint 115 = .ok (.istore_n 3, 1) := by decide +kernel
theorem dX8_turningPoint_116 : decode cX8_turningPoint 116 = .ok (.iinc 4 1, 3) := by decide +kernel
theorem dX8_turningPoint_119 : decode cX8_turningPoint 119 = .ok (.goto (-78), 3) := by decide +kernel
theorem dX8_turningPoint_122 : decode cX8_turningPoint 122 = .ok (.iload_n 1, 1) := by decide +kernel
theorem dX8_turningPoint_123 : decode cX8_turningPoint 123 = .ok (.ireturn, 1) := by decide +kernel
theorem dX8_outcome_0 : decode cX8_outcome 0 = .ok (.aload_n 0, 1) := by decide +kernel
theorem dX8_outcome_1 : decode cX8_outcome 1 = .ok (.iload_n 1, 1) := by decide +kernel
theorem dX8_outcome_2 : decode cX8_outcome 2 = .ok (.invokevirtual 138, 3) := by decide +kernel
theorem dX8_outcome_5 : decode cX8_outcome 5 = .ok (.aload_n 0, 1) := by decide +kernel
theorem dX8_outcome_6 : decode cX8_outcome 6 = .ok (.iconst 1, 1) := by decide +kernel
theorem dX8_outcome_7 : decode cX8_outcome 7 = .ok (.iload_n 1, 1) := by decide +kernel
theorem dX8_outcome_8 : decode cX8_outcome 8 = .ok (.isub, 1) := by decide +kernel
theorem dX8_outcome_9 : decode cX8_outcome 9 = .ok (.invokevirtual 138, 3) := by decide +kernel
theorem dX8_outcome_12 : decode cX8_outcome 12 = .ok (.isub, 1) := by decide +kernel
theorem dX8_outcome_13 : decode cX8_outcome 13 = .ok (.ireturn, 1) := by decide +kernel
theorem dX8_makes_0 : decode cX8_makes 0 = .ok (.iload_n 1, 1) := by decide +kernel
theorem dX8_makes_1 : decode cX8_makes 1 = .ok (.ifCond .ne 12, 3) := by decide +kernel
theorem dX8_makes_4 : decode cX8_makes 4 = .ok (.aload_n 0, 1) := by decide +kernel
theorem dX8_makes_5 : decode cX8_makes 5 = .ok (.iload_n 2, 1) := by decide +kernel
theorem dX8_makes_6 : decode cX8_makes 6 = .ok (.iload_n 3, 1) := by decide +kernel
theorem dX8_makes_7 : decode cX8_makes 7 = .ok (.invokevirtual 164, 3) := by decide +kernel
theorem dX8_makes_10 : decode cX8_makes 10 = .ok (.goto 9, 3) := by decide +kernel
theorem dX8_makes_13 : decode cX8_makes 13 = .ok (.aload_n 0, 1) := by decide +kernel
theorem dX8_makes_14 : decode cX8_makes 14 = .ok (.iload_n 3, 1) := by decide +kernel
theorem dX8_makes_15 : decode cX8_makes 15 = .ok (.iload_n 2, 1) := by decide +kernel
theorem dX8_makes_16 : decode cX8_makes 16 = .ok (.invokevirtual 164, 3) := by decide +kernel
theorem dX8_makes_19 : decode cX8_makes 19 = .ok (.return_, 1) := by decide +kernel
theorem dX8_near_0 : decode cX8_near 0 = .ok (.aload_n 0, 1) := by decide +kernel
theorem dX8_near_1 : decode cX8_near 1 = .ok (.getfield 20, 3) := by decide +kernel
theorem dX8_near_4 : decode cX8_near 4 = .ok (.aload_n 0, 1) := by decide +kernel
theorem dX8_near_5 : decode cX8_near 5 = .ok (.getfield 26, 3) := by decide +kernel
theorem dX8_near_8 : decode cX8_near 8 = .ok (.sipush 155, 3) := by decide +kernel
theorem dX8_near_11 : decode cX8_near 11 = .ok (.invokestatic 192, 3) := by decide +kernel
theorem dX8_near_14 : decode cX8_near 14 = .ok (.ldc 198, 2) := by decide +kernel
theorem dX8_near_16 : decode cX8_near 16 = .ok (.istore_n 3, 1) := by decide +kernel
theorem dX8_near_17 : decode cX8_near 17 = .ok (.iconst (-1), 1) := by decide +kernel
theorem dX8_near_18 : decode cX8_near 18 = .ok (.istore 4, 2) := by decide +kernel
theorem dX8_near_20 : decode cX8_near 20 = .ok (.iload 4, 2) := by decide +kernel
theorem dX8_near_22 : decode cX8_near 22 = .ok (.aload_n 0, 1) := by decide +kernel
theorem dX8_near_23 : decode cX8_near 23 = .ok (.invokevirtual 76, 3) := by decide +kernel
theorem dX8_near_26 : decode cX8_near 26 = .ok (.if_icmp .ge 63, 3) := by decide +kernel
theorem dX8_near_29 : decode cX8_near 29 = .ok (.aload_n 0, 1) := by decide +kernel
theorem dX8_near_30 : decode cX8_near 30 = .ok (.iload 4, 2) := by decide +kernel
theorem dX8_near_32 : decode cX8_near 32 = .ok (.invokevirtual 157, 3) := by decide +kernel
theorem dX8_near_35 : decode cX8_near 35 = .ok (.ifCond .ne 6, 3) := by decide +kernel
theorem dX8_near_38 : decode cX8_near 38 = .ok (.goto 45, 3) := by decide +kernel
theorem dX8_near_41 : decode cX8_near 41 = .ok (.aload_n 0, 1) := by decide +kernel
theorem dX8_near_42 : decode cX8_near 42 = .ok (.iload_n 1, 1) := by decide +kernel
theorem dX8_near_43 : decode cX8_near 43 = .ok (.iload_n 2, 1) := by decide +kernel
theorem dX8_near_44 : decode cX8_near 44 = .ok (.iload 4, 2) := by decide +kernel
theorem dX8_near_46 : decode cX8_near 46 = .ok (.invokevirtual 199, 3) := by decide +kernel
theorem dX8_near_49 : decode cX8_near 49 = .ok (.aload_n 0, 1) := by decide +kernel
theorem dX8_near_50 : decode cX8_near 50 = .ok (.iload_n 1, 1) := by decide +kernel
theorem dX8_near_51 : decode cX8_near 51 = .ok (.invokevirtual 202, 3) := by decide +kernel
theorem dX8_near_54 : decode cX8_near 54 = .ok (.istore 5, 2) := by decide +kernel
theorem dX8_near_56 : decode cX8_near 56 = .ok (.iload 5, 2) := by decide +kernel
theorem dX8_near_58 : decode cX8_near 58 = .ok (.iload_n 3, 1) := by decide +kernel
theorem dX8_near_59 : decode cX8_near 59 = .ok (.if_icmp .ge 8, 3) := by decide +kernel
theorem dX8_near_62 : decode cX8_near 62 = .ok (.iload 5, 2) := by decide +kernel
theorem dX8_near_64 : decode cX8_near 64 = .ok (.goto 4, 3) := by decide +kernel
theorem dX8_near_67 : decode cX8_near 67 = .ok (.iload_n 3, 1) := by decide +kernel
theorem dX8_near_68 : decode cX8_near 68 = .ok (.istore_n 3, 1) := by decide +kernel
theorem dX8_near_69 : decode cX8_near 69 = .ok (.aload_n 0, 1) := by decide +kernel
theorem dX8_near_70 : decode cX8_near 70 = .ok (.getfield 26, 3) := by decide +kernel
theorem dX8_near_73 : decode cX8_near 73 = .ok (.aload_n 0, 1) := by decide +kernel
theorem dX8_near_74 : decode cX8_near 74 = .ok (.getfield 20, 3) := by decide +kernel
theorem dX8_near_77 : decode cX8_near 77 = .ok (.sipush 155, 3) := by decide +kernel
theorem dX8_near_80 : decode cX8_near 80 = .ok (.invokestatic 192, 3) := by decide +kernel
theorem dX8_near_83 : decode cX8_near 83 = .ok (.iinc 4 1, 3) := by decide +kernel
theorem dX8_near_86 : decode cX8_near 86 = .ok (.goto (-66), 3) := by decide +kernel
theorem dX8_near_89 : decode cX8_near 89 = .ok (.iload_n 3, 1) := by decide +kernel
theorem dX8_near_90 : decode cX8_near 90 = .ok (.ireturn, 1) := by decide +kernel
theorem dX8_bestNear_0 : decode cX8_bestNear 0 = .ok (.ldc 205, 2) := by decide +kernel
theorem dX8_bestNear_2 : decode cX8_bestNear 2 = .ok (.istore_n 2, 1) := by decide +kernel
theorem dX8_bestNear_3 : decode cX8_bestNear 3 = .ok (.iconst (-1), 1) := by decide +kernel
theorem dX8_bestNear_4 : decode cX8_bestNear 4 = .ok (.istore_n 3, 1) := by decide +kernel
theorem dX8_bestNear_5 : decode cX8_bestNear 5 = .ok (.iload_n 3, 1) := by decide +kernel
theorem dX8_bestNear_6 : decode cX8_bestNear 6 = .ok (.aload_n 0, 1) := by decide +kernel
theorem dX8_bestNear_7 : decode cX8_bestNear 7 = .ok (.invokevirtual 76, 3) := by decide +kernel
theorem dX8_bestNear_10 : decode cX8_bestNear 10 = .ok (.if_icmp .ge 41, 3) := by decide +kernel
theorem dX8_bestNear_13 : decode cX8_bestNear 13 = .ok (.aload_n 0, 1) := by decide +kernel
theorem dX8_bestNear_14 : decode cX8_bestNear 14 = .ok (.iload_n 3, 1) := by decide +kernel
theorem dX8_bestNear_15 : decode cX8_bestNear 15 = .ok (.invokevirtual 157, 3) := by decide +kernel
theorem dX8_bestNear_18 : decode cX8_bestNear 18 = .ok (.ifCond .ne 6, 3) := by decide +kernel
theorem dX8_bestNear_21 : decode cX8_bestNear 21 = .ok (.goto 24, 3) := by decide +kernel
theorem dX8_bestNear_24 : decode cX8_bestNear 24 = .ok (.aload_n 0, 1) := by decide +kernel
theorem dX8_bestNear_25 : decode cX8_bestNear 25 = .ok (.iload_n 1, 1) := by decide +kernel
theorem dX8_bestNear_26 : decode cX8_bestNear 26 = .ok (.iload_n 3, 1) := by decide +kernel
theorem dX8_bestNear_27 : decode cX8_bestNear 27 = .ok (.invokevirtual 206, 3) := by decide +kernel
theorem dX8_bestNear_30 : decode cX8_bestNear 30 = .ok (.istore 4, 2) := by decide +kernel
theorem dX8_bestNear_32 : decode cX8_bestNear 32 = .ok (.iload 4, 2) := by decide +kernel
theorem dX8_bestNear_34 : decode cX8_bestNear 34 = .ok (.iload_n 2, 1) := by decide +kernel
theorem dX8_bestNear_35 : decode cX8_bestNear 35 = .ok (.if_icmp .le 8, 3) := by decide +kernel
theorem dX8_bestNear_38 : decode cX8_bestNear 38 = .ok (.iload 4, 2) := by decide +kernel
theorem dX8_bestNear_40 : decode cX8_bestNear 40 = .ok (.goto 4, 3) := by decide +kernel
theorem dX8_bestNear_43 : decode cX8_bestNear 43 = .ok (.iload_n 2, 1) := by decide +kernel
theorem dX8_bestNear_44 : decode cX8_bestNear 44 = .ok (.istore_n 2, 1) := by decide +kernel
theorem dX8_bestNear_45 : decode cX8_bestNear 45 = .ok (.iinc 3 1, 3) := by decide +kernel
theorem dX8_bestNear_48 : decode cX8_bestNear 48 = .ok (.goto (-43), 3) := by decide +kernel
theorem dX8_bestNear_51 : decode cX8_bestNear 51 = .ok (.iload_n 2, 1) := by decide +kernel
theorem dX8_bestNear_52 : decode cX8_bestNear 52 = .ok (.ireturn, 1) := by decide +kernel
theorem dX8_far_0 : decode cX8_far 0 = .ok (.aload_n 0, 1) := by decide +kernel
theorem dX8_far_1 : decode cX8_far 1 = .ok (.getfield 20, 3) := by decide +kernel
theorem dX8_far_4 : decode cX8_far 4 = .ok (.aload_n 0, 1) := by decide +kernel
theorem dX8_far_5 : decode cX8_far 5 = .ok (.getfield 23, 3) := by decide +kernel
theorem dX8_far_8 : decode cX8_far 8 = .ok (.sipush 155, 3) := by decide +kernel
theorem dX8_far_11 : decode cX8_far 11 = .ok (.invokestatic 192, 3) := by decide +kernel
theorem dX8_far_14 : decode cX8_far 14 = .ok (.ldc 198, 2) := by decide +kernel
theorem dX8_far_16 : decode cX8_far 16 = .ok (.istore_n 3, 1) := by decide +kernel
theorem dX8_far_17 : decode cX8_far 17 = .ok (.iconst (-1), 1) := by decide +kernel
theorem dX8_far_18 : decode cX8_far 18 = .ok (.istore 4, 2) := by decide +kernel
theorem dX8_far_20 : decode cX8_far 20 = .ok (.iload 4, 2) := by decide +kernel
theorem dX8_far_22 : decode cX8_far 22 = .ok (.aload_n 0, 1) := by decide +kernel
theorem dX8_far_23 : decode cX8_far 23 = .ok (.invokevirtual 76, 3) := by decide +kernel
theorem dX8_far_26 : decode cX8_far 26 = .ok (.if_icmp .ge 78, 3) := by decide +kernel
theorem dX8_far_29 : decode cX8_far 29 = .ok (.aload_n 0, 1) := by decide +kernel
theorem dX8_far_30 : decode cX8_far 30 = .ok (.iload 4, 2) := by decide +kernel
theorem dX8_far_32 : decode cX8_far 32 = .ok (.invokevirtual 157, 3) := by decide +kernel
theorem dX8_far_35 : decode cX8_far 35 = .ok (.ifCond .ne 6, 3) := by decide +kernel
theorem dX8_far_38 : decode cX8_far 38 = .ok (.goto 60, 3) := by decide +kernel
theorem dX8_far_41 : decode cX8_far 41 = .ok (.aload_n 0, 1) := by decide +kernel
theorem dX8_far_42 : decode cX8_far 42 = .ok (.iload_n 1, 1) := by decide +kernel
theorem dX8_far_43 : decode cX8_far 43 = .ok (.iload_n 2, 1) := by decide +kernel
theorem dX8_far_44 : decode cX8_far 44 = .ok (.iload 4, 2) := by decide +kernel
theorem dX8_far_46 : decode cX8_far 46 = .ok (.invokevirtual 199, 3) := by decide +kernel
theorem dX8_far_49 : decode cX8_far 49 = .ok (.aload_n 0, 1) := by decide +kernel
theorem dX8_far_50 : decode cX8_far 50 = .ok (.invokevirtual 170, 3) := by decide +kernel
theorem dX8_far_53 : decode cX8_far 53 = .ok (.ifCond .eq 11, 3) := by decide +kernel
theorem dX8_far_56 : decode cX8_far 56 = .ok (.aload_n 0, 1) := by decide +kernel
theorem dX8_far_57 : decode cX8_far 57 = .ok (.iload_n 1, 1) := by decide +kernel
theorem dX8_far_58 : decode cX8_far 58 = .ok (.invokevirtual 202, 3) := by decide +kernel
theorem dX8_far_61 : decode cX8_far 61 = .ok (.goto 8, 3) := by decide +kernel
theorem dX8_far_64 : decode cX8_far 64 = .ok (.aload_n 0, 1) := by decide +kernel
theorem dX8_far_65 : decode cX8_far 65 = .ok (.iload_n 1, 1) := by decide +kernel
theorem dX8_far_66 : decode cX8_far 66 = .ok (.invokevirtual 210, 3) := by decide +kernel
theorem dX8_far_69 : decode cX8_far 69 = .ok (.istore 5, 2) := by decide +kernel
theorem dX8_far_71 : decode cX8_far 71 = .ok (.iload 5, 2) := by decide +kernel
theorem dX8_far_73 : decode cX8_far 73 = .ok (.iload_n 3, 1) := by decide +kernel
theorem dX8_far_74 : decode cX8_far 74 = .ok (.if_icmp .ge 8, 3) := by decide +kernel
theorem dX8_far_77 : decode cX8_far 77 = .ok (.iload 5, 2) := by decide +kernel
theorem dX8_far_79 : decode cX8_far 79 = .ok (.goto 4, 3) := by decide +kernel
theorem dX8_far_82 : decode cX8_far 82 = .ok (.iload_n 3, 1) := by decide +kernel
theorem dX8_far_83 : decode cX8_far 83 = .ok (.istore_n 3, 1) := by decide +kernel
theorem dX8_far_84 : decode cX8_far 84 = .ok (.aload_n 0, 1) := by decide +kernel
theorem dX8_far_85 : decode cX8_far 85 = .ok (.getfield 23, 3) := by decide +kernel
theorem dX8_far_88 : decode cX8_far 88 = .ok (.aload_n 0, 1) := by decide +kernel
theorem dX8_far_89 : decode cX8_far 89 = .ok (.getfield 20, 3) := by decide +kernel
theorem dX8_far_92 : decode cX8_far 92 = .ok (.sipush 155, 3) := by decide +kernel
theorem dX8_far_95 : decode cX8_far 95 = .ok (.invokestatic 192, 3) := by decide +kernel
theorem dX8_far_98 : decode cX8_far 98 = .ok (.iinc 4 1, 3) := by decide +kernel
theorem dX8_far_101 : decode cX8_far 101 = .ok (.goto (-81), 3) := by decide +kernel
theorem dX8_far_104 : decode cX8_far 104 = .ok (.iload_n 3, 1) := by decide +kernel
theorem dX8_far_105 : decode cX8_far 105 = .ok (.ireturn, 1) := by decide +kernel
theorem dX8_guaranteed_0 : decode cX8_guaranteed 0 = .ok (.iload_n 3, 1) := by decide +kernel
theorem dX8_guaranteed_1 : decode cX8_guaranteed 1 = .ok (.iconst 1, 1) := by decide +kernel
theorem dX8_guaranteed_2 : decode cX8_guaranteed 2 = .ok (.if_icmp .ne 12, 3) := by decide +kernel
theorem dX8_guaranteed_5 : decode cX8_guaranteed 5 = .ok (.aload_n 0, 1) := by decide +kernel
theorem dX8_guaranteed_6 : decode cX8_guaranteed 6 = .ok (.iload_n 1, 1) := by decide +kernel
theorem dX8_guaranteed_7 : decode cX8_guaranteed 7 = .ok (.iload_n 2, 1) := by decide +kernel
theorem dX8_guaranteed_8 : decode cX8_guaranteed 8 = .ok (.invokevirtual 206, 3) := by decide +kernel
theorem dX8_guaranteed_11 : decode cX8_guaranteed 11 = .ok (.goto 9, 3) := by decide +kernel
theorem dX8_guaranteed_14 : decode cX8_guaranteed 14 = .ok (.aload_n 0, 1) := by decide +kernel
theorem dX8_guaranteed_15 : decode cX8_guaranteed 15 = .ok (.iload_n 1, 1) := by decide +kernel
theorem dX8_guaranteed_16 : decode cX8_guaranteed 16 = .ok (.iload_n 2, 1) := by decide +kernel
theorem dX8_guaranteed_17 : decode cX8_guaranteed 17 = .ok (.invokevirtual 213, 3) := by decide +kernel
theorem dX8_guaranteed_20 : decode cX8_guaranteed 20 = .ok (.ireturn, 1) := by decide +kernel
theorem dX8_guarantee_0 : decode cX8_guarantee 0 = .ok (.aload_n 0, 1) := by decide +kernel
theorem dX8_guarantee_1 : decode cX8_guarantee 1 = .ok (.iload_n 1, 1) := by decide +kernel
theorem dX8_guarantee_2 : decode cX8_guarantee 2 = .ok (.iconst 0, 1) := by decide +kernel
theorem dX8_guarantee_3 : decode cX8_guarantee 3 = .ok (.iconst 1, 1) := by decide +kernel
theorem dX8_guarantee_4 : decode cX8_guarantee 4 = .ok (.invokestatic 80, 3) := by decide +kernel
theorem dX8_guarantee_7 : decode cX8_guarantee 7 = .ok (.ifCond .eq 11, 3) := by decide +kernel
theorem dX8_guarantee_10 : decode cX8_guarantee 10 = .ok (.aload_n 0, 1) := by decide +kernel
theorem dX8_guarantee_11 : decode cX8_guarantee 11 = .ok (.iload_n 2, 1) := by decide +kernel
theorem dX8_guarantee_12 : decode cX8_guarantee 12 = .ok (.invokevirtual 167, 3) := by decide +kernel
theorem dX8_guarantee_15 : decode cX8_guarantee 15 = .ok (.ifCond .ne 7, 3) := by decide +kernel
theorem dX8_guarantee_18 : decode cX8_guarantee 18 = .ok (.iconst 1, 1) := by decide +kernel
theorem dX8_guarantee_19 : decode cX8_guarantee 19 = .ok (.goto 50, 3) := by decide +kernel
theorem dX8_guarantee_22 : decode cX8_guarantee 22 = .ok (.iload_n 3, 1) := by decide +kernel
theorem dX8_guarantee_23 : decode cX8_guarantee 23 = .ok (.iconst 1, 1) := by decide +kernel
theorem dX8_guarantee_24 : decode cX8_guarantee 24 = .ok (.iconst 2, 1) := by decide +kernel
theorem dX8_guarantee_25 : decode cX8_guarantee 25 = .ok (.invokestatic 80, 3) := by decide +kernel
theorem dX8_guarantee_28 : decode cX8_guarantee 28 = .ok (.ifCond .ne 7, 3) := by decide +kernel
theorem dX8_guarantee_31 : decode cX8_guarantee 31 = .ok (.iconst 2, 1) := by decide +kernel
theorem dX8_guarantee_32 : decode cX8_guarantee 32 = .ok (.goto 37, 3) := by decide +kernel
theorem dX8_guarantee_35 : decode cX8_guarantee 35 = .ok (.aload_n 0, 1) := by decide +kernel
theorem dX8_guarantee_36 : decode cX8_guarantee 36 = .ok (.invokevirtual 170, 3) := by decide +kernel
theorem dX8_guarantee_39 : decode cX8_guarantee 39 = .ok (.ifCond .ne 25, 3) := by decide +kernel
theorem dX8_guarantee_42 : decode cX8_guarantee 42 = .ok (.aload_n 0, 1) := by decide +kernel
theorem dX8_guarantee_43 : decode cX8_guarantee 43 = .ok (.iload_n 2, 1) := by decide +kernel
theorem dX8_guarantee_44 : decode cX8_guarantee 44 = .ok (.invokevirtual 157, 3) := by decide +kernel
theorem dX8_guarantee_47 : decode cX8_guarantee 47 = .ok (.ifCond .eq 17, 3) := by decide +kernel
theorem dX8_guarantee_50 : decode cX8_guarantee 50 = .ok (.iload_n 3, 1) := by decide +kernel
theorem dX8_guarantee_51 : decode cX8_guarantee 51 = .ok (.iconst 2, 1) := by decide +kernel
theorem dX8_guarantee_52 : decode cX8_guarantee 52 = .ok (.if_icmp .ne 16, 3) := by decide +kernel
theorem dX8_guarantee_55 : decode cX8_guarantee 55 = .ok (.aload_n 0, 1) := by decide +kernel
theorem dX8_guarantee_56 : decode cX8_guarantee 56 = .ok (.invokevirtual 108, 3) := by decide +kernel
theorem dX8_guarantee_59 : decode cX8_guarantee 59 = .ok (.bipush 6, 2) := by decide +kernel
theorem dX8_guarantee_61 : decode cX8_guarantee 61 = .ok (.if_icmp .le 7, 3) := by decide +kernel
theorem dX8_guarantee_64 : decode cX8_guarantee 64 = .ok (.iconst 3, 1) := by decide +kernel
theorem dX8_guarantee_65 : decode cX8_guarantee 65 = .ok (.goto 4, 3) := by decide +kernel
theorem dX8_guarantee_68 : decode cX8_guarantee 68 = .ok (.iconst 0, 1) := by decide +kernel
theorem dX8_guarantee_69 : decode cX8_guarantee 69 = .ok (.putfield 73, 3) := by decide +kernel
theorem dX8_guarantee_72 : decode cX8_guarantee 72 = .ok (.aload_n 0, 1) := by decide +kernel
theorem dX8_guarantee_73 : decode cX8_guarantee 73 = .ok (.getfield 73, 3) := by decide +kernel
theorem dX8_guarantee_76 : decode cX8_guarantee 76 = .ok (.ifCond .ne 13, 3) := by decide +kernel
theorem dX8_guarantee_79 : decode cX8_guarantee 79 = .ok (.aload_n 0, 1) := by decide +kernel
theorem dX8_guarantee_80 : decode cX8_guarantee 80 = .ok (.iload_n 1, 1) := by decide +kernel
theorem dX8_guarantee_81 : decode cX8_guarantee 81 = .ok (.iload_n 2, 1) := by decide +kernel
theorem dX8_guarantee_82 : decode cX8_guarantee 82 = .ok (.iload_n 3, 1) := by decide +kernel
theorem dX8_guarantee_83 : decode cX8_guarantee 83 = .ok (.invokevirtual 216, 3) := by decide +kernel
theorem dX8_guarantee_86 : decode cX8_guarantee 86 = .ok (.goto 4, 3) := by decide +kernel
theorem dX8_guarantee_89 : decode cX8_guarantee 89 = .ok (.iconst 0, 1) := by decide +kernel
theorem dX8_guarantee_90 : decode cX8_guarantee 90 = .ok (.ireturn, 1) := by decide +kernel
theorem dX8_best_0 : decode cX8_best 0 = .ok (.aload_n 0, 1) := by decide +kernel
theorem dX8_best_1 : decode cX8_best 1 = .ok (.iload_n 1, 1) := by decide +kernel
theorem dX8_best_2 : decode cX8_best 2 = .ok (.iconst 0, 1) := by decide +kernel
theorem dX8_best_3 : decode cX8_best 3 = .ok (.iconst 1, 1) := by decide +kernel
theorem dX8_best_4 : decode cX8_best 4 = .ok (.invokestatic 80, 3) := by decide +kernel
theorem dX8_best_7 : decode cX8_best 7 = .ok (.ifCond .ne 7, 3) := by decide +kernel
theorem dX8_best_10 : decode cX8_best 10 = .ok (.iconst 1, 1) := by decide +kernel
theorem dX8_best_11 : decode cX8_best 11 = .ok (.goto 42, 3) := by decide +kernel
theorem dX8_best_14 : decode cX8_best 14 = .ok (.iload_n 2, 1) := by decide +kernel
theorem dX8_best_15 : decode cX8_best 15 = .ok (.iconst 1, 1) := by decide +kernel
theorem dX8_best_16 : decode cX8_best 16 = .ok (.iconst 2, 1) := by decide +kernel
theorem dX8_best_17 : decode cX8_best 17 = .ok (.invokestatic 80, 3) := by decide +kernel
theorem dX8_best_20 : decode cX8_best 20 = .ok (.ifCond .ne 7, 3) := by decide +kernel
theorem dX8_best_23 : decode cX8_best 23 = .ok (.iconst 2, 1) := by decide +kernel
theorem dX8_best_24 : decode cX8_best 24 = .ok (.goto 29, 3) := by decide +kernel
theorem dX8_best_27 : decode cX8_best 27 = .ok (.aload_n 0, 1) := by decide +kernel
theorem dX8_best_28 : decode cX8_best 28 = .ok (.invokevirtual 170, 3) := by decide +kernel
theorem dX8_best_31 : decode cX8_best 31 = .ok (.ifCond .ne 17, 3) := by decide +kernel
theorem dX8_best_34 : decode cX8_best 34 = .ok (.iload_n 2, 1) := by decide +kernel
theorem dX8_best_35 : decode cX8_best 35 = .ok (.iconst 2, 1) := by decide +kernel
theorem dX8_best_36 : decode cX8_best 36 = .ok (.if_icmp .ne 16, 3) := by decide +kernel
theorem dX8_best_39 : decode cX8_best 39 = .ok (.aload_n 0, 1) := by decide +kernel
theorem dX8_best_40 : decode cX8_best 40 = .ok (.invokevirtual 108, 3) := by decide +kernel
theorem dX8_best_43 : decode cX8_best 43 = .ok (.bipush 6, 2) := by decide +kernel
theorem dX8_best_45 : decode cX8_best 45 = .ok (.if_icmp .le 7, 3) := by decide +kernel
theorem dX8_best_48 : decode cX8_best 48 = .ok (.iconst 3, 1) := by decide +kernel
theorem dX8_best_49 : decode cX8_best 49 = .ok (.goto 4, 3) := by decide +kernel
theorem dX8_best_52 : decode cX8_best 52 = .ok (.iconst 0, 1) := by decide +kernel
theorem dX8_best_53 : decode cX8_best 53 = .ok (.putfield 73, 3) := by decide +kernel
theorem dX8_best_56 : decode cX8_best 56 = .ok (.aload_n 0, 1) := by decide +kernel
theorem dX8_best_57 : decode cX8_best 57 = .ok (.getfield 73, 3) := by decide +kernel
theorem dX8_best_60 : decode cX8_best 60 = .ok (.ifCond .le 5, 3) := by decide +kernel
theorem dX8_best_63 : decode cX8_best 63 = .ok (.iconst 0, 1) := by decide +kernel
theorem dX8_best_64 : decode cX8_best 64 = .ok (.ireturn, 1) := by decide +kernel
theorem dX8_best_65 : decode cX8_best 65 = .ok (.iconst (-1), 1) := by decide +kernel
theorem dX8_best_66 : decode cX8_best 66 = .ok (.istore_n 3, 1) := by decide +kernel
theorem dX8_best_67 : decode cX8_best 67 = .ok (.ldc 205, 2) := by decide +kernel
theorem dX8_best_69 : decode cX8_best 69 = .ok (.istore 4, 2) := by decide +kernel
theorem dX8_best_71 : decode cX8_best 71 = .ok (.iconst 0, 1) := by decide +kernel
theorem dX8_best_72 : decode cX8_best 72 = .ok (.istore 5, 2) := by decide +kernel
theorem dX8_best_74 : decode cX8_best 74 = .ok (.iload 5, 2) := by decide +kernel
theorem dX8_best_76 : decode cX8_best 76 = .ok (.aload_n 0, 1) := by decide +kernel
theorem dX8_best_77 : decode cX8_best 77 = .ok (.invokevirtual 76, 3) := by decide +kernel
theorem dX8_best_80 : decode cX8_best 80 = .ok (.if_icmp .gt 62, 3) := by decide +kernel
theorem dX8_best_83 : decode cX8_best 83 = .ok (.iload 5, 2) := by decide +kernel
theorem dX8_best_85 : decode cX8_best 85 = .ok (.aload_n 0, 1) := by decide +kernel
theorem dX8_best_86 : decode cX8_best 86 = .ok (.invokevirtual 76, 3) := by decide +kernel
theorem dX8_best_89 : decode cX8_best 89 = .ok (.if_icmp .ne 7, 3) := by decide +kernel
theorem dX8_best_92 : decode cX8_best 92 = .ok (.iconst (-1), 1) := by decide +kernel
theorem dX8_best_93 : decode cX8_best 93 = .ok (.goto 5, 3) := by decide +kernel
theorem dX8_best_96 : decode cX8_best 96 = .ok (.iload 5, 2) := by decide +kernel
theorem dX8_best_98 : decode cX8_best 98 = .ok (.istore 6, 2) := by decide +kernel
theorem dX8_best_100 : decode cX8_best 100 = .ok (.aload_n 0, 1) := by decide +kernel
theorem dX8_best_101 : decode cX8_best 101 = .ok (.iload 6, 2) := by decide +kernel
theorem dX8_best_103 : decode cX8_best 103 = .ok (.invokevirtual 157, 3) := by decide +kernel
theorem dX8_best_106 : decode cX8_best 106 = .ok (.ifCond .ne 6, 3) := by decide +kernel
theorem dX8_best_109 : decode cX8_best 109 = .ok (.goto 27, 3) := by decide +kernel
theorem dX8_best_112 : decode cX8_best 112 = .ok (.aload_n 0, 1) := by decide +kernel
theorem dX8_best_113 : decode cX8_best 113 = .ok (.iload_n 1, 1) := by decide +kernel
theorem dX8_best_114 : decode cX8_best 114 = .ok (.iload 6, 2) := by decide +kernel
theorem dX8_best_116 : decode cX8_best 116 = .ok (.iload_n 2, 1) := by decide +kernel
theorem dX8_best_117 : decode cX8_best 117 = .ok (.invokevirtual 216, 3) := by decide +kernel
theorem dX8_best_120 : decode cX8_best 120 = .ok (.istore 7, 2) := by decide +kernel
theorem dX8_best_122 : decode cX8_best 122 = .ok (.iload 7, 2) := by decide +kernel
theorem dX8_best_124 : decode cX8_best 124 = .ok (.iload 4, 2) := by decide +kernel
theorem dX8_best_126 : decode cX8_best 126 = .ok (.if_icmp .le 10, 3) := by decide +kernel
theorem dX8_best_129 : decode cX8_best 129 = .ok (.iload 6, 2) := by decide +kernel
theorem dX8_best_131 : decode cX8_best 131 = .ok (.istore_n 3, 1) := by decide +kernel
theorem dX8_best_132 : decode cX8_best 132 = .ok (.iload 7, 2) := by decide +kernel
theorem dX8_best_134 : decode cX8_best 134 = .ok (.istore 4, 2) := by decide +kernel
theorem dX8_best_136 : decode cX8_best 136 = .ok (.iinc 5 1, 3) := by decide +kernel
theorem dX8_best_139 : decode cX8_best 139 = .ok (.goto (-65), 3) := by decide +kernel
theorem dX8_best_142 : decode cX8_best 142 = .ok (.iload_n 3, 1) := by decide +kernel
theorem dX8_best_143 : decode cX8_best 143 = .ok (.ireturn, 1) := by decide +kernel
theorem dX8_levels_0 : decode cX8_levels 0 = .ok (.aload_n 0, 1) := by decide +kernel
theorem dX8_levels_1 : decode cX8_levels 1 = .ok (.iconst 0, 1) := by decide +kernel
theorem dX8_levels_2 : decode cX8_levels 2 = .ok (.putfield 73, 3) := by decide +kernel
theorem dX8_levels_5 : decode cX8_levels 5 = .ok (.aload_n 0, 1) := by decide +kernel
theorem dX8_levels_6 : decode cX8_levels 6 = .ok (.getfield 154, 3) := by decide +kernel
theorem dX8_levels_9 : decode cX8_levels 9 = .ok (.ireturn, 1) := by decide +kernel
theorem dX8_report_0 : decode cX8_report 0 = .ok (.aload_n 0, 1) := by decide +kernel
theorem dX8_report_1 : decode cX8_report 1 = .ok (.iload_n 1, 1) := by decide +kernel
theorem dX8_report_2 : decode cX8_report 2 = .ok (.iconst 0, 1) := by decide +kernel
theorem dX8_report_3 : decode cX8_report 3 = .ok (.aload_n 0, 1) := by decide +kernel
theorem dX8_report_4 : decode cX8_report 4 = .ok (.getfield 154, 3) := by decide +kernel
theorem dX8_report_7 : decode cX8_report 7 = .ok (.iconst 1, 1) := by decide +kernel
theorem dX8_report_8 : decode cX8_report 8 = .ok (.isub, 1) := by decide +kernel
theorem dX8_report_9 : decode cX8_report 9 = .ok (.invokestatic 80, 3) := by decide +kernel
theorem dX8_report_12 : decode cX8_report 12 = .ok (.ifCond .ne 7, 3) := by decide +kernel
theorem dX8_report_15 : decode cX8_report 15 = .ok (.iconst 1, 1) := by decide +kernel
theorem dX8_report_16 : decode cX8_report 16 = .ok (.goto 17, 3) := by decide +kernel
theorem dX8_report_19 : decode cX8_report 19 = .ok (.iload_n 2, 1) := by decide +kernel
theorem dX8_report_20 : decode cX8_report 20 = .ok (.iconst 0, 1) := by decide +kernel
theorem dX8_report_21 : decode cX8_report 21 = .ok (.iconst 1, 1) := by decide +kernel
theorem dX8_report_22 : decode cX8_report 22 = .ok (.invokestatic 80, 3) := by decide +kernel
theorem dX8_report_25 : decode cX8_report 25 = .ok (.ifCond .ne 7, 3) := by decide +kernel
theorem dX8_report_28 : decode cX8_report 28 = .ok (.iconst 2, 1) := by decide +kernel
theorem dX8_report_29 : decode cX8_report 29 = .ok (.goto 4, 3) := by decide +kernel
theorem dX8_report_32 : decode cX8_report 32 = .ok (.iconst 0, 1) := by decide +kernel
theorem dX8_report_33 : decode cX8_report 33 = .ok (.putfield 73, 3) := by decide +kernel
theorem dX8_report_36 : decode cX8_report 36 = .ok (.aload_n 0, 1) := by decide +kernel
theorem dX8_report_37 : decode cX8_report 37 = .ok (.getfield 73, 3) := by decide +kernel
theorem dX8_report_40 : decode cX8_report 40 = .ok (.ifCond .le 7, 3) := by decide +kernel
theorem dX8_report_43 : decode cX8_report 43 = .ok (.iconst 0, 1) := by decide +kernel
theorem dX8_report_44 : decode cX8_report 44 = .ok (.goto 22, 3) := by decide +kernel
theorem dX8_report_47 : decode cX8_report 47 = .ok (.iload_n 2, 1) := by decide +kernel
theorem dX8_report_48 : decode cX8_report 48 = .ok (.ifCond .ne 12, 3) := by decide +kernel
theorem dX8_report_51 : decode cX8_report 51 = .ok (.aload_n 0, 1) := by decide +kernel
theorem dX8_report_52 : decode cX8_report 52 = .ok (.getfield 59, 3) := by decide +kernel
theorem dX8_report_55 : decode cX8_report 55 = .ok (.iload_n 1, 1) := by decide +kernel
theorem dX8_report_56 : decode cX8_report 56 = .ok (.iaload, 1) := by decide +kernel
theorem dX8_report_57 : decode cX8_report 57 = .ok (.goto 9, 3) := by decide +kernel
theorem dX8_report_60 : decode cX8_report 60 = .ok (.aload_n 0, 1) := by decide +kernel
theorem dX8_report_61 : decode cX8_report 61 = .ok (.getfield 62, 3) := by decide +kernel
theorem dX8_report_64 : decode cX8_report 64 = .ok (.iload_n 1, 1) := by decide +kernel
theorem dX8_report_65 : decode cX8_report 65 = .ok (.iaload, 1) := by decide +kernel
theorem dX8_report_66 : decode cX8_report 66 = .ok (.ireturn, 1) := by decide +kernel
theorem dX8_feed_0 : decode cX8_feed 0 = .ok (.aload_n 0, 1) := by decide +kernel
theorem dX8_feed_1 : decode cX8_feed 1 = .ok (.aload_n 0, 1) := by decide +kernel
theorem dX8_feed_2 : decode cX8_feed 2 = .ok (.getfield 220, 3) := by decide +kernel
theorem dX8_feed_5 : decode cX8_feed 5 = .ok (.bipush 80, 2) := by decide +kernel
theorem dX8_feed_7 : decode cX8_feed 7 = .ok (.if_icmp .ne 7, 3) := by decide +kernel
theorem dX8_feed_10 : decode cX8_feed 10 = .ok (.iconst 1, 1) := by decide +kernel
theorem dX8_feed_11 : decode cX8_feed 11 = .ok (.goto 4, 3) := by decide +kernel
theorem dX8_feed_14 : decode cX8_feed 14 = .ok (.iconst 0, 1) := by decide +kernel
theorem dX8_feed_15 : decode cX8_feed 15 = .ok (.putfield 73, 3) := by decide +kernel
theorem dX8_feed_18 : decode cX8_feed 18 = .ok (.aload_n 0, 1) := by decide +kernel
theorem dX8_feed_19 : decode cX8_feed 19 = .ok (.getfield 73, 3) := by decide +kernel
theorem dX8_feed_22 : decode cX8_feed 22 = .ok (.iconst 1, 1) := by decide +kernel
theorem dX8_feed_23 : decode cX8_feed 23 = .ok (.if_icmp .ne 5, 3) := by decide +kernel
theorem dX8_feed_26 : decode cX8_feed 26 = .ok (.iconst 0, 1) := by decide +kernel
theorem dX8_feed_27 : decode cX8_feed 27 = .ok (.ireturn, 1) := by decide +kernel
theorem dX8_feed_28 : decode cX8_feed 28 = .ok (.aload_n 0, 1) := by decide +kernel
theorem dX8_feed_29 : decode cX8_feed 29 = .ok (.getfield 65, 3) := by decide +kernel
theorem dX8_feed_32 : decode cX8_feed 32 = .ok (.aload_n 0, 1) := by decide +kernel
theorem dX8_feed_33 : decode cX8_feed 33 = .ok (.getfield 220, 3) := by decide +kernel
theorem dX8_feed_36 : decode cX8_feed 36 = .ok (.iload_n 1, 1) := by decide +kernel
theorem dX8_feed_37 : decode cX8_feed 37 = .ok (.castore, 1) := by decide +kernel
theorem dX8_feed_38 : decode cX8_feed 38 = .ok (.aload_n 0, 1) := by decide +kernel
theorem dX8_feed_39 : decode cX8_feed 39 = .ok (.dup, 1) := by decide +kernel
theorem dX8_feed_40 : decode cX8_feed 40 = .ok (.getfield 220, 3) := by decide +kernel
theorem dX8_feed_43 : decode cX8_feed 43 = .ok (.iconst 1, 1) := by decide +kernel
theorem dX8_feed_44 : decode cX8_feed 44 = .ok (.iadd, 1) := by decide +kernel
theorem dX8_feed_45 : decode cX8_feed 45 = .ok (.putfield 220, 3) := by decide +kernel
theorem dX8_feed_48 : decode cX8_feed 48 = .ok (.aload_n 0, 1) := by decide +kernel
theorem dX8_feed_49 : decode cX8_feed 49 = .ok (.getfield 220, 3) := by decide +kernel
theorem dX8_feed_52 : decode cX8_feed 52 = .ok (.ireturn, 1) := by decide +kernel
theorem dX8_isHere_0 : decode cX8_isHere 0 = .ok (.aload_n 0, 1) := by decide +kernel
theorem dX8_isHere_1 : decode cX8_isHere 1 = .ok (.getfield 223, 3) := by decide +kernel
theorem dX8_isHere_4 : decode cX8_isHere 4 = .ok (.aload_n 0, 1) := by decide +kernel
theorem dX8_isHere_5 : decode cX8_isHere 5 = .ok (.getfield 220, 3) := by decide +kernel
theorem dX8_isHere_8 : decode cX8_isHere 8 = .ok (.if_icmp .ge 33, 3) := by decide +kernel
theorem dX8_isHere_11 : decode cX8_isHere 11 = .ok (.aload_n 0, 1) := by decide +kernel
theorem dX8_isHere_12 : decode cX8_isHere 12 = .ok (.getfield 65, 3) := by decide +kernel
theorem dX8_isHere_15 : decode cX8_isHere 15 = .ok (.aload_n 0, 1) := by decide +kernel
theorem dX8_isHere_16 : decode cX8_isHere 16 = .ok (.getfield 223, 3) := by decide +kernel
theorem dX8_isHere_19 : decode cX8_isHere 19 = .ok (.caload, 1) := by decide +kernel
theorem dX8_isHere_20 : decode cX8_isHere 20 = .ok (.iload_n 1, 1) := by decide +kernel
theorem dX8_isHere_21 : decode cX8_isHere 21 = .ok (.if_icmp .lt 20, 3) := by decide +kernel
theorem dX8_isHere_24 : decode cX8_isHere 24 = .ok (.aload_n 0, 1) := by decide +kernel
theorem dX8_isHere_25 : decode cX8_isHere 25 = .ok (.getfield 65, 3) := by decide +kernel
theorem dX8_isHere_28 : decode cX8_isHere 28 = .ok (.aload_n 0, 1) := by decide +kernel
theorem dX8_isHere_29 : decode cX8_isHere 29 = .ok (.getfield 223, 3) := by decide +kernel
theorem dX8_isHere_32 : decode cX8_isHere 32 = .ok (.caload, 1) := by decide +kernel
theorem dX8_isHere_33 : decode cX8_isHere 33 = .ok (.iload_n 2, 1) := by decide +kernel
theorem dX8_isHere_34 : decode cX8_isHere 34 = .ok (.if_icmp .gt 7, 3) := by decide +kernel
theorem dX8_isHere_37 : decode cX8_isHere 37 = .ok (.iconst 1, 1) := by decide +kernel
theorem dX8_isHere_38 : decode cX8_isHere 38 = .ok (.goto 4, 3) := by decide +kernel
theorem dX8_isHere_41 : decode cX8_isHere 41 = .ok (.iconst 0, 1) := by decide +kernel
theorem dX8_isHere_42 : decode cX8_isHere 42 = .ok (.ireturn, 1) := by decide +kernel
theorem dX8_choice_0 : decode cX8_choice 0 = .ok (.aload_n 0, 1) := by decide +kernel
theorem dX8_choice_1 : decode cX8_choice 1 = .ok (.bipush 45, 2) := by decide +kernel
theorem dX8_choice_3 : decode cX8_choice 3 = .ok (.bipush 45, 2) := by decide +kernel
theorem dX8_choice_5 : decode cX8_choice 5 = .ok (.invokevirtual 226, 3) := by decide +kernel
theorem dX8_choice_8 : decode cX8_choice 8 = .ok (.ifCond .eq 15, 3) := by decide +kernel
theorem dX8_choice_11 : decode cX8_choice 11 = .ok (.aload_n 0, 1) := by decide +kernel
theorem dX8_choice_12 : decode cX8_choice 12 = .ok (.dup, 1) := by decide +kernel
theorem dX8_choice_13 : decode cX8_choice 13 = .ok (.getfield 223, 3) := by decide +kernel
theorem dX8_choice_16 : decode cX8_choice 16 = .ok (.iconst 1, 1) := by decide +kernel
theorem dX8_choice_17 : decode cX8_choice 17 = .ok (.iadd, 1) := by decide +kernel
theorem dX8_choice_18 : decode cX8_choice 18 = .ok (.putfield 223, 3) := by decide +kernel
theorem dX8_choice_21 : decode cX8_choice 21 = .ok (.iconst (-1), 1) := by decide +kernel
theorem dX8_choice_22 : decode cX8_choice 22 = .ok (.ireturn, 1) := by decide +kernel
theorem dX8_choice_23 : decode cX8_choice 23 = .ok (.aload_n 0, 1) := by decide +kernel
theorem dX8_choice_24 : decode cX8_choice 24 = .ok (.bipush 97, 2) := by decide +kernel
theorem dX8_choice_26 : decode cX8_choice 26 = .ok (.bipush 97, 2) := by decide +kernel
theorem dX8_choice_28 : decode cX8_choice 28 = .ok (.aload_n 0, 1) := by decide +kernel
theorem dX8_choice_29 : decode cX8_choice 29 = .ok (.getfield 9, 3) := by decide +kernel
theorem dX8_choice_32 : decode cX8_choice 32 = .ok (.iadd, 1) := by decide +kernel
theorem dX8_choice_33 : decode cX8_choice 33 = .ok (.iconst 1, 1) := by decide +kernel
theorem dX8_choice_34 : decode cX8_choice 34 = .ok (.isub, 1) := by decide +kernel
theorem dX8_choice_35 : decode cX8_choice 35 = .ok (.i2c, 1) := by decide +kernel
theorem dX8_choice_36 : decode cX8_choice 36 = .ok (.invokevirtual 226, 3) := by decide +kernel
theorem dX8_choice_39 : decode cX8_choice 39 = .ok (.ifCond .ne 6, 3) := by decide +kernel
theorem dX8_choice_42 : decode cX8_choice 42 = .ok (.bipush (-2), 2) := by decide +kernel
theorem dX8_choice_44 : decode cX8_choice 44 = .ok (.ireturn, 1) := by decide +kernel
theorem dX8_choice_45 : decode cX8_choice 45 = .ok (.aload_n 0, 1) := by decide +kernel
theorem dX8_choice_46 : decode cX8_choice 46 = .ok (.getfield 65, 3) := by decide +kernel
theorem dX8_choice_49 : decode cX8_choice 49 = .ok (.aload_n 0, 1) := by decide +kernel
theorem dX8_choice_50 : decode cX8_choice 50 = .ok (.getfield 223, 3) := by decide +kernel
theorem dX8_choice_53 : decode cX8_choice 53 = .ok (.caload, 1) := by decide +kernel
theorem dX8_choice_54 : decode cX8_choice 54 = .ok (.bipush 97, 2) := by decide +kernel
theorem dX8_choice_56 : decode cX8_choice 56 = .ok (.isub, 1) := by decide +kernel
theorem dX8_choice_57 : decode cX8_choice 57 = .ok (.istore_n 1, 1) := by decide +kernel
theorem dX8_choice_58 : decode cX8_choice 58 = .ok (.aload_n 0, 1) := by decide +kernel
theorem dX8_choice_59 : decode cX8_choice 59 = .ok (.dup, 1) := by decide +kernel
theorem dX8_choice_60 : decode cX8_choice 60 = .ok (.getfield 223, 3) := by decide +kernel
theorem dX8_choice_63 : decode cX8_choice 63 = .ok (.iconst 1, 1) := by decide +kernel
theorem dX8_choice_64 : decode cX8_choice 64 = .ok (.iadd, 1) := by decide +kernel
theorem dX8_choice_65 : decode cX8_choice 65 = .ok (.putfield 223, 3) := by decide +kernel
theorem dX8_choice_68 : decode cX8_choice 68 = .ok (.aload_n 0, 1) := by decide +kernel
theorem dX8_choice_69 : decode cX8_choice 69 = .ok (.bipush 49, 2) := by decide +kernel
theorem dX8_choice_71 : decode cX8_choice 71 = .ok (.bipush 48, 2) := by decide +kernel
theorem dX8_choice_73 : decode cX8_choice 73 = .ok (.aload_n 0, 1) := by decide +kernel
theorem dX8_choice_74 : decode cX8_choice 74 = .ok (.getfield 13, 3) := by decide +kernel
theorem dX8_choice_77 : decode cX8_choice 77 = .ok (.iadd, 1) := by decide +kernel
theorem dX8_choice_78 : decode cX8_choice 78 = .ok (.i2c, 1) := by decide +kernel
theorem dX8_choice_79 : decode cX8_choice 79 = .ok (.invokevirtual 226, 3) := by decide +kernel
theorem dX8_choice_82 : decode cX8_choice 82 = .ok (.ifCond .ne 6, 3) := by decide +kernel
theorem dX8_choice_85 : decode cX8_choice 85 = .ok (.bipush (-2), 2) := by decide +kernel
theorem dX8_choice_87 : decode cX8_choice 87 = .ok (.ireturn, 1) := by decide +kernel
theorem dX8_choice_88 : decode cX8_choice 88 = .ok (.aload_n 0, 1) := by decide +kernel
theorem dX8_choice_89 : decode cX8_choice 89 = .ok (.getfield 65, 3) := by decide +kernel
theorem dX8_choice_92 : decode cX8_choice 92 = .ok (.aload_n 0, 1) := by decide +kernel
theorem dX8_choice_93 : decode cX8_choice 93 = .ok (.getfield 223, 3) := by decide +kernel
theorem dX8_choice_96 : decode cX8_choice 96 = .ok (.caload, 1) := by decide +kernel
theorem dX8_choice_97 : decode cX8_choice 97 = .ok (.bipush 49, 2) := by decide +kernel
theorem dX8_choice_99 : decode cX8_choice 99 = .ok (.isub, 1) := by decide +kernel
theorem dX8_choice_100 : decode cX8_choice 100 = .ok (.istore_n 2, 1) := by decide +kernel
theorem dX8_choice_101 : decode cX8_choice 101 = .ok (.aload_n 0, 1) := by decide +kernel
theorem dX8_choice_102 : decode cX8_choice 102 = .ok (.dup, 1) := by decide +kernel
theorem dX8_choice_103 : decode cX8_choice 103 = .ok (.getfield 223, 3) := by decide +kernel
theorem dX8_choice_106 : decode cX8_choice 106 = .ok (.iconst 1, 1) := by decide +kernel
theorem dX8_choice_107 : decode cX8_choice 107 = .ok (.iadd, 1) := by decide +kernel
theorem dX8_choice_108 : decode cX8_choice 108 = .ok (.putfield 223, 3) := by decide +kernel
theorem dX8_choice_111 : decode cX8_choice 111 = .ok (.iload_n 2, 1) := by decide +kernel
theorem dX8_choice_112 : decode cX8_choice 112 = .ok (.aload_n 0, 1) := by decide +kernel
theorem dX8_choice_113 : decode cX8_choice 113 = .ok (.getfield 9, 3) := by decide +kernel
theorem dX8_choice_116 : decode cX8_choice 116 = .ok (.imul, 1) := by decide +kernel
theorem dX8_choice_117 : decode cX8_choice 117 = .ok (.iload_n 1, 1) := by decide +kernel
theorem dX8_choice_118 : decode cX8_choice 118 = .ok (.iadd, 1) := by decide +kernel
theorem dX8_choice_119 : decode cX8_choice 119 = .ok (.ireturn, 1) := by decide +kernel
theorem dX8_isRound_0 : decode cX8_isRound 0 = .ok (.aload_n 0, 1) := by decide +kernel
theorem dX8_isRound_1 : decode cX8_isRound 1 = .ok (.aload_n 0, 1) := by decide +kernel
theorem dX8_isRound_2 : decode cX8_isRound 2 = .ok (.invokevirtual 230, 3) := by decide +kernel
theorem dX8_isRound_5 : decode cX8_isRound 5 = .ok (.putfield 233, 3) := by decide +kernel
theorem dX8_isRound_8 : decode cX8_isRound 8 = .ok (.aload_n 0, 1) := by decide +kernel
theorem dX8_isRound_9 : decode cX8_isRound 9 = .ok (.getfield 233, 3) := by decide +kernel
theorem dX8_isRound_12 : decode cX8_isRound 12 = .ok (.bipush (-2), 2) := by decide +kernel
theorem dX8_isRound_14 : decode cX8_isRound 14 = .ok (.if_icmp .ne 5, 3) := by decide +kernel
theorem dX8_isRound_17 : decode cX8_isRound 17 = .ok (.iconst 0, 1) := by decide +kernel
theorem dX8_isRound_18 : decode cX8_isRound 18 = .ok (.ireturn, 1) := by decide +kernel
theorem dX8_isRound_19 : decode cX8_isRound 19 = .ok (.aload_n 0, 1) := by decide +kernel
theorem dX8_isRound_20 : decode cX8_isRound 20 = .ok (.aload_n 0, 1) := by decide +kernel
theorem dX8_isRound_21 : decode cX8_isRound 21 = .ok (.invokevirtual 230, 3) := by decide +kernel
theorem dX8_isRound_24 : decode cX8_isRound 24 = .ok (.putfield 236, 3) := by decide +kernel
theorem dX8_isRound_27 : decode cX8_isRound 27 = .ok (.aload_n 0, 1) := by decide +kernel
theorem dX8_isRound_28 : decode cX8_isRound 28 = .ok (.getfield 236, 3) := by decide +kernel
theorem dX8_isRound_31 : decode cX8_isRound 31 = .ok (.bipush (-2), 2) := by decide +kernel
theorem dX8_isRound_33 : decode cX8_isRound 33 = .ok (.if_icmp .eq 14, 3) := by decide +kernel
theorem dX8_isRound_36 : decode cX8_isRound 36 = .ok (.aload_n 0, 1) := by decide +kernel
theorem dX8_isRound_37 : decode cX8_isRound 37 = .ok (.bipush 59, 2) := by decide +kernel
theorem dX8_isRound_39 : decode cX8_isRound 39 = .ok (.bipush 59, 2) := by decide +kernel
theorem dX8_isRound_41 : decode cX8_isRound 41 = .ok (.invokevirtual 226, 3) := by decide +kernel
theorem dX8_isRound_44 : decode cX8_isRound 44 = .ok (.ifCond .ne 5, 3) := by decide +kernel
theorem dX8_isRound_47 : decode cX8_isRound 47 = .ok (.iconst 0, 1) := by decide +kernel
theorem dX8_isRound_48 : decode cX8_isRound 48 = .ok (.ireturn, 1) := by decide +kernel
theorem dX8_isRound_49 : decode cX8_isRound 49 = .ok (.aload_n 0, 1) := by decide +kernel
theorem dX8_isRound_50 : decode cX8_isRound 50 = .ok (.dup, 1) := by decide +kernel
theorem dX8_isRound_51 : decode cX8_isRound 51 = .ok (.getfield 223, 3) := by decide +kernel
theorem dX8_isRound_54 : decode cX8_isRound 54 = .ok (.iconst 1, 1) := by decide +kernel
theorem dX8_isRound_55 : decode cX8_isRound 55 = .ok (.iadd, 1) := by decide +kernel
theorem dX8_isRound_56 : decode cX8_isRound 56 = .ok (.putfield 223, 3) := by decide +kernel
theorem dX8_isRound_59 : decode cX8_isRound 59 = .ok (.iconst 1, 1) := by decide +kernel
theorem dX8_isRound_60 : decode cX8_isRound 60 = .ok (.ireturn, 1) := by decide +kernel
theorem dX8_readRecord_0 : decode cX8_readRecord 0 = .ok (.aload_n 0, 1) := by decide +kernel
theorem dX8_readRecord_1 : decode cX8_readRecord 1 = .ok (.iconst 0, 1) := by decide +kernel
theorem dX8_readRecord_2 : decode cX8_readRecord 2 = .ok (.putfield 73, 3) := by decide +kernel
theorem dX8_readRecord_5 : decode cX8_readRecord 5 = .ok (.aload_n 0, 1) := by decide +kernel
theorem dX8_readRecord_6 : decode cX8_readRecord 6 = .ok (.iconst 0, 1) := by decide +kernel
theorem dX8_readRecord_7 : decode cX8_readRecord 7 = .ok (.putfield 223, 3) := by decide +kernel
theorem dX8_readRecord_10 : decode cX8_readRecord 10 = .ok (.iconst 1, 1) := by decide +kernel
theorem dX8_readRecord_11 : decode cX8_readRecord 11 = .ok (.istore_n 1, 1) := by decide +kernel
theorem dX8_readRecord_12 : decode cX8_readRecord 12 = .ok (.iconst 0, 1) := by decide +kernel
theorem dX8_readRecord_13 : decode cX8_readRecord 13 = .ok (.istore_n 2, 1) := by decide +kernel
theorem dX8_readRecord_14 : decode cX8_readRecord 14 = .ok (.aload_n 0, 1) := by decide +kernel
theorem dX8_readRecord_15 : decode cX8_readRecord 15 = .ok (.getfield 223, 3) := by decide +kernel
theorem dX8_readRecord_18 : decode cX8_readRecord 18 = .ok (.aload_n 0, 1) := by decide +kernel
theorem dX8_readRecord_19 : decode cX8_readRecord 19 = .ok (.getfield 220, 3) := by decide +kernel
theorem dX8_readRecord_22 : decode cX8_readRecord 22 = .ok (.if_icmp .ge 18, 3) := by decide +kernel
theorem dX8_readRecord_25 : decode cX8_readRecord 25 = .ok (.iload_n 1, 1) := by decide +kernel
theorem dX8_readRecord_26 : decode cX8_readRecord 26 = .ok (.ifCond .eq 14, 3) := by decide +kernel
theorem dX8_readRecord_29 : decode cX8_readRecord 29 = .ok (.aload_n 0, 1) := by decide +kernel
theorem dX8_readRecord_30 : decode cX8_readRecord 30 = .ok (.invokevirtual 239, 3) := by decide +kernel
theorem dX8_readRecord_33 : decode cX8_readRecord 33 = .ok (.istore_n 1, 1) := by decide +kernel
theorem dX8_readRecord_34 : decode cX8_readRecord 34 = .ok (.iinc 2 1, 3) := by decide +kernel
theorem dX8_readRecord_37 : decode cX8_readRecord 37 = .ok (.goto (-23), 3) := by decide +kernel
theorem dX8_readRecord_40 : decode cX8_readRecord 40 = .ok (.aload_n 0, 1) := by decide +kernel
theorem dX8_readRecord_41 : decode cX8_readRecord 41 = .ok (.getfield 223, 3) := by decide +kernel
theorem dX8_readRecord_44 : decode cX8_readRecord 44 = .ok (.istore_n 3, 1) := by decide +kernel
theorem dX8_readRecord_45 : decode cX8_readRecord 45 = .ok (.aload_n 0, 1) := by decide +kernel
theorem dX8_readRecord_46 : decode cX8_readRecord 46 = .ok (.iconst 0, 1) := by decide +kernel
theorem dX8_readRecord_47 : decode cX8_readRecord 47 = .ok (.putfield 223, 3) := by decide +kernel
theorem dX8_readRecord_50 : decode cX8_readRecord 50 = .ok (.iconst 0, 1) := by decide +kernel
theorem dX8_readRecord_51 : decode cX8_readRecord 51 = .ok (.istore 4, 2) := by decide +kernel
theorem dX8_readRecord_53 : decode cX8_readRecord 53 = .ok (.iload 4, 2) := by decide +kernel
theorem dX8_readRecord_55 : decode cX8_readRecord 55 = .ok (.iload_n 2, 1) := by decide +kernel
theorem dX8_readRecord_56 : decode cX8_readRecord 56 = .ok (.if_icmp .ge 52, 3) := by decide +kernel
theorem dX8_readRecord_59 : decode cX8_readRecord 59 = .ok (.iload_n 1, 1) := by decide +kernel
theorem dX8_readRecord_60 : decode cX8_readRecord 60 = .ok (.ifCond .eq 48, 3) := by decide +kernel
theorem dX8_readRecord_63 : decode cX8_readRecord 63 = .ok (.aload_n 0, 1) := by decide +kernel
theorem dX8_readRecord_64 : decode cX8_readRecord 64 = .ok (.getfield 73, 3) := by decide +kernel
theorem dX8_readRecord_67 : decode cX8_readRecord 67 = .ok (.ifCond .ne 41, 3) := by decide +kernel
theorem dX8_readRecord_70 : decode cX8_readRecord 70 = .ok (.aload_n 0, 1) := by decide +kernel
theorem dX8_readRecord_71 : decode cX8_readRecord 71 = .ok (.invokevirtual 239, 3) := by decide +kernel
theorem dX8_readRecord_74 : decode cX8_readRecord 74 = .ok (.istore_n 1, 1) := by decide +kernel
theorem dX8_readRecord_75 : decode cX8_readRecord 75 = .ok (.aload_n 0, 1) := by decide +kernel
theorem dX8_readRecord_76 : decode cX8_readRecord 76 = .ok (.invokevirtual 170, 3) := by decide +kernel
theorem dX8_readRecord_79 : decode cX8_readRecord 79 = .ok (.ifCond .ne 18, 3) := by decide +kernel
theorem dX8_readRecord_82 : decode cX8_readRecord 82 = .ok (.aload_n 0, 1) := by decide +kernel
theorem dX8_readRecord_83 : decode cX8_readRecord 83 = .ok (.aload_n 0, 1) := by decide +kernel
theorem dX8_readRecord_84 : decode cX8_readRecord 84 = .ok (.getfield 233, 3) := by decide +kernel
theorem dX8_readRecord_87 : decode cX8_readRecord 87 = .ok (.aload_n 0, 1) := by decide +kernel
theorem dX8_readRecord_88 : decode cX8_readRecord 88 = .ok (.getfield 236, 3) := by decide +kernel
theorem dX8_readRecord_91 : decode cX8_readRecord 91 = .ok (.invokevirtual 174, 3) := by decide +kernel
theorem dX8_readRecord_94 : decode cX8_readRecord 94 = .ok (.ifCond .ne 8, 3) := by decide +kernel
theorem dX8_readRecord_97 : decode cX8_readRecord 97 = .ok (.aload_n 0, 1) := by decide +kernel
theorem dX8_readRecord_98 : decode cX8_readRecord 98 = .ok (.iconst 1, 1) := by decide +kernel
theorem dX8_readRecord_99 : decode cX8_readRecord 99 = .ok (.putfield 73, 3) := by decide +kernel
theorem dX8_readRecord_102 : decode cX8_readRecord 102 = .ok (.iinc 4 1, 3) := by decide +kernel
theorem dX8_readRecord_105 : decode cX8_readRecord 105 = .ok (.goto (-52), 3) := by decide +kernel
theorem dX8_readRecord_108 : decode cX8_readRecord 108 = .ok (.aload_n 0, 1) := by decide +kernel
theorem dX8_readRecord_109 : decode cX8_readRecord 109 = .ok (.iconst 0, 1) := by decide +kernel
theorem dX8_readRecord_110 : decode cX8_readRecord 110 = .ok (.putfield 220, 3) := by decide +kernel
theorem dX8_readRecord_113 : decode cX8_readRecord 113 = .ok (.iload_n 1, 1) := by decide +kernel
theorem dX8_readRecord_114 : decode cX8_readRecord 114 = .ok (.ifCond .ne 10, 3) := by decide +kernel
theorem dX8_readRecord_117 : decode cX8_readRecord 117 = .ok (.bipush (-100), 2) := by decide +kernel
theorem dX8_readRecord_119 : decode cX8_readRecord 119 = .ok (.iload_n 3, 1) := by decide +kernel
theorem dX8_readRecord_120 : decode cX8_readRecord 120 = .ok (.isub, 1) := by decide +kernel
theorem dX8_readRecord_121 : decode cX8_readRecord 121 = .ok (.goto 16, 3) := by decide +kernel
theorem dX8_readRecord_124 : decode cX8_readRecord 124 = .ok (.aload_n 0, 1) := by decide +kernel
theorem dX8_readRecord_125 : decode cX8_readRecord 125 = .ok (.getfield 73, 3) := by decide +kernel
theorem dX8_readRecord_128 : decode cX8_readRecord 128 = .ok (.iconst 1, 1) := by decide +kernel
theorem dX8_readRecord_129 : decode cX8_readRecord 129 = .ok (.if_icmp .ne 7, 3) := by decide +kernel
theorem dX8_readRecord_132 : decode cX8_readRecord 132 = .ok (.iconst 0, 1) := by decide +kernel
theorem dX8_readRecord_133 : decode cX8_readRecord 133 = .ok (.goto 4, 3) := by decide +kernel
theorem dX8_readRecord_136 : decode cX8_readRecord 136 = .ok (.iload_n 2, 1) := by decide +kernel
theorem dX8_readRecord_137 : decode cX8_readRecord 137 = .ok (.ireturn, 1) := by decide +kernel
theorem dX8_lengthOf_0 : decode cX8_lengthOf 0 = .ok (.iload_n 0, 1) := by decide +kernel
theorem dX8_lengthOf_1 : decode cX8_lengthOf 1 = .ok (.iconst (-1), 1) := by decide +kernel
theorem dX8_lengthOf_2 : decode cX8_lengthOf 2 = .ok (.if_icmp .ne 7, 3) := by decide +kernel
theorem dX8_lengthOf_5 : decode cX8_lengthOf 5 = .ok (.iconst 1, 1) := by decide +kernel
theorem dX8_lengthOf_6 : decode cX8_lengthOf 6 = .ok (.goto 4, 3) := by decide +kernel
theorem dX8_lengthOf_9 : decode cX8_lengthOf 9 = .ok (.iconst 2, 1) := by decide +kernel
theorem dX8_lengthOf_10 : decode cX8_lengthOf 10 = .ok (.ireturn, 1) := by decide +kernel
theorem dX8_signOf_0 : decode cX8_signOf 0 = .ok (.iload_n 1, 1) := by decide +kernel
theorem dX8_signOf_1 : decode cX8_signOf 1 = .ok (.iconst (-1), 1) := by decide +kernel
theorem dX8_signOf_2 : decode cX8_signOf 2 = .ok (.if_icmp .ne 8, 3) := by decide +kernel
theorem dX8_signOf_5 : decode cX8_signOf 5 = .ok (.bipush 45, 2) := by decide +kernel
theorem dX8_signOf_7 : decode cX8_signOf 7 = .ok (.goto 29, 3) := by decide +kernel
theorem dX8_signOf_10 : decode cX8_signOf 10 = .ok (.iload_n 2, 1) := by decide +kernel
theorem dX8_signOf_11 : decode cX8_signOf 11 = .ok (.ifCond .ne 15, 3) := by decide +kernel
theorem dX8_signOf_14 : decode cX8_signOf 14 = .ok (.bipush 97, 2) := by decide +kernel
theorem dX8_signOf_16 : decode cX8_signOf 16 = .ok (.iload_n 1, 1) := by decide +kernel
theorem dX8_signOf_17 : decode cX8_signOf 17 = .ok (.aload_n 0, 1) := by decide +kernel
theorem dX8_signOf_18 : decode cX8_signOf 18 = .ok (.getfield 9, 3) := by decide +kernel
theorem dX8_signOf_21 : decode cX8_signOf 21 = .ok (.irem, 1) := by decide +kernel
theorem dX8_signOf_22 : decode cX8_signOf 22 = .ok (.iadd, 1) := by decide +kernel
theorem dX8_signOf_23 : decode cX8_signOf 23 = .ok (.goto 12, 3) := by decide +kernel
theorem dX8_signOf_26 : decode cX8_signOf 26 = .ok (.bipush 49, 2) := by decide +kernel
theorem dX8_signOf_28 : decode cX8_signOf 28 = .ok (.iload_n 1, 1) := by decide +kernel
theorem dX8_signOf_29 : decode cX8_signOf 29 = .ok (.aload_n 0, 1) := by decide +kernel
theorem dX8_signOf_30 : decode cX8_signOf 30 = .ok (.getfield 9, 3) := by decide +kernel
theorem dX8_signOf_33 : decode cX8_signOf 33 = .ok (.idiv, 1) := by decide +kernel
theorem dX8_signOf_34 : decode cX8_signOf 34 = .ok (.iadd, 1) := by decide +kernel
theorem dX8_signOf_35 : decode cX8_signOf 35 = .ok (.i2c, 1) := by decide +kernel
theorem dX8_signOf_36 : decode cX8_signOf 36 = .ok (.ireturn, 1) := by decide +kernel
theorem dX8_written_0 : decode cX8_written 0 = .ok (.aload_n 0, 1) := by decide +kernel
theorem dX8_written_1 : decode cX8_written 1 = .ok (.iconst 0, 1) := by decide +kernel
theorem dX8_written_2 : decode cX8_written 2 = .ok (.putfield 73, 3) := by decide +kernel
theorem dX8_written_5 : decode cX8_written 5 = .ok (.iload_n 1, 1) := by decide +kernel
theorem dX8_written_6 : decode cX8_written 6 = .ok (.istore_n 2, 1) := by decide +kernel
theorem dX8_written_7 : decode cX8_written 7 = .ok (.iconst 0, 1) := by decide +kernel
theorem dX8_written_8 : decode cX8_written 8 = .ok (.istore_n 3, 1) := by decide +kernel
theorem dX8_written_9 : decode cX8_written 9 = .ok (.iload_n 3, 1) := by decide +kernel
theorem dX8_written_10 : decode cX8_written 10 = .ok (.aload_n 0, 1) := by decide +kernel
theorem dX8_written_11 : decode cX8_written 11 = .ok (.getfield 20, 3) := by decide +kernel
theorem dX8_written_14 : decode cX8_written 14 = .ok (.sipush 153, 3) := by decide +kernel
theorem dX8_written_17 : decode cX8_written 17 = .ok (.iaload, 1) := by decide +kernel
theorem dX8_written_18 : decode cX8_written 18 = .ok (.if_icmp .ge 77, 3) := by decide +kernel
theorem dX8_written_21 : decode cX8_written 21 = .ok (.iload_n 1, 1) := by decide +kernel
theorem dX8_written_22 : decode cX8_written 22 = .ok (.ifCond .lt 73, 3) := by decide +kernel
theorem dX8_written_25 : decode cX8_written 25 = .ok (.iconst 0, 1) := by decide +kernel
theorem dX8_written_26 : decode cX8_written 26 = .ok (.istore 4, 2) := by decide +kernel
theorem dX8_written_28 : decode cX8_written 28 = .ok (.iload 4, 2) := by decide +kernel
theorem dX8_written_30 : decode cX8_written 30 = .ok (.iconst 2, 1) := by decide +kernel
theorem dX8_written_31 : decode cX8_written 31 = .ok (.if_icmp .ge 48, 3) := by decide +kernel
theorem dX8_written_34 : decode cX8_written 34 = .ok (.aload_n 0, 1) := by decide +kernel
theorem dX8_written_35 : decode cX8_written 35 = .ok (.getfield 32, 3) := by decide +kernel
theorem dX8_written_38 : decode cX8_written 38 = .ok (.bipush 7, 2) := by decide +kernel
theorem dX8_written_40 : decode cX8_written 40 = .ok (.iload_n 3, 1) := by decide +kernel
theorem dX8_written_41 : decode cX8_written 41 = .ok (.imul, 1) := by decide +kernel
theorem dX8_written_42 : decode cX8_written 42 = .ok (.iload 4, 2) := by decide +kernel
theorem dX8_written_44 : decode cX8_written 44 = .ok (.iadd, 1) := by decide +kernel
theorem dX8_written_45 : decode cX8_written 45 = .ok (.iaload, 1) := by decide +kernel
theorem dX8_written_46 : decode cX8_written 46 = .ok (.istore 5, 2) := by decide +kernel
theorem dX8_written_48 : decode cX8_written 48 = .ok (.iload_n 2, 1) := by decide +kernel
theorem dX8_written_49 : decode cX8_written 49 = .ok (.iload 5, 2) := by decide +kernel
theorem dX8_written_51 : decode cX8_written 51 = .ok (.invokestatic 242, 3) := by decide +kernel
theorem dX8_written_54 : decode cX8_written 54 = .ok (.if_icmp .ge 11, 3) := by decide +kernel
theorem dX8_written_57 : decode cX8_written 57 = .ok (.aload_n 0, 1) := by decide +kernel
theorem dX8_written_58 : decode cX8_written 58 = .ok (.iload 5, 2) := by decide +kernel
theorem dX8_written_60 : decode cX8_written 60 = .ok (.iload_n 2, 1) := by decide +kernel
theorem dX8_written_61 : decode cX8_written 61 = .ok (.invokevirtual 245, 3) := by decide +kernel
theorem dX8_written_64 : decode cX8_written 64 = .ok (.ireturn, 1) := by decide +kernel
theorem dX8_written_65 : decode cX8_written 65 = .ok (.iload_n 2, 1) := by decide +kernel
theorem dX8_written_66 : decode cX8_written 66 = .ok (.iload 5, 2) := by decide +kernel
theorem dX8_written_68 : decode cX8_written 68 = .ok (.invokestatic 242, 3) := by decide +kernel
theorem dX8_written_71 : decode cX8_written 71 = .ok (.isub, 1) := by decide +kernel
theorem dX8_written_72 : decode cX8_written 72 = .ok (.istore_n 2, 1) := by decide +kernel
theorem dX8_written_73 : decode cX8_written 73 = .ok (.iinc 4 1, 3) := by decide +kernel
theorem dX8_written_76 : decode cX8_written 76 = .ok (.goto (-48), 3) := by decide +kernel
theorem dX8_written_79 : decode cX8_written 79 = .ok (.iload_n 2, 1) := by decide +kernel
theorem dX8_written_80 : decode cX8_written 80 = .ok (.ifCond .ne 6, 3) := by decide +kernel
theorem dX8_written_83 : decode cX8_written 83 = .ok (.bipush 59, 2) := by decide +kernel
theorem dX8_written_85 : decode cX8_written 85 = .ok (.ireturn, 1) := by decide +kernel
theorem dX8_written_86 : decode cX8_written 86 = .ok (.iinc 2 (-1), 3) := by decide +kernel
theorem dX8_written_89 : decode cX8_written 89 = .ok (.iinc 3 1, 3) := by decide +kernel
theorem dX8_written_92 : decode cX8_written 92 = .ok (.goto (-83), 3) := by decide +kernel
theorem dX8_written_95 : decode cX8_written 95 = .ok (.aload_n 0, 1) := by decide +kernel
theorem dX8_written_96 : decode cX8_written 96 = .ok (.iconst 1, 1) := by decide +kernel
theorem dX8_written_97 : decode cX8_written 97 = .ok (.putfield 73, 3) := by decide +kernel
theorem dX8_written_100 : decode cX8_written 100 = .ok (.iconst 0, 1) := by decide +kernel
theorem dX8_written_101 : decode cX8_written 101 = .ok (.ireturn, 1) := by decide +kernel
theorem dX8_save_0 : decode cX8_save 0 = .ok (.aload_n 0, 1) := by decide +kernel
theorem dX8_save_1 : decode cX8_save 1 = .ok (.iconst 0, 1) := by decide +kernel
theorem dX8_save_2 : decode cX8_save 2 = .ok (.putfield 73, 3) := by decide +kernel
theorem dX8_save_5 : decode cX8_save 5 = .ok (.aload_n 0, 1) := by decide +kernel
theorem dX8_save_6 : decode cX8_save 6 = .ok (.getfield 20, 3) := by decide +kernel
theorem dX8_save_9 : decode cX8_save 9 = .ok (.aload_n 0, 1) := by decide +kernel
theorem dX8_save_10 : decode cX8_save 10 = .ok (.getfield 38, 3) := by decide +kernel
theorem dX8_save_13 : decode cX8_save 13 = .ok (.sipush 155, 3) := by decide +kernel
theorem dX8_save_16 : decode cX8_save 16 = .ok (.invokestatic 192, 3) := by decide +kernel
theorem dX8_save_19 : decode cX8_save 19 = .ok (.aload_n 0, 1) := by decide +kernel
theorem dX8_save_20 : decode cX8_save 20 = .ok (.getfield 29, 3) := by decide +kernel
theorem dX8_save_23 : decode cX8_save 23 = .ok (.aload_n 0, 1) := by decide +kernel
theorem dX8_save_24 : decode cX8_save 24 = .ok (.getfield 41, 3) := by decide +kernel
theorem dX8_save_27 : decode cX8_save 27 = .ok (.sipush 155, 3) := by decide +kernel
theorem dX8_save_30 : decode cX8_save 30 = .ok (.aload_n 0, 1) := by decide +kernel
theorem dX8_save_31 : decode cX8_save 31 = .ok (.getfield 20, 3) := by decide +kernel
theorem dX8_save_34 : decode cX8_save 34 = .ok (.sipush 153, 3) := by decide +kernel
theorem dX8_save_37 : decode cX8_save 37 = .ok (.iaload, 1) := by decide +kernel
theorem dX8_save_38 : decode cX8_save 38 = .ok (.imul, 1) := by decide +kernel
theorem dX8_save_39 : decode cX8_save 39 = .ok (.invokestatic 192, 3) := by decide +kernel
theorem dX8_save_42 : decode cX8_save 42 = .ok (.aload_n 0, 1) := by decide +kernel
theorem dX8_save_43 : decode cX8_save 43 = .ok (.getfield 32, 3) := by decide +kernel
theorem dX8_save_46 : decode cX8_save 46 = .ok (.aload_n 0, 1) := by decide +kernel
theorem dX8_save_47 : decode cX8_save 47 = .ok (.getfield 44, 3) := by decide +kernel
theorem dX8_save_50 : decode cX8_save 50 = .ok (.bipush 7, 2) := by decide +kernel
theorem dX8_save_52 : decode cX8_save 52 = .ok (.aload_n 0, 1) := by decide +kernel
theorem dX8_save_53 : decode cX8_save 53 = .ok (.getfield 20, 3) := by decide +kernel
theorem dX8_save_56 : decode cX8_save 56 = .ok (.sipush 153, 3) := by decide +kernel
theorem dX8_save_59 : decode cX8_save 59 = .ok (.iaload, 1) := by decide +kernel
theorem dX8_save_60 : decode cX8_save 60 = .ok (.imul, 1) := by decide +kernel
theorem dX8_save_61 : decode cX8_save 61 = .ok (.invokestatic 192, 3) := by decide +kernel
theorem dX8_save_64 : decode cX8_save 64 = .ok (.aload_n 0, 1) := by decide +kernel
theorem dX8_save_65 : decode cX8_save 65 = .ok (.getfield 35, 3) := by decide +kernel
theorem dX8_save_68 : decode cX8_save 68 = .ok (.aload_n 0, 1) := by decide +kernel
theorem dX8_save_69 : decode cX8_save 69 = .ok (.getfield 47, 3) := by decide +kernel
theorem dX8_save_72 : decode cX8_save 72 = .ok (.bipush 8, 2) := by decide +kernel
theorem dX8_save_74 : decode cX8_save 74 = .ok (.aload_n 0, 1) := by decide +kernel
theorem dX8_save_75 : decode cX8_save 75 = .ok (.getfield 20, 3) := by decide +kernel
theorem dX8_save_78 : decode cX8_save 78 = .ok (.sipush 153, 3) := by decide +kernel
theorem dX8_save_81 : decode cX8_save 81 = .ok (.iaload, 1) := by decide +kernel
theorem dX8_save_82 : decode cX8_save 82 = .ok (.imul, 1) := by decide +kernel
theorem dX8_save_83 : decode cX8_save 83 = .ok (.invokestatic 192, 3) := by decide +kernel
theorem dX8_save_86 : decode cX8_save 86 = .ok (.aload_n 0, 1) := by decide +kernel
theorem dX8_save_87 : decode cX8_save 87 = .ok (.getfield 16, 3) := by decide +kernel
theorem dX8_save_90 : decode cX8_save 90 = .ok (.aload_n 0, 1) := by decide +kernel
theorem dX8_save_91 : decode cX8_save 91 = .ok (.getfield 50, 3) := by decide +kernel
theorem dX8_save_94 : decode cX8_save 94 = .ok (.iconst 2, 1) := by decide +kernel
theorem dX8_save_95 : decode cX8_save 95 = .ok (.invokestatic 192, 3) := by decide +kernel
theorem dX8_save_98 : decode cX8_save 98 = .ok (.aload_n 0, 1) := by decide +kernel
theorem dX8_save_99 : decode cX8_save 99 = .ok (.aload_n 0, 1) := by decide +kernel
theorem dX8_save_100 : decode cX8_save 100 = .ok (.getfield 9, 3) := by decide +kernel
theorem dX8_save_103 : decode cX8_save 103 = .ok (.putfield 249, 3) := by decide +kernel
theorem dX8_save_106 : decode cX8_save 106 = .ok (.aload_n 0, 1) := by decide +kernel
theorem dX8_save_107 : decode cX8_save 107 = .ok (.aload_n 0, 1) := by decide +kernel
theorem dX8_save_108 : decode cX8_save 108 = .ok (.getfield 13, 3) := by decide +kernel
theorem dX8_save_111 : decode cX8_save 111 = .ok (.putfield 252, 3) := by decide +kernel
theorem dX8_save_114 : decode cX8_save 114 = .ok (.aload_n 0, 1) := by decide +kernel
theorem dX8_save_115 : decode cX8_save 115 = .ok (.aload_n 0, 1) := by decide +kernel
theorem dX8_save_116 : decode cX8_save 116 = .ok (.getfield 88, 3) := by decide +kernel
theorem dX8_save_119 : decode cX8_save 119 = .ok (.putfield 255, 3) := by decide +kernel
theorem dX8_save_122 : decode cX8_save 122 = .ok (.aload_n 0, 1) := by decide +kernel
theorem dX8_save_123 : decode cX8_save 123 = .ok (.iconst 1, 1) := by decide +kernel
theorem dX8_save_124 : decode cX8_save 124 = .ok (.putfield 258, 3) := by decide +kernel
theorem dX8_save_127 : decode cX8_save 127 = .ok (.aload_n 0, 1) := by decide +kernel
theorem dX8_save_128 : decode cX8_save 128 = .ok (.getfield 20, 3) := by decide +kernel
theorem dX8_save_131 : decode cX8_save 131 = .ok (.sipush 153, 3) := by decide +kernel
theorem dX8_save_134 : decode cX8_save 134 = .ok (.iaload, 1) := by decide +kernel
theorem dX8_save_135 : decode cX8_save 135 = .ok (.ireturn, 1) := by decide +kernel
theorem dX8_restore_0 : decode cX8_restore 0 = .ok (.aload_n 0, 1) := by decide +kernel
theorem dX8_restore_1 : decode cX8_restore 1 = .ok (.aload_n 0, 1) := by decide +kernel
theorem dX8_restore_2 : decode cX8_restore 2 = .ok (.getfield 258, 3) := by decide +kernel
theorem dX8_restore_5 : decode cX8_restore 5 = .ok (.ifCond .eq 7, 3) := by decide +kernel
theorem dX8_restore_8 : decode cX8_restore 8 = .ok (.iconst 0, 1) := by decide +kernel
theorem dX8_restore_9 : decode cX8_restore 9 = .ok (.goto 4, 3) := by decide +kernel
theorem dX8_restore_12 : decode cX8_restore 12 = .ok (.iconst 1, 1) := by decide +kernel
theorem dX8_restore_13 : decode cX8_restore 13 = .ok (.putfield 73, 3) := by decide +kernel
theorem dX8_restore_16 : decode cX8_restore 16 = .ok (.aload_n 0, 1) := by decide +kernel
theorem dX8_restore_17 : decode cX8_restore 17 = .ok (.getfield 258, 3) := by decide +kernel
theorem dX8_restore_20 : decode cX8_restore 20 = .ok (.ifCond .ne 5, 3) := by decide +kernel
theorem dX8_restore_23 : decode cX8_restore 23 = .ok (.iconst 0, 1) := by decide +kernel
theorem dX8_restore_24 : decode cX8_restore 24 = .ok (.ireturn, 1) := by decide +kernel
theorem dX8_restore_25 : decode cX8_restore 25 = .ok (.aload_n 0, 1) := by decide +kernel
theorem dX8_restore_26 : decode cX8_restore 26 = .ok (.getfield 38, 3) := by decide +kernel
theorem dX8_restore_29 : decode cX8_restore 29 = .ok (.aload_n 0, 1) := by decide +kernel
theorem dX8_restore_30 : decode cX8_restore 30 = .ok (.getfield 20, 3) := by decide +kernel
theorem dX8_restore_33 : decode cX8_restore 33 = .ok (.sipush 155, 3) := by decide +kernel
theorem dX8_restore_36 : decode cX8_restore 36 = .ok (.invokestatic 192, 3) := by decide +kernel
theorem dX8_restore_39 : decode cX8_restore 39 = .ok (.aload_n 0, 1) := by decide +kernel
theorem dX8_restore_40 : decode cX8_restore 40 = .ok (.getfield 41, 3) := by decide +kernel
theorem dX8_restore_43 : decode cX8_restore 43 = .ok (.aload_n 0, 1) := by decide +kernel
theorem dX8_restore_44 : decode cX8_restore 44 = .ok (.getfield 29, 3) := by decide +kernel
theorem dX8_restore_47 : decode cX8_restore 47 = .ok (.sipush 155, 3) := by decide +kernel
theorem dX8_restore_50 : decode cX8_restore 50 = .ok (.aload_n 0, 1) := by decide +kernel
theorem dX8_restore_51 : decode cX8_restore 51 = .ok (.getfield 20, 3) := by decide +kernel
theorem dX8_restore_54 : decode cX8_restore 54 = .ok (.sipush 153, 3) := by decide +kernel
theorem dX8_restore_57 : decode cX8_restore 57 = .ok (.iaload, 1) := by decide +kernel
theorem dX8_restore_58 : decode cX8_restore 58 = .ok (.imul, 1) := by decide +kernel
theorem dX8_restore_59 : decode cX8_restore 59 = .ok (.invokestatic 192, 3) := by decide +kernel
theorem dX8_restore_62 : decode cX8_restore 62 = .ok (.aload_n 0, 1) := by decide +kernel
theorem dX8_restore_63 : decode cX8_restore 63 = .ok (.getfield 44, 3) := by decide +kernel
theorem dX8_restore_66 : decode cX8_restore 66 = .ok (.aload_n 0, 1) := by decide +kernel
theorem dX8_restore_67 : decode cX8_restore 67 = .ok (.getfield 32, 3) := by decide +kernel
theorem dX8_restore_70 : decode cX8_restore 70 = .ok (.bipush 7, 2) := by decide +kernel
theorem dX8_restore_72 : decode cX8_restore 72 = .ok (.aload_n 0, 1) := by decide +kernel
theorem dX8_restore_73 : decode cX8_restore 73 = .ok (.getfield 20, 3) := by decide +kernel
theorem dX8_restore_76 : decode cX8_restore 76 = .ok (.sipush 153, 3) := by decide +kernel
theorem dX8_restore_79 : decode cX8_restore 79 = .ok (.iaload, 1) := by decide +kernel
theorem dX8_restore_80 : decode cX8_restore 80 = .ok (.imul, 1) := by decide +kernel
theorem dX8_restore_81 : decode cX8_restore 81 = .ok (.invokestatic 192, 3) := by decide +kernel
theorem dX8_restore_84 : decode cX8_restore 84 = .ok (.aload_n 0, 1) := by decide +kernel
theorem dX8_restore_85 : decode cX8_restore 85 = .ok (.getfield 47, 3) := by decide +kernel
theorem dX8_restore_88 : decode cX8_restore 88 = .ok (.aload_n 0, 1) := by decide +kernel
theorem dX8_restore_89 : decode cX8_restore 89 = .ok (.getfield 35, 3) := by decide +kernel
theorem dX8_restore_92 : decode cX8_restore 92 = .ok (.bipush 8, 2) := by decide +kernel
theorem dX8_restore_94 : decode cX8_restore 94 = .ok (.aload_n 0, 1) := by decide +kernel
theorem dX8_restore_95 : decode cX8_restore 95 = .ok (.getfield 20, 3) := by decide +kernel
theorem dX8_restore_98 : decode cX8_restore 98 = .ok (.sipush 153, 3) := by decide +kernel
theorem dX8_restore_101 : decode cX8_restore 101 = .ok (.iaload, 1) := by decide +kernel
theorem dX8_restore_102 : decode cX8_restore 102 = .ok (.imul, 1) := by decide +kernel
theorem dX8_restore_103 : decode cX8_restore 103 = .ok (.invokestatic 192, 3) := by decide +kernel
theorem dX8_restore_106 : decode cX8_restore 106 = .ok (.aload_n 0, 1) := by decide +kernel
theorem dX8_restore_107 : decode cX8_restore 107 = .ok (.getfield 50, 3) := by decide +kernel
theorem dX8_restore_110 : decode cX8_restore 110 = .ok (.aload_n 0, 1) := by decide +kernel
theorem dX8_restore_111 : decode cX8_restore 111 = .ok (.getfield 16, 3) := by decide +kernel
theorem dX8_restore_114 : decode cX8_restore 114 = .ok (.iconst 2, 1) := by decide +kernel
theorem dX8_restore_115 : decode cX8_restore 115 = .ok (.invokestatic 192, 3) := by decide +kernel
theorem dX8_restore_118 : decode cX8_restore 118 = .ok (.aload_n 0, 1) := by decide +kernel
theorem dX8_restore_119 : decode cX8_restore 119 = .ok (.aload_n 0, 1) := by decide +kernel
theorem dX8_restore_120 : decode cX8_restore 120 = .ok (.getfield 249, 3) := by decide +kernel
theorem dX8_restore_123 : decode cX8_restore 123 = .ok (.putfield 9, 3) := by decide +kernel
theorem dX8_restore_126 : decode cX8_restore 126 = .ok (.aload_n 0, 1) := by decide +kernel
theorem dX8_restore_127 : decode cX8_restore 127 = .ok (.aload_n 0, 1) := by decide +kernel
theorem dX8_restore_128 : decode cX8_restore 128 = .ok (.getfield 252, 3) := by decide +kernel
theorem dX8_restore_131 : decode cX8_restore 131 = .ok (.putfield 13, 3) := by decide +kernel
theorem dX8_restore_134 : decode cX8_restore 134 = .ok (.aload_n 0, 1) := by decide +kernel
theorem dX8_restore_135 : decode cX8_restore 135 = .ok (.aload_n 0, 1) := by decide +kernel
theorem dX8_restore_136 : decode cX8_restore 136 = .ok (.getfield 255, 3) := by decide +kernel
theorem dX8_restore_139 : decode cX8_restore 139 = .ok (.putfield 88, 3) := by decide +kernel
theorem dX8_restore_142 : decode cX8_restore 142 = .ok (.aload_n 0, 1) := by decide +kernel
theorem dX8_restore_143 : decode cX8_restore 143 = .ok (.getfield 20, 3) := by decide +kernel
theorem dX8_restore_146 : decode cX8_restore 146 = .ok (.sipush 153, 3) := by decide +kernel
theorem dX8_restore_149 : decode cX8_restore 149 = .ok (.iaload, 1) := by decide +kernel
theorem dX8_restore_150 : decode cX8_restore 150 = .ok (.ireturn, 1) := by decide +kernel
end
section
theorem dL_start_0 : decode cL_start 0 = .ok (.aload 4, 2) := by decide +kernel
theorem dL_start_2 : decode cL_start 2 = .ok (.iconst 0, 1) := by decide +kernel
theorem dL_start_3 : decode cL_start 3 = .ok (.aload_n 0, 1) := by decide +kernel
theorem dL_start_4 : decode cL_start 4 = .ok (.iload_n 1, 1) := by decide +kernel
theorem dL_start_5 : decode cL_start 5 = .ok (.iload_n 2, 1) := by decide +kernel
theorem dL_start_6 : decode cL_start 6 = .ok (.iload_n 3, 1) := by decide +kernel
theorem dL_start_7 : decode cL_start 7 = .ok (.invokevirtual 7, 3) := by decide +kernel
theorem dL_start_10 : decode cL_start 10 = .ok (.i2l, 1) := by decide +kernel
theorem dL_start_11 : decode cL_start 11 = .ok (.lastore, 1) := by decide +kernel
theorem dL_start_12 : decode cL_start 12 = .ok (.goto 7, 3) := by decide +kernel
theorem dL_start_15 : decode cL_start 15 = .ok (.astore 5, 2) := by decide +kernel
theorem dL_start_17 : decode cL_start 17 = .ok (.iconst 1, 1) := by decide +kernel
theorem dL_start_18 : decode cL_start 18 = .ok (.ireturn, 1) := by decide +kernel
theorem dL_start_19 : decode cL_start 19 = .ok (.iconst 0, 1) := by decide +kernel
theorem dL_start_20 : decode cL_start 20 = .ok (.ireturn, 1) := by decide +kernel
theorem dL_setRule_0 : decode cL_setRule 0 = .ok (.aload_n 2, 1) := by decide +kernel
theorem dL_setRule_1 : decode cL_setRule 1 = .ok (.iconst 0, 1) := by decide +kernel
theorem dL_setRule_2 : decode cL_setRule 2 = .ok (.aload_n 0, 1) := by decide +kernel
theorem dL_setRule_3 : decode cL_setRule 3 = .ok (.iload_n 1, 1) := by decide +kernel
theorem dL_setRule_4 : decode cL_setRule 4 = .ok (.invokevirtual 15, 3) := by decide +kernel
theorem dL_setRule_7 : decode cL_setRule 7 = .ok (.i2l, 1) := by decide +kernel
theorem dL_setRule_8 : decode cL_setRule 8 = .ok (.lastore, 1) := by decide +kernel
theorem dL_setRule_9 : decode cL_setRule 9 = .ok (.goto 6, 3) := by decide +kernel
theorem dL_setRule_12 : decode cL_setRule 12 = .ok (.astore_n 3, 1) := by decide +kernel
theorem dL_setRule_13 : decode cL_setRule 13 = .ok (.iconst 1, 1) := by decide +kernel
theorem dL_setRule_14 : decode cL_setRule 14 = .ok (.ireturn, 1) := by decide +kernel
theorem dL_setRule_15 : decode cL_setRule 15 = .ok (.iconst 0, 1) := by decide +kernel
theorem dL_setRule_16 : decode cL_setRule 16 = .ok (.ireturn, 1) := by decide +kernel
theorem dL_setBonus_0 : decode cL_setBonus 0 = .ok (.aload_n 3, 1) := by decide +kernel
theorem dL_setBonus_1 : decode cL_setBonus 1 = .ok (.iconst 0, 1) := by decide +kernel
theorem dL_setBonus_2 : decode cL_setBonus 2 = .ok (.aload_n 0, 1) := by decide +kernel
theorem dL_setBonus_3 : decode cL_setBonus 3 = .ok (.iload_n 1, 1) := by decide +kernel
theorem dL_setBonus_4 : decode cL_setBonus 4 = .ok (.iload_n 2, 1) := by decide +kernel
theorem dL_setBonus_5 : decode cL_setBonus 5 = .ok (.invokevirtual 19, 3) := by decide +kernel
theorem dL_setBonus_8 : decode cL_setBonus 8 = .ok (.i2l, 1) := by decide +kernel
theorem dL_setBonus_9 : decode cL_setBonus 9 = .ok (.lastore, 1) := by decide +kernel
theorem dL_setBonus_10 : decode cL_setBonus 10 = .ok (.goto 11, 3) := by decide +kernel
theorem dL_setBonus_13 : decode cL_setBonus 13 = .ok (.astore 4, 2) := by decide +kernel
theorem dL_setBonus_15 : decode cL_setBonus 15 = .ok (.iconst 1, 1) := by decide +kernel
theorem dL_setBonus_16 : decode cL_setBonus 16 = .ok (.ireturn, 1) := by decide +kernel
theorem dL_setBonus_17 : decode cL_setBonus 17 = .ok (.astore 4, 2) := by decide +kernel
theorem dL_setBonus_19 : decode cL_setBonus 19 = .ok (.iconst 2, 1) := by decide +kernel
theorem dL_setBonus_20 : decode cL_setBonus 20 = .ok (.ireturn, 1) := by decide +kernel
theorem dL_setBonus_21 : decode cL_setBonus 21 = .ok (.iconst 0, 1) := by decide +kernel
theorem dL_setBonus_22 : decode cL_setBonus 22 = .ok (.ireturn, 1) := by decide +kernel
theorem dL_play_0 : decode cL_play 0 = .ok (.aload_n 3, 1) := by decide +kernel
theorem dL_play_1 : decode cL_play 1 = .ok (.iconst 0, 1) := by decide +kernel
theorem dL_play_2 : decode cL_play 2 = .ok (.aload_n 0, 1) := by decide +kernel
theorem dL_play_3 : decode cL_play 3 = .ok (.iload_n 1, 1) := by decide +kernel
theorem dL_play_4 : decode cL_play 4 = .ok (.iload_n 2, 1) := by decide +kernel
theorem dL_play_5 : decode cL_play 5 = .ok (.invokevirtual 25, 3) := by decide +kernel
theorem dL_play_8 : decode cL_play 8 = .ok (.i2l, 1) := by decide +kernel
theorem dL_play_9 : decode cL_play 9 = .ok (.lastore, 1) := by decide +kernel
theorem dL_play_10 : decode cL_play 10 = .ok (.goto 15, 3) := by decide +kernel
theorem dL_play_13 : decode cL_play 13 = .ok (.astore 4, 2) := by decide +kernel
theorem dL_play_15 : decode cL_play 15 = .ok (.iconst 1, 1) := by decide +kernel
theorem dL_play_16 : decode cL_play 16 = .ok (.ireturn, 1) := by decide +kernel
theorem dL_play_17 : decode cL_play 17 = .ok (.astore 4, 2) := by decide +kernel
theorem dL_play_19 : decode cL_play 19 = .ok (.iconst 2, 1) := by decide +kernel
theorem dL_play_20 : decode cL_play 20 = .ok (.ireturn, 1) := by decide +kernel
theorem dL_play_21 : decode cL_play 21 = .ok (.astore 4, 2) := by decide +kernel
theorem dL_play_23 : decode cL_play 23 = .ok (.iconst 3, 1) := by decide +kernel
theorem dL_play_24 : decode cL_play 24 = .ok (.ireturn, 1) := by decide +kernel
theorem dL_play_25 : decode cL_play 25 = .ok (.iconst 0, 1) := by decide +kernel
theorem dL_play_26 : decode cL_play 26 = .ok (.ireturn, 1) := by decide +kernel
theorem dL_undo_0 : decode cL_undo 0 = .ok (.aload_n 1, 1) := by decide +kernel
theorem dL_undo_1 : decode cL_undo 1 = .ok (.iconst 0, 1) := by decide +kernel
theorem dL_undo_2 : decode cL_undo 2 = .ok (.aload_n 0, 1) := by decide +kernel
theorem dL_undo_3 : decode cL_undo 3 = .ok (.invokevirtual 32, 3) := by decide +kernel
theorem dL_undo_6 : decode cL_undo 6 = .ok (.i2l, 1) := by decide +kernel
theorem dL_undo_7 : decode cL_undo 7 = .ok (.lastore, 1) := by decide +kernel
theorem dL_undo_8 : decode cL_undo 8 = .ok (.goto 6, 3) := by decide +kernel
theorem dL_undo_11 : decode cL_undo 11 = .ok (.astore_n 2, 1) := by decide +kernel
theorem dL_undo_12 : decode cL_undo 12 = .ok (.iconst 1, 1) := by decide +kernel
theorem dL_undo_13 : decode cL_undo 13 = .ok (.ireturn, 1) := by decide +kernel
theorem dL_undo_14 : decode cL_undo 14 = .ok (.iconst 0, 1) := by decide +kernel
theorem dL_undo_15 : decode cL_undo 15 = .ok (.ireturn, 1) := by decide +kernel
theorem dL_cell_0 : decode cL_cell 0 = .ok (.aload_n 3, 1) := by decide +kernel
theorem dL_cell_1 : decode cL_cell 1 = .ok (.iconst 0, 1) := by decide +kernel
theorem dL_cell_2 : decode cL_cell 2 = .ok (.aload_n 0, 1) := by decide +kernel
theorem dL_cell_3 : decode cL_cell 3 = .ok (.iload_n 1, 1) := by decide +kernel
theorem dL_cell_4 : decode cL_cell 4 = .ok (.iload_n 2, 1) := by decide +kernel
theorem dL_cell_5 : decode cL_cell 5 = .ok (.invokevirtual 36, 3) := by decide +kernel
theorem dL_cell_8 : decode cL_cell 8 = .ok (.i2l, 1) := by decide +kernel
theorem dL_cell_9 : decode cL_cell 9 = .ok (.lastore, 1) := by decide +kernel
theorem dL_cell_10 : decode cL_cell 10 = .ok (.goto 7, 3) := by decide +kernel
theorem dL_cell_13 : decode cL_cell 13 = .ok (.astore 4, 2) := by decide +kernel
theorem dL_cell_15 : decode cL_cell 15 = .ok (.iconst 1, 1) := by decide +kernel
theorem dL_cell_16 : decode cL_cell 16 = .ok (.ireturn, 1) := by decide +kernel
theorem dL_cell_17 : decode cL_cell 17 = .ok (.iconst 0, 1) := by decide +kernel
theorem dL_cell_18 : decode cL_cell 18 = .ok (.ireturn, 1) := by decide +kernel
theorem dL_since_0 : decode cL_since 0 = .ok (.aload_n 3, 1) := by decide +kernel
theorem dL_since_1 : decode cL_since 1 = .ok (.iconst 0, 1) := by decide +kernel
theorem dL_since_2 : decode cL_since 2 = .ok (.aload_n 0, 1) := by decide +kernel
theorem dL_since_3 : decode cL_since 3 = .ok (.iload_n 1, 1) := by decide +kernel
theorem dL_since_4 : decode cL_since 4 = .ok (.iload_n 2, 1) := by decide +kernel
theorem dL_since_5 : decode cL_since 5 = .ok (.invokevirtual 39, 3) := by decide +kernel
theorem dL_since_8 : decode cL_since 8 = .ok (.i2l, 1) := by decide +kernel
theorem dL_since_9 : decode cL_since 9 = .ok (.lastore, 1) := by decide +kernel
theorem dL_since_10 : decode cL_since 10 = .ok (.goto 11, 3) := by decide +kernel
theorem dL_since_13 : decode cL_since 13 = .ok (.astore 4, 2) := by decide +kernel
theorem dL_since_15 : decode cL_since 15 = .ok (.iconst 1, 1) := by decide +kernel
theorem dL_since_16 : decode cL_since 16 = .ok (.ireturn, 1) := by decide +kernel
theorem dL_since_17 : decode cL_since 17 = .ok (.astore 4, 2) := by decide +kernel
theorem dL_since_19 : decode cL_since 19 = .ok (.iconst 2, 1) := by decide +kernel
theorem dL_since_20 : decode cL_since 20 = .ok (.ireturn, 1) := by decide +kernel
theorem dL_since_21 : decode cL_since 21 = .ok (.iconst 0, 1) := by decide +kernel
theorem dL_since_22 : decode cL_since 22 = .ok (.ireturn, 1) := by decide +kernel
theorem dL_count_0 : decode cL_count 0 = .ok (.aload_n 2, 1) := by decide +kernel
theorem dL_count_1 : decode cL_count 1 = .ok (.iconst 0, 1) := by decide +kernel
theorem dL_count_2 : decode cL_count 2 = .ok (.aload_n 0, 1) := by decide +kernel
theorem dL_count_3 : decode cL_count 3 = .ok (.iload_n 1, 1) := by decide +kernel
theorem dL_count_4 : decode cL_count 4 = .ok (.invokevirtual 42, 3) := by decide +kernel
theorem dL_count_7 : decode cL_count 7 = .ok (.i2l, 1) := by decide +kernel
theorem dL_count_8 : decode cL_count 8 = .ok (.lastore, 1) := by decide +kernel
theorem dL_count_9 : decode cL_count 9 = .ok (.goto 6, 3) := by decide +kernel
theorem dL_count_12 : decode cL_count 12 = .ok (.astore_n 3, 1) := by decide +kernel
theorem dL_count_13 : decode cL_count 13 = .ok (.iconst 1, 1) := by decide +kernel
theorem dL_count_14 : decode cL_count 14 = .ok (.ireturn, 1) := by decide +kernel
theorem dL_count_15 : decode cL_count 15 = .ok (.iconst 0, 1) := by decide +kernel
theorem dL_count_16 : decode cL_count 16 = .ok (.ireturn, 1) := by decide +kernel
theorem dL_player_0 : decode cL_player 0 = .ok (.aload_n 3, 1) := by decide +kernel
theorem dL_player_1 : decode cL_player 1 = .ok (.iconst 0, 1) := by decide +kernel
theorem dL_player_2 : decode cL_player 2 = .ok (.aload_n 0, 1) := by decide +kernel
theorem dL_player_3 : decode cL_player 3 = .ok (.iload_n 1, 1) := by decide +kernel
theorem dL_player_4 : decode cL_player 4 = .ok (.iload_n 2, 1) := by decide +kernel
theorem dL_player_5 : decode cL_player 5 = .ok (.invokevirtual 45, 3) := by decide +kernel
theorem dL_player_8 : decode cL_player 8 = .ok (.i2l, 1) := by decide +kernel
theorem dL_player_9 : decode cL_player 9 = .ok (.lastore, 1) := by decide +kernel
theorem dL_player_10 : decode cL_player 10 = .ok (.goto 11, 3) := by decide +kernel
theorem dL_player_13 : decode cL_player 13 = .ok (.astore 4, 2) := by decide +kernel
theorem dL_player_15 : decode cL_player 15 = .ok (.iconst 1, 1) := by decide +kernel
theorem dL_player_16 : decode cL_player 16 = .ok (.ireturn, 1) := by decide +kernel
theorem dL_player_17 : decode cL_player 17 = .ok (.astore 4, 2) := by decide +kernel
theorem dL_player_19 : decode cL_player 19 = .ok (.iconst 2, 1) := by decide +kernel
theorem dL_player_20 : decode cL_player 20 = .ok (.ireturn, 1) := by decide +kernel
theorem dL_player_21 : decode cL_player 21 = .ok (.iconst 0, 1) := by decide +kernel
theorem dL_player_22 : decode cL_player 22 = .ok (.ireturn, 1) := by decide +kernel
theorem dL_region_0 : decode cL_region 0 = .ok (.aload_n 3, 1) := by decide +kernel
theorem dL_region_1 : decode cL_region 1 = .ok (.iconst 0, 1) := by decide +kernel
theorem dL_region_2 : decode cL_region 2 = .ok (.aload_n 0, 1) := by decide +kernel
theorem dL_region_3 : decode cL_region 3 = .ok (.iload_n 1, 1) := by decide +kernel
theorem dL_region_4 : decode cL_region 4 = .ok (.iload_n 2, 1) := by decide +kernel
theorem dL_region_5 : decode cL_region 5 = .ok (.invokevirtual 48, 3) := by decide +kernel
theorem dL_region_8 : decode cL_region 8 = .ok (.lastore, 1) := by decide +kernel
theorem dL_region_9 : decode cL_region 9 = .ok (.goto 11, 3) := by decide +kernel
theorem dL_region_12 : decode cL_region 12 = .ok (.astore 4, 2) := by decide +kernel
theorem dL_region_14 : decode cL_region 14 = .ok (.iconst 1, 1) := by decide +kernel
theorem dL_region_15 : decode cL_region 15 = .ok (.ireturn, 1) := by decide +kernel
theorem dL_region_16 : decode cL_region 16 = .ok (.astore 4, 2) := by decide +kernel
theorem dL_region_18 : decode cL_region 18 = .ok (.iconst 2, 1) := by decide +kernel
theorem dL_region_19 : decode cL_region 19 = .ok (.ireturn, 1) := by decide +kernel
theorem dL_region_20 : decode cL_region 20 = .ok (.iconst 0, 1) := by decide +kernel
theorem dL_region_21 : decode cL_region 21 = .ok (.ireturn, 1) := by decide +kernel
theorem dL_cells_0 : decode cL_cells 0 = .ok (.aload_n 2, 1) := by decide +kernel
theorem dL_cells_1 : decode cL_cells 1 = .ok (.iconst 0, 1) := by decide +kernel
theorem dL_cells_2 : decode cL_cells 2 = .ok (.aload_n 0, 1) := by decide +kernel
theorem dL_cells_3 : decode cL_cells 3 = .ok (.iload_n 1, 1) := by decide +kernel
theorem dL_cells_4 : decode cL_cells 4 = .ok (.invokevirtual 54, 3) := by decide +kernel
theorem dL_cells_7 : decode cL_cells 7 = .ok (.lastore, 1) := by decide +kernel
theorem dL_cells_8 : decode cL_cells 8 = .ok (.goto 6, 3) := by decide +kernel
theorem dL_cells_11 : decode cL_cells 11 = .ok (.astore_n 3, 1) := by decide +kernel
theorem dL_cells_12 : decode cL_cells 12 = .ok (.iconst 1, 1) := by decide +kernel
theorem dL_cells_13 : decode cL_cells 13 = .ok (.ireturn, 1) := by decide +kernel
theorem dL_cells_14 : decode cL_cells 14 = .ok (.iconst 0, 1) := by decide +kernel
theorem dL_cells_15 : decode cL_cells 15 = .ok (.ireturn, 1) := by decide +kernel
theorem dL_chain_0 : decode cL_chain 0 = .ok (.aload_n 2, 1) := by decide +kernel
theorem dL_chain_1 : decode cL_chain 1 = .ok (.iconst 0, 1) := by decide +kernel
theorem dL_chain_2 : decode cL_chain 2 = .ok (.aload_n 0, 1) := by decide +kernel
theorem dL_chain_3 : decode cL_chain 3 = .ok (.iload_n 1, 1) := by decide +kernel
theorem dL_chain_4 : decode cL_chain 4 = .ok (.invokevirtual 58, 3) := by decide +kernel
theorem dL_chain_7 : decode cL_chain 7 = .ok (.lastore, 1) := by decide +kernel
theorem dL_chain_8 : decode cL_chain 8 = .ok (.goto 9, 3) := by decide +kernel
theorem dL_chain_11 : decode cL_chain 11 = .ok (.astore_n 3, 1) := by decide +kernel
theorem dL_chain_12 : decode cL_chain 12 = .ok (.iconst 1, 1) := by decide +kernel
theorem dL_chain_13 : decode cL_chain 13 = .ok (.ireturn, 1) := by decide +kernel
theorem dL_chain_14 : decode cL_chain 14 = .ok (.astore_n 3, 1) := by decide +kernel
theorem dL_chain_15 : decode cL_chain 15 = .ok (.iconst 2, 1) := by decide +kernel
theorem dL_chain_16 : decode cL_chain 16 = .ok (.ireturn, 1) := by decide +kernel
theorem dL_chain_17 : decode cL_chain 17 = .ok (.iconst 0, 1) := by decide +kernel
theorem dL_chain_18 : decode cL_chain 18 = .ok (.ireturn, 1) := by decide +kernel
theorem dL_stonesToEnclose_0 : decode cL_stonesToEnclose 0 = .ok (.aload_n 3, 1) := by decide +kernel
theorem dL_stonesToEnclose_1 : decode cL_stonesToEnclose 1 = .ok (.iconst 0, 1) := by decide +kernel
theorem dL_stonesToEnclose_2 : decode cL_stonesToEnclose 2 = .ok (.aload_n 0, 1) := by decide +kernel
theorem dL_stonesToEnclose_3 : decode cL_stonesToEnclose 3 = .ok (.iload_n 1, 1) := by decide +kernel
theorem dL_stonesToEnclose_4 : decode cL_stonesToEnclose 4 = .ok (.iload_n 2, 1) := by decide +kernel
theorem dL_stonesToEnclose_5 : decode cL_stonesToEnclose 5 = .ok (.invokevirtual 61, 3) := by decide +kernel
theorem dL_stonesToEnclose_8 : decode cL_stonesToEnclose 8 = .ok (.i2l, 1) := by decide +kernel
theorem dL_stonesToEnclose_9 : decode cL_stonesToEnclose 9 = .ok (.lastore, 1) := by decide +kernel
theorem dL_stonesToEnclose_10 : decode cL_stonesToEnclose 10 = .ok (.goto 11, 3) := by decide +kernel
theorem dL_stonesToEnclose_13 : decode cL_stonesToEnclose 13 = .ok (.astore 4, 2) := by decide +kernel
theorem dL_stonesToEnclose_15 : decode cL_stonesToEnclose 15 = .ok (.iconst 1, 1) := by decide +kernel
theorem dL_stonesToEnclose_16 : decode cL_stonesToEnclose 16 = .ok (.ireturn, 1) := by decide +kernel
theorem dL_stonesToEnclose_17 : decode cL_stonesToEnclose 17 = .ok (.astore 4, 2) := by decide +kernel
theorem dL_stonesToEnclose_19 : decode cL_stonesToEnclose 19 = .ok (.iconst 2, 1) := by decide +kernel
theorem dL_stonesToEnclose_20 : decode cL_stonesToEnclose 20 = .ok (.ireturn, 1) := by decide +kernel
theorem dL_stonesToEnclose_21 : decode cL_stonesToEnclose 21 = .ok (.iconst 0, 1) := by decide +kernel
theorem dL_stonesToEnclose_22 : decode cL_stonesToEnclose 22 = .ok (.ireturn, 1) := by decide +kernel
theorem dL_share_0 : decode cL_share 0 = .ok (.aload_n 2, 1) := by decide +kernel
theorem dL_share_1 : decode cL_share 1 = .ok (.iconst 0, 1) := by decide +kernel
theorem dL_share_2 : decode cL_share 2 = .ok (.aload_n 0, 1) := by decide +kernel
theorem dL_share_3 : decode cL_share 3 = .ok (.iload_n 1, 1) := by decide +kernel
theorem dL_share_4 : decode cL_share 4 = .ok (.invokevirtual 64, 3) := by decide +kernel
theorem dL_share_7 : decode cL_share 7 = .ok (.dastore, 1) := by decide +kernel
theorem dL_share_8 : decode cL_share 8 = .ok (.goto 6, 3) := by decide +kernel
theorem dL_share_11 : decode cL_share 11 = .ok (.astore_n 3, 1) := by decide +kernel
theorem dL_share_12 : decode cL_share 12 = .ok (.iconst 1, 1) := by decide +kernel
theorem dL_share_13 : decode cL_share 13 = .ok (.ireturn, 1) := by decide +kernel
theorem dL_share_14 : decode cL_share 14 = .ok (.iconst 0, 1) := by decide +kernel
theorem dL_share_15 : decode cL_share 15 = .ok (.ireturn, 1) := by decide +kernel
theorem dL_round_0 : decode cL_round 0 = .ok (.aload_n 3, 1) := by decide +kernel
theorem dL_round_1 : decode cL_round 1 = .ok (.iconst 0, 1) := by decide +kernel
theorem dL_round_2 : decode cL_round 2 = .ok (.aload_n 0, 1) := by decide +kernel
theorem dL_round_3 : decode cL_round 3 = .ok (.iload_n 1, 1) := by decide +kernel
theorem dL_round_4 : decode cL_round 4 = .ok (.iload_n 2, 1) := by decide +kernel
theorem dL_round_5 : decode cL_round 5 = .ok (.invokevirtual 68, 3) := by decide +kernel
theorem dL_round_8 : decode cL_round 8 = .ok (.i2l, 1) := by decide +kernel
theorem dL_round_9 : decode cL_round 9 = .ok (.lastore, 1) := by decide +kernel
theorem dL_round_10 : decode cL_round 10 = .ok (.goto 11, 3) := by decide +kernel
theorem dL_round_13 : decode cL_round 13 = .ok (.astore 4, 2) := by decide +kernel
theorem dL_round_15 : decode cL_round 15 = .ok (.iconst 1, 1) := by decide +kernel
theorem dL_round_16 : decode cL_round 16 = .ok (.ireturn, 1) := by decide +kernel
theorem dL_round_17 : decode cL_round 17 = .ok (.astore 4, 2) := by decide +kernel
theorem dL_round_19 : decode cL_round 19 = .ok (.iconst 2, 1) := by decide +kernel
theorem dL_round_20 : decode cL_round 20 = .ok (.ireturn, 1) := by decide +kernel
theorem dL_round_21 : decode cL_round 21 = .ok (.iconst 0, 1) := by decide +kernel
theorem dL_round_22 : decode cL_round 22 = .ok (.ireturn, 1) := by decide +kernel
theorem dL_turningPoint_0 : decode cL_turningPoint 0 = .ok (.aload_n 1, 1) := by decide +kernel
theorem dL_turningPoint_1 : decode cL_turningPoint 1 = .ok (.iconst 0, 1) := by decide +kernel
theorem dL_turningPoint_2 : decode cL_turningPoint 2 = .ok (.aload_n 0, 1) := by decide +kernel
theorem dL_turningPoint_3 : decode cL_turningPoint 3 = .ok (.invokevirtual 71, 3) := by decide +kernel
theorem dL_turningPoint_6 : decode cL_turningPoint 6 = .ok (.i2l, 1) := by decide +kernel
theorem dL_turningPoint_7 : decode cL_turningPoint 7 = .ok (.lastore, 1) := by decide +kernel
theorem dL_turningPoint_8 : decode cL_turningPoint 8 = .ok (.goto 6, 3) := by decide +kernel
theorem dL_turningPoint_11 : decode cL_turningPoint 11 = .ok (.astore_n 2, 1) := by decide +kernel
theorem dL_turningPoint_12 : decode cL_turningPoint 12 = .ok (.iconst 1, 1) := by decide +kernel
theorem dL_turningPoint_13 : decode cL_turningPoint 13 = .ok (.ireturn, 1) := by decide +kernel
theorem dL_turningPoint_14 : decode cL_turningPoint 14 = .ok (.iconst 0, 1) := by decide +kernel
theorem dL_turningPoint_15 : decode cL_turningPoint 15 = .ok (.ireturn, 1) := by decide +kernel
theorem dL_guarantee_0 : decode cL_guarantee 0 = .ok (.aload 4, 2) := by decide +kernel
theorem dL_guarantee_2 : decode cL_guarantee 2 = .ok (.iconst 0, 1) := by decide +kernel
theorem dL_guarantee_3 : decode cL_guarantee 3 = .ok (.aload_n 0, 1) := by decide +kernel
theorem dL_guarantee_4 : decode cL_guarantee 4 = .ok (.iload_n 1, 1) := by decide +kernel
theorem dL_guarantee_5 : decode cL_guarantee 5 = .ok (.iload_n 2, 1) := by decide +kernel
theorem dL_guarantee_6 : decode cL_guarantee 6 = .ok (.iload_n 3, 1) := by decide +kernel
theorem dL_guarantee_7 : decode cL_guarantee 7 = .ok (.invokevirtual 74, 3) := by decide +kernel
theorem dL_guarantee_10 : decode cL_guarantee 10 = .ok (.i2l, 1) := by decide +kernel
theorem dL_guarantee_11 : decode cL_guarantee 11 = .ok (.lastore, 1) := by decide +kernel
theorem dL_guarantee_12 : decode cL_guarantee 12 = .ok (.goto 15, 3) := by decide +kernel
theorem dL_guarantee_15 : decode cL_guarantee 15 = .ok (.astore 5, 2) := by decide +kernel
theorem dL_guarantee_17 : decode cL_guarantee 17 = .ok (.iconst 1, 1) := by decide +kernel
theorem dL_guarantee_18 : decode cL_guarantee 18 = .ok (.ireturn, 1) := by decide +kernel
theorem dL_guarantee_19 : decode cL_guarantee 19 = .ok (.astore 5, 2) := by decide +kernel
theorem dL_guarantee_21 : decode cL_guarantee 21 = .ok (.iconst 2, 1) := by decide +kernel
theorem dL_guarantee_22 : decode cL_guarantee 22 = .ok (.ireturn, 1) := by decide +kernel
theorem dL_guarantee_23 : decode cL_guarantee 23 = .ok (.astore 5, 2) := by decide +kernel
theorem dL_guarantee_25 : decode cL_guarantee 25 = .ok (.iconst 3, 1) := by decide +kernel
theorem dL_guarantee_26 : decode cL_guarantee 26 = .ok (.ireturn, 1) := by decide +kernel
theorem dL_guarantee_27 : decode cL_guarantee 27 = .ok (.iconst 0, 1) := by decide +kernel
theorem dL_guarantee_28 : decode cL_guarantee 28 = .ok (.ireturn, 1) := by decide +kernel
theorem dL_best_0 : decode cL_best 0 = .ok (.aload_n 3, 1) := by decide +kernel
theorem dL_best_1 : decode cL_best 1 = .ok (.iconst 0, 1) := by decide +kernel
theorem dL_best_2 : decode cL_best 2 = .ok (.aload_n 0, 1) := by decide +kernel
theorem dL_best_3 : decode cL_best 3 = .ok (.iload_n 1, 1) := by decide +kernel
theorem dL_best_4 : decode cL_best 4 = .ok (.iload_n 2, 1) := by decide +kernel
theorem dL_best_5 : decode cL_best 5 = .ok (.invokevirtual 77, 3) := by decide +kernel
theorem dL_best_8 : decode cL_best 8 = .ok (.i2l, 1) := by decide +kernel
theorem dL_best_9 : decode cL_best 9 = .ok (.lastore, 1) := by decide +kernel
theorem dL_best_10 : decode cL_best 10 = .ok (.goto 15, 3) := by decide +kernel
theorem dL_best_13 : decode cL_best 13 = .ok (.astore 4, 2) := by decide +kernel
theorem dL_best_15 : decode cL_best 15 = .ok (.iconst 1, 1) := by decide +kernel
theorem dL_best_16 : decode cL_best 16 = .ok (.ireturn, 1) := by decide +kernel
theorem dL_best_17 : decode cL_best 17 = .ok (.astore 4, 2) := by decide +kernel
theorem dL_best_19 : decode cL_best 19 = .ok (.iconst 2, 1) := by decide +kernel
theorem dL_best_20 : decode cL_best 20 = .ok (.ireturn, 1) := by decide +kernel
theorem dL_best_21 : decode cL_best 21 = .ok (.astore 4, 2) := by decide +kernel
theorem dL_best_23 : decode cL_best 23 = .ok (.iconst 3, 1) := by decide +kernel
theorem dL_best_24 : decode cL_best 24 = .ok (.ireturn, 1) := by decide +kernel
theorem dL_best_25 : decode cL_best 25 = .ok (.iconst 0, 1) := by decide +kernel
theorem dL_best_26 : decode cL_best 26 = .ok (.ireturn, 1) := by decide +kernel
theorem dL_report_0 : decode cL_report 0 = .ok (.aload_n 3, 1) := by decide +kernel
theorem dL_report_1 : decode cL_report 1 = .ok (.iconst 0, 1) := by decide +kernel
theorem dL_report_2 : decode cL_report 2 = .ok (.aload_n 0, 1) := by decide +kernel
theorem dL_report_3 : decode cL_report 3 = .ok (.iload_n 1, 1) := by decide +kernel
theorem dL_report_4 : decode cL_report 4 = .ok (.iload_n 2, 1) := by decide +kernel
theorem dL_report_5 : decode cL_report 5 = .ok (.invokevirtual 80, 3) := by decide +kernel
theorem dL_report_8 : decode cL_report 8 = .ok (.i2l, 1) := by decide +kernel
theorem dL_report_9 : decode cL_report 9 = .ok (.lastore, 1) := by decide +kernel
theorem dL_report_10 : decode cL_report 10 = .ok (.goto 11, 3) := by decide +kernel
theorem dL_report_13 : decode cL_report 13 = .ok (.astore 4, 2) := by decide +kernel
theorem dL_report_15 : decode cL_report 15 = .ok (.iconst 1, 1) := by decide +kernel
theorem dL_report_16 : decode cL_report 16 = .ok (.ireturn, 1) := by decide +kernel
theorem dL_report_17 : decode cL_report 17 = .ok (.astore 4, 2) := by decide +kernel
theorem dL_report_19 : decode cL_report 19 = .ok (.iconst 2, 1) := by decide +kernel
theorem dL_report_20 : decode cL_report 20 = .ok (.ireturn, 1) := by decide +kernel
theorem dL_report_21 : decode cL_report 21 = .ok (.iconst 0, 1) := by decide +kernel
theorem dL_report_22 : decode cL_report 22 = .ok (.ireturn, 1) := by decide +kernel
theorem dL_feed_0 : decode cL_feed 0 = .ok (.aload_n 2, 1) := by decide +kernel
theorem dL_feed_1 : decode cL_feed 1 = .ok (.iconst 0, 1) := by decide +kernel
theorem dL_feed_2 : decode cL_feed 2 = .ok (.aload_n 0, 1) := by decide +kernel
theorem dL_feed_3 : decode cL_feed 3 = .ok (.iload_n 1, 1) := by decide +kernel
theorem dL_feed_4 : decode cL_feed 4 = .ok (.invokevirtual 83, 3) := by decide +kernel
theorem dL_feed_7 : decode cL_feed 7 = .ok (.i2l, 1) := by decide +kernel
theorem dL_feed_8 : decode cL_feed 8 = .ok (.lastore, 1) := by decide +kernel
theorem dL_feed_9 : decode cL_feed 9 = .ok (.goto 6, 3) := by decide +kernel
theorem dL_feed_12 : decode cL_feed 12 = .ok (.astore_n 3, 1) := by decide +kernel
theorem dL_feed_13 : decode cL_feed 13 = .ok (.iconst 1, 1) := by decide +kernel
theorem dL_feed_14 : decode cL_feed 14 = .ok (.ireturn, 1) := by decide +kernel
theorem dL_feed_15 : decode cL_feed 15 = .ok (.iconst 0, 1) := by decide +kernel
theorem dL_feed_16 : decode cL_feed 16 = .ok (.ireturn, 1) := by decide +kernel
theorem dL_readRecord_0 : decode cL_readRecord 0 = .ok (.aload_n 1, 1) := by decide +kernel
theorem dL_readRecord_1 : decode cL_readRecord 1 = .ok (.iconst 0, 1) := by decide +kernel
theorem dL_readRecord_2 : decode cL_readRecord 2 = .ok (.aload_n 0, 1) := by decide +kernel
theorem dL_readRecord_3 : decode cL_readRecord 3 = .ok (.invokevirtual 87, 3) := by decide +kernel
theorem dL_readRecord_6 : decode cL_readRecord 6 = .ok (.i2l, 1) := by decide +kernel
theorem dL_readRecord_7 : decode cL_readRecord 7 = .ok (.lastore, 1) := by decide +kernel
theorem dL_readRecord_8 : decode cL_readRecord 8 = .ok (.goto 6, 3) := by decide +kernel
theorem dL_readRecord_11 : decode cL_readRecord 11 = .ok (.astore_n 2, 1) := by decide +kernel
theorem dL_readRecord_12 : decode cL_readRecord 12 = .ok (.iconst 1, 1) := by decide +kernel
theorem dL_readRecord_13 : decode cL_readRecord 13 = .ok (.ireturn, 1) := by decide +kernel
theorem dL_readRecord_14 : decode cL_readRecord 14 = .ok (.iconst 0, 1) := by decide +kernel
theorem dL_readRecord_15 : decode cL_readRecord 15 = .ok (.ireturn, 1) := by decide +kernel
theorem dL_written_0 : decode cL_written 0 = .ok (.aload_n 2, 1) := by decide +kernel
theorem dL_written_1 : decode cL_written 1 = .ok (.iconst 0, 1) := by decide +kernel
theorem dL_written_2 : decode cL_written 2 = .ok (.aload_n 0, 1) := by decide +kernel
theorem dL_written_3 : decode cL_written 3 = .ok (.iload_n 1, 1) := by decide +kernel
theorem dL_written_4 : decode cL_written 4 = .ok (.invokevirtual 90, 3) := by decide +kernel
theorem dL_written_7 : decode cL_written 7 = .ok (.i2l, 1) := by decide +kernel
theorem dL_written_8 : decode cL_written 8 = .ok (.lastore, 1) := by decide +kernel
theorem dL_written_9 : decode cL_written 9 = .ok (.goto 6, 3) := by decide +kernel
theorem dL_written_12 : decode cL_written 12 = .ok (.astore_n 3, 1) := by decide +kernel
theorem dL_written_13 : decode cL_written 13 = .ok (.iconst 1, 1) := by decide +kernel
theorem dL_written_14 : decode cL_written 14 = .ok (.ireturn, 1) := by decide +kernel
theorem dL_written_15 : decode cL_written 15 = .ok (.iconst 0, 1) := by decide +kernel
theorem dL_written_16 : decode cL_written 16 = .ok (.ireturn, 1) := by decide +kernel
theorem dL_restore_0 : decode cL_restore 0 = .ok (.aload_n 1, 1) := by decide +kernel
theorem dL_restore_1 : decode cL_restore 1 = .ok (.iconst 0, 1) := by decide +kernel
theorem dL_restore_2 : decode cL_restore 2 = .ok (.aload_n 0, 1) := by decide +kernel
theorem dL_restore_3 : decode cL_restore 3 = .ok (.invokevirtual 94, 3) := by decide +kernel
theorem dL_restore_6 : decode cL_restore 6 = .ok (.i2l, 1) := by decide +kernel
theorem dL_restore_7 : decode cL_restore 7 = .ok (.lastore, 1) := by decide +kernel
theorem dL_restore_8 : decode cL_restore 8 = .ok (.goto 6, 3) := by decide +kernel
theorem dL_restore_11 : decode cL_restore 11 = .ok (.astore_n 2, 1) := by decide +kernel
theorem dL_restore_12 : decode cL_restore 12 = .ok (.iconst 1, 1) := by decide +kernel
theorem dL_restore_13 : decode cL_restore 13 = .ok (.ireturn, 1) := by decide +kernel
theorem dL_restore_14 : decode cL_restore 14 = .ok (.iconst 0, 1) := by decide +kernel
theorem dL_restore_15 : decode cL_restore 15 = .ok (.ireturn, 1) := by decide +kernel
theorem dL_law_0 : decode cL_law 0 = .ok (.new 8, 3) := by decide +kernel
theorem dL_law_3 : decode cL_law 3 = .ok (.dup, 1) := by decide +kernel
theorem dL_law_4 : decode cL_law 4 = .ok (.invokespecial 97, 3) := by decide +kernel
theorem dL_law_7 : decode cL_law 7 = .ok (.astore_n 1, 1) := by decide +kernel
theorem dL_law_8 : decode cL_law 8 = .ok (.new 98, 3) := by decide +kernel
theorem dL_law_11 : decode cL_law 11 = .ok (.dup, 1) := by decide +kernel
theorem dL_law_12 : decode cL_law 12 = .ok (.invokespecial 100, 3) := by decide +kernel
theorem dL_law_15 : decode cL_law 15 = .ok (.astore_n 2, 1) := by decide +kernel
theorem dL_law_16 : decode cL_law 16 = .ok (.iconst 1, 1) := by decide +kernel
theorem dL_law_17 : decode cL_law 17 = .ok (.newarray .long, 2) := by decide +kernel
theorem dL_law_19 : decode cL_law 19 = .ok (.astore_n 3, 1) := by decide +kernel
theorem dL_law_20 : decode cL_law 20 = .ok (.iconst 1, 1) := by decide +kernel
theorem dL_law_21 : decode cL_law 21 = .ok (.newarray .double, 2) := by decide +kernel
theorem dL_law_23 : decode cL_law 23 = .ok (.astore 4, 2) := by decide +kernel
theorem dL_law_25 : decode cL_law 25 = .ok (.iconst 0, 1) := by decide +kernel
theorem dL_law_26 : decode cL_law 26 = .ok (.istore 5, 2) := by decide +kernel
theorem dL_law_28 : decode cL_law 28 = .ok (.iload 5, 2) := by decide +kernel
theorem dL_law_30 : decode cL_law 30 = .ok (.aload_n 0, 1) := by decide +kernel
theorem dL_law_31 : decode cL_law 31 = .ok (.arraylength, 1) := by decide +kernel
theorem dL_law_32 : decode cL_law 32 = .ok (.iconst 4, 1) := by decide +kernel
theorem dL_law_33 : decode cL_law 33 = .ok (.isub, 1) := by decide +kernel
theorem dL_law_34 : decode cL_law 34 = .ok (.if_icmp .gt 1603, 3) := by decide +kernel
theorem dL_law_37 : decode cL_law 37 = .ok (.aload_n 0, 1) := by decide +kernel
theorem dL_law_38 : decode cL_law 38 = .ok (.iload 5, 2) := by decide +kernel
theorem dL_law_40 : decode cL_law 40 = .ok (.iaload, 1) := by decide +kernel
theorem dL_law_41 : decode cL_law 41 = .ok (.bipush 31, 2) := by decide +kernel
theorem dL_law_43 : decode cL_law 43 = .ok (.iand, 1) := by decide +kernel
theorem dL_law_44 : decode cL_law 44 = .ok (.tableswitch 1587 0 25 #[120, 200, 256, 324, 392, 436, 449, 517, 585, 641, 709, 776, 831, 886, 954, 1031, 1099, 1143, 1223, 1291, 1304, 1372, 1430, 1474, 1530, 1543], 120) := by decide +kernel
theorem dL_law_164 : decode cL_law 164 = .ok (.aload_n 1, 1) := by decide +kernel
theorem dL_law_165 : decode cL_law 165 = .ok (.aload_n 0, 1) := by decide +kernel
theorem dL_law_166 : decode cL_law 166 = .ok (.iload 5, 2) := by decide +kernel
theorem dL_law_168 : decode cL_law 168 = .ok (.iconst 1, 1) := by decide +kernel
theorem dL_law_169 : decode cL_law 169 = .ok (.iadd, 1) := by decide +kernel
theorem dL_law_170 : decode cL_law 170 = .ok (.iaload, 1) := by decide +kernel
theorem dL_law_171 : decode cL_law 171 = .ok (.aload_n 0, 1) := by decide +kernel
theorem dL_law_172 : decode cL_law 172 = .ok (.iload 5, 2) := by decide +kernel
theorem dL_law_174 : decode cL_law 174 = .ok (.iconst 2, 1) := by decide +kernel
theorem dL_law_175 : decode cL_law 175 = .ok (.iadd, 1) := by decide +kernel
theorem dL_law_176 : decode cL_law 176 = .ok (.iaload, 1) := by decide +kernel
theorem dL_law_177 : decode cL_law 177 = .ok (.aload_n 0, 1) := by decide +kernel
theorem dL_law_178 : decode cL_law 178 = .ok (.iload 5, 2) := by decide +kernel
theorem dL_law_180 : decode cL_law 180 = .ok (.iconst 3, 1) := by decide +kernel
theorem dL_law_181 : decode cL_law 181 = .ok (.iadd, 1) := by decide +kernel
theorem dL_law_182 : decode cL_law 182 = .ok (.iaload, 1) := by decide +kernel
theorem dL_law_183 : decode cL_law 183 = .ok (.aload_n 3, 1) := by decide +kernel
theorem dL_law_184 : decode cL_law 184 = .ok (.invokestatic 101, 3) := by decide +kernel
theorem dL_law_187 : decode cL_law 187 = .ok (.istore 6, 2) := by decide +kernel
theorem dL_law_189 : decode cL_law 189 = .ok (.aload_n 2, 1) := by decide +kernel
theorem dL_law_190 : decode cL_law 190 = .ok (.aload_n 0, 1) := by decide +kernel
theorem dL_law_191 : decode cL_law 191 = .ok (.iload 5, 2) := by decide +kernel
theorem dL_law_193 : decode cL_law 193 = .ok (.iconst 1, 1) := by decide +kernel
theorem dL_law_194 : decode cL_law 194 = .ok (.iadd, 1) := by decide +kernel
theorem dL_law_195 : decode cL_law 195 = .ok (.iaload, 1) := by decide +kernel
theorem dL_law_196 : decode cL_law 196 = .ok (.aload_n 0, 1) := by decide +kernel
theorem dL_law_197 : decode cL_law 197 = .ok (.iload 5, 2) := by decide +kernel
theorem dL_law_199 : decode cL_law 199 = .ok (.iconst 2, 1) := by decide +kernel
theorem dL_law_200 : decode cL_law 200 = .ok (.iadd, 1) := by decide +kernel
theorem dL_law_201 : decode cL_law 201 = .ok (.iaload, 1) := by decide +kernel
theorem dL_law_202 : decode cL_law 202 = .ok (.aload_n 0, 1) := by decide +kernel
theorem dL_law_203 : decode cL_law 203 = .ok (.iload 5, 2) := by decide +kernel
theorem dL_law_205 : decode cL_law 205 = .ok (.iconst 3, 1) := by decide +kernel
theorem dL_law_206 : decode cL_law 206 = .ok (.iadd, 1) := by decide +kernel
theorem dL_law_207 : decode cL_law 207 = .ok (.iaload, 1) := by decide +kernel
theorem dL_law_208 : decode cL_law 208 = .ok (.invokevirtual 106, 3) := by decide +kernel
theorem dL_law_211 : decode cL_law 211 = .ok (.istore 7, 2) := by decide +kernel
theorem dL_law_213 : decode cL_law 213 = .ok (.aload_n 2, 1) := by decide +kernel
theorem dL_law_214 : decode cL_law 214 = .ok (.invokevirtual 107, 3) := by decide +kernel
theorem dL_law_217 : decode cL_law 217 = .ok (.iload 6, 2) := by decide +kernel
theorem dL_law_219 : decode cL_law 219 = .ok (.if_icmp .eq 5, 3) := by decide +kernel
theorem dL_law_222 : decode cL_law 222 = .ok (.iconst 0, 1) := by decide +kernel
theorem dL_law_223 : decode cL_law 223 = .ok (.ireturn, 1) := by decide +kernel
theorem dL_law_224 : decode cL_law 224 = .ok (.iload 6, 2) := by decide +kernel
theorem dL_law_226 : decode cL_law 226 = .ok (.ifCond .ne 15, 3) := by decide +kernel
theorem dL_law_229 : decode cL_law 229 = .ok (.aload_n 3, 1) := by decide +kernel
theorem dL_law_230 : decode cL_law 230 = .ok (.iconst 0, 1) := by decide +kernel
theorem dL_law_231 : decode cL_law 231 = .ok (.laload, 1) := by decide +kernel
theorem dL_law_232 : decode cL_law 232 = .ok (.iload 7, 2) := by decide +kernel
theorem dL_law_234 : decode cL_law 234 = .ok (.i2l, 1) := by decide +kernel
theorem dL_law_235 : decode cL_law 235 = .ok (.lcmp, 1) := by decide +kernel
theorem dL_law_236 : decode cL_law 236 = .ok (.ifCond .eq 5, 3) := by decide +kernel
theorem dL_law_239 : decode cL_law 239 = .ok (.iconst 0, 1) := by decide +kernel
theorem dL_law_240 : decode cL_law 240 = .ok (.ireturn, 1) := by decide +kernel
theorem dL_law_241 : decode cL_law 241 = .ok (.goto 1390, 3) := by decide +kernel
theorem dL_law_244 : decode cL_law 244 = .ok (.aload_n 1, 1) := by decide +kernel
theorem dL_law_245 : decode cL_law 245 = .ok (.aload_n 0, 1) := by decide +kernel
theorem dL_law_246 : decode cL_law 246 = .ok (.iload 5, 2) := by decide +kernel
theorem dL_law_248 : decode cL_law 248 = .ok (.iconst 1, 1) := by decide +kernel
theorem dL_law_249 : decode cL_law 249 = .ok (.iadd, 1) := by decide +kernel
theorem dL_law_250 : decode cL_law 250 = .ok (.iaload, 1) := by decide +kernel
theorem dL_law_251 : decode cL_law 251 = .ok (.aload_n 3, 1) := by decide +kernel
theorem dL_law_252 : decode cL_law 252 = .ok (.invokestatic 110, 3) := by decide +kernel
theorem dL_law_255 : decode cL_law 255 = .ok (.istore 6, 2) := by decide +kernel
theorem dL_law_257 : decode cL_law 257 = .ok (.aload_n 2, 1) := by decide +kernel
theorem dL_law_258 : decode cL_law 258 = .ok (.aload_n 0, 1) := by decide +kernel
theorem dL_law_259 : decode cL_law 259 = .ok (.iload 5, 2) := by decide +kernel
theorem dL_law_261 : decode cL_law 261 = .ok (.iconst 1, 1) := by decide +kernel
theorem dL_law_262 : decode cL_law 262 = .ok (.iadd, 1) := by decide +kernel
theorem dL_law_263 : decode cL_law 263 = .ok (.iaload, 1) := by decide +kernel
theorem dL_law_264 : decode cL_law 264 = .ok (.invokevirtual 113, 3) := by decide +kernel
theorem dL_law_267 : decode cL_law 267 = .ok (.istore 7, 2) := by decide +kernel
theorem dL_law_269 : decode cL_law 269 = .ok (.aload_n 2, 1) := by decide +kernel
theorem dL_law_270 : decode cL_law 270 = .ok (.invokevirtual 107, 3) := by decide +kernel
theorem dL_law_273 : decode cL_law 273 = .ok (.iload 6, 2) := by decide +kernel
theorem dL_law_275 : decode cL_law 275 = .ok (.if_icmp .eq 5, 3) := by decide +kernel
theorem dL_law_278 : decode cL_law 278 = .ok (.iconst 0, 1) := by decide +kernel
theorem dL_law_279 : decode cL_law 279 = .ok (.ireturn, 1) := by decide +kernel
theorem dL_law_280 : decode cL_law 280 = .ok (.iload 6, 2) := by decide +kernel
theorem dL_law_282 : decode cL_law 282 = .ok (.ifCond .ne 15, 3) := by decide +kernel
theorem dL_law_285 : decode cL_law 285 = .ok (.aload_n 3, 1) := by decide +kernel
theorem dL_law_286 : decode cL_law 286 = .ok (.iconst 0, 1) := by decide +kernel
theorem dL_law_287 : decode cL_law 287 = .ok (.laload, 1) := by decide +kernel
theorem dL_law_288 : decode cL_law 288 = .ok (.iload 7, 2) := by decide +kernel
theorem dL_law_290 : decode cL_law 290 = .ok (.i2l, 1) := by decide +kernel
theorem dL_law_291 : decode cL_law 291 = .ok (.lcmp, 1) := by decide +kernel
theorem dL_law_292 : decode cL_law 292 = .ok (.ifCond .eq 5, 3) := by decide +kernel
theorem dL_law_295 : decode cL_law 295 = .ok (.iconst 0, 1) := by decide +kernel
theorem dL_law_296 : decode cL_law 296 = .ok (.ireturn, 1) := by decide +kernel
theorem dL_law_297 : decode cL_law 297 = .ok (.goto 1334, 3) := by decide +kernel
theorem dL_law_300 : decode cL_law 300 = .ok (.aload_n 1, 1) := by decide +kernel
theorem dL_law_301 : decode cL_law 301 = .ok (.aload_n 0, 1) := by decide +kernel
theorem dL_law_302 : decode cL_law 302 = .ok (.iload 5, 2) := by decide +kernel
theorem dL_law_304 : decode cL_law 304 = .ok (.iconst 1, 1) := by decide +kernel
theorem dL_law_305 : decode cL_law 305 = .ok (.iadd, 1) := by decide +kernel
theorem dL_law_306 : decode cL_law 306 = .ok (.iaload, 1) := by decide +kernel
theorem dL_law_307 : decode cL_law 307 = .ok (.aload_n 0, 1) := by decide +kernel
theorem dL_law_308 : decode cL_law 308 = .ok (.iload 5, 2) := by decide +kernel
theorem dL_law_310 : decode cL_law 310 = .ok (.iconst 2, 1) := by decide +kernel
theorem dL_law_311 : decode cL_law 311 = .ok (.iadd, 1) := by decide +kernel
theorem dL_law_312 : decode cL_law 312 = .ok (.iaload, 1) := by decide +kernel
theorem dL_law_313 : decode cL_law 313 = .ok (.aload_n 3, 1) := by decide +kernel
theorem dL_law_314 : decode cL_law 314 = .ok (.invokestatic 114, 3) := by decide +kernel
theorem dL_law_317 : decode cL_law 317 = .ok (.istore 6, 2) := by decide +kernel
theorem dL_law_319 : decode cL_law 319 = .ok (.aload_n 2, 1) := by decide +kernel
theorem dL_law_320 : decode cL_law 320 = .ok (.aload_n 0, 1) := by decide +kernel
theorem dL_law_321 : decode cL_law 321 = .ok (.iload 5, 2) := by decide +kernel
theorem dL_law_323 : decode cL_law 323 = .ok (.iconst 1, 1) := by decide +kernel
theorem dL_law_324 : decode cL_law 324 = .ok (.iadd, 1) := by decide +kernel
theorem dL_law_325 : decode cL_law 325 = .ok (.iaload, 1) := by decide +kernel
theorem dL_law_326 : decode cL_law 326 = .ok (.aload_n 0, 1) := by decide +kernel
theorem dL_law_327 : decode cL_law 327 = .ok (.iload 5, 2) := by decide +kernel
theorem dL_law_329 : decode cL_law 329 = .ok (.iconst 2, 1) := by decide +kernel
theorem dL_law_330 : decode cL_law 330 = .ok (.iadd, 1) := by decide +kernel
theorem dL_law_331 : decode cL_law 331 = .ok (.iaload, 1) := by decide +kernel
theorem dL_law_332 : decode cL_law 332 = .ok (.invokevirtual 117, 3) := by decide +kernel
theorem dL_law_335 : decode cL_law 335 = .ok (.istore 7, 2) := by decide +kernel
theorem dL_law_337 : decode cL_law 337 = .ok (.aload_n 2, 1) := by decide +kernel
theorem dL_law_338 : decode cL_law 338 = .ok (.invokevirtual 107, 3) := by decide +kernel
theorem dL_law_341 : decode cL_law 341 = .ok (.iload 6, 2) := by decide +kernel
theorem dL_law_343 : decode cL_law 343 = .ok (.if_icmp .eq 5, 3) := by decide +kernel
theorem dL_law_346 : decode cL_law 346 = .ok (.iconst 0, 1) := by decide +kernel
theorem dL_law_347 : decode cL_law 347 = .ok (.ireturn, 1) := by decide +kernel
theorem dL_law_348 : decode cL_law 348 = .ok (.iload 6, 2) := by decide +kernel
theorem dL_law_350 : decode cL_law 350 = .ok (.ifCond .ne 15, 3) := by decide +kernel
theorem dL_law_353 : decode cL_law 353 = .ok (.aload_n 3, 1) := by decide +kernel
theorem dL_law_354 : decode cL_law 354 = .ok (.iconst 0, 1) := by decide +kernel
theorem dL_law_355 : decode cL_law 355 = .ok (.laload, 1) := by decide +kernel
theorem dL_law_356 : decode cL_law 356 = .ok (.iload 7, 2) := by decide +kernel
theorem dL_law_358 : decode cL_law 358 = .ok (.i2l, 1) := by decide +kernel
theorem dL_law_359 : decode cL_law 359 = .ok (.lcmp, 1) := by decide +kernel
theorem dL_law_360 : decode cL_law 360 = .ok (.ifCond .eq 5, 3) := by decide +kernel
theorem dL_law_363 : decode cL_law 363 = .ok (.iconst 0, 1) := by decide +kernel
theorem dL_law_364 : decode cL_law 364 = .ok (.ireturn, 1) := by decide +kernel
theorem dL_law_365 : decode cL_law 365 = .ok (.goto 1266, 3) := by decide +kernel
theorem dL_law_368 : decode cL_law 368 = .ok (.aload_n 1, 1) := by decide +kernel
theorem dL_law_369 : decode cL_law 369 = .ok (.aload_n 0, 1) := by decide +kernel
theorem dL_law_370 : decode cL_law 370 = .ok (.iload 5, 2) := by decide +kernel
theorem dL_law_372 : decode cL_law 372 = .ok (.iconst 1, 1) := by decide +kernel
theorem dL_law_373 : decode cL_law 373 = .ok (.iadd, 1) := by decide +kernel
theorem dL_law_374 : decode cL_law 374 = .ok (.iaload, 1) := by decide +kernel
theorem dL_law_375 : decode cL_law 375 = .ok (.aload_n 0, 1) := by decide +kernel
theorem dL_law_376 : decode cL_law 376 = .ok (.iload 5, 2) := by decide +kernel
theorem dL_law_378 : decode cL_law 378 = .ok (.iconst 2, 1) := by decide +kernel
theorem dL_law_379 : decode cL_law 379 = .ok (.iadd, 1) := by decide +kernel
theorem dL_law_380 : decode cL_law 380 = .ok (.iaload, 1) := by decide +kernel
theorem dL_law_381 : decode cL_law 381 = .ok (.aload_n 3, 1) := by decide +kernel
theorem dL_law_382 : decode cL_law 382 = .ok (.invokestatic 118, 3) := by decide +kernel
theorem dL_law_385 : decode cL_law 385 = .ok (.istore 6, 2) := by decide +kernel
theorem dL_law_387 : decode cL_law 387 = .ok (.aload_n 2, 1) := by decide +kernel
theorem dL_law_388 : decode cL_law 388 = .ok (.aload_n 0, 1) := by decide +kernel
theorem dL_law_389 : decode cL_law 389 = .ok (.iload 5, 2) := by decide +kernel
theorem dL_law_391 : decode cL_law 391 = .ok (.iconst 1, 1) := by decide +kernel
theorem dL_law_392 : decode cL_law 392 = .ok (.iadd, 1) := by decide +kernel
theorem dL_law_393 : decode cL_law 393 = .ok (.iaload, 1) := by decide +kernel
theorem dL_law_394 : decode cL_law 394 = .ok (.aload_n 0, 1) := by decide +kernel
theorem dL_law_395 : decode cL_law 395 = .ok (.iload 5, 2) := by decide +kernel
theorem dL_law_397 : decode cL_law 397 = .ok (.iconst 2, 1) := by decide +kernel
theorem dL_law_398 : decode cL_law 398 = .ok (.iadd, 1) := by decide +kernel
theorem dL_law_399 : decode cL_law 399 = .ok (.iaload, 1) := by decide +kernel
theorem dL_law_400 : decode cL_law 400 = .ok (.invokevirtual 120, 3) := by decide +kernel
theorem dL_law_403 : decode cL_law 403 = .ok (.istore 7, 2) := by decide +kernel
theorem dL_law_405 : decode cL_law 405 = .ok (.aload_n 2, 1) := by decide +kernel
theorem dL_law_406 : decode cL_law 406 = .ok (.invokevirtual 107, 3) := by decide +kernel
theorem dL_law_409 : decode cL_law 409 = .ok (.iload 6, 2) := by decide +kernel
theorem dL_law_411 : decode cL_law 411 = .ok (.if_icmp .eq 5, 3) := by decide +kernel
theorem dL_law_414 : decode cL_law 414 = .ok (.iconst 0, 1) := by decide +kernel
theorem dL_law_415 : decode cL_law 415 = .ok (.ireturn, 1) := by decide +kernel
theorem dL_law_416 : decode cL_law 416 = .ok (.iload 6, 2) := by decide +kernel
theorem dL_law_418 : decode cL_law 418 = .ok (.ifCond .ne 15, 3) := by decide +kernel
theorem dL_law_421 : decode cL_law 421 = .ok (.aload_n 3, 1) := by decide +kernel
theorem dL_law_422 : decode cL_law 422 = .ok (.iconst 0, 1) := by decide +kernel
theorem dL_law_423 : decode cL_law 423 = .ok (.laload, 1) := by decide +kernel
theorem dL_law_424 : decode cL_law 424 = .ok (.iload 7, 2) := by decide +kernel
theorem dL_law_426 : decode cL_law 426 = .ok (.i2l, 1) := by decide +kernel
theorem dL_law_427 : decode cL_law 427 = .ok (.lcmp, 1) := by decide +kernel
theorem dL_law_428 : decode cL_law 428 = .ok (.ifCond .eq 5, 3) := by decide +kernel
theorem dL_law_431 : decode cL_law 431 = .ok (.iconst 0, 1) := by decide +kernel
theorem dL_law_432 : decode cL_law 432 = .ok (.ireturn, 1) := by decide +kernel
theorem dL_law_433 : decode cL_law 433 = .ok (.goto 1198, 3) := by decide +kernel
theorem dL_law_436 : decode cL_law 436 = .ok (.aload_n 1, 1) := by decide +kernel
theorem dL_law_437 : decode cL_law 437 = .ok (.aload_n 3, 1) := by decide +kernel
theorem dL_law_438 : decode cL_law 438 = .ok (.invokestatic 121, 3) := by decide +kernel
theorem dL_law_441 : decode cL_law 441 = .ok (.istore 6, 2) := by decide +kernel
theorem dL_law_443 : decode cL_law 443 = .ok (.aload_n 2, 1) := by decide +kernel
theorem dL_law_444 : decode cL_law 444 = .ok (.invokevirtual 124, 3) := by decide +kernel
theorem dL_law_447 : decode cL_law 447 = .ok (.istore 7, 2) := by decide +kernel
theorem dL_law_449 : decode cL_law 449 = .ok (.aload_n 2, 1) := by decide +kernel
theorem dL_law_450 : decode cL_law 450 = .ok (.invokevirtual 107, 3) := by decide +kernel
theorem dL_law_453 : decode cL_law 453 = .ok (.iload 6, 2) := by decide +kernel
theorem dL_law_455 : decode cL_law 455 = .ok (.if_icmp .eq 5, 3) := by decide +kernel
theorem dL_law_458 : decode cL_law 458 = .ok (.iconst 0, 1) := by decide +kernel
theorem dL_law_459 : decode cL_law 459 = .ok (.ireturn, 1) := by decide +kernel
theorem dL_law_460 : decode cL_law 460 = .ok (.iload 6, 2) := by decide +kernel
theorem dL_law_462 : decode cL_law 462 = .ok (.ifCond .ne 15, 3) := by decide +kernel
theorem dL_law_465 : decode cL_law 465 = .ok (.aload_n 3, 1) := by decide +kernel
theorem dL_law_466 : decode cL_law 466 = .ok (.iconst 0, 1) := by decide +kernel
theorem dL_law_467 : decode cL_law 467 = .ok (.laload, 1) := by decide +kernel
theorem dL_law_468 : decode cL_law 468 = .ok (.iload 7, 2) := by decide +kernel
theorem dL_law_470 : decode cL_law 470 = .ok (.i2l, 1) := by decide +kernel
theorem dL_law_471 : decode cL_law 471 = .ok (.lcmp, 1) := by decide +kernel
theorem dL_law_472 : decode cL_law 472 = .ok (.ifCond .eq 5, 3) := by decide +kernel
theorem dL_law_475 : decode cL_law 475 = .ok (.iconst 0, 1) := by decide +kernel
theorem dL_law_476 : decode cL_law 476 = .ok (.ireturn, 1) := by decide +kernel
theorem dL_law_477 : decode cL_law 477 = .ok (.goto 1154, 3) := by decide +kernel
theorem dL_law_480 : decode cL_law 480 = .ok (.aload_n 1, 1) := by decide +kernel
theorem dL_law_481 : decode cL_law 481 = .ok (.invokevirtual 125, 3) := by decide +kernel
theorem dL_law_484 : decode cL_law 484 = .ok (.aload_n 2, 1) := by decide +kernel
theorem dL_law_485 : decode cL_law 485 = .ok (.invokevirtual 129, 3) := by decide +kernel
theorem dL_law_488 : decode cL_law 488 = .ok (.if_icmp .eq 1143, 3) := by decide +kernel
theorem dL_law_491 : decode cL_law 491 = .ok (.iconst 0, 1) := by decide +kernel
theorem dL_law_492 : decode cL_law 492 = .ok (.ireturn, 1) := by decide +kernel
theorem dL_law_493 : decode cL_law 493 = .ok (.aload_n 1, 1) := by decide +kernel
theorem dL_law_494 : decode cL_law 494 = .ok (.aload_n 0, 1) := by decide +kernel
theorem dL_law_495 : decode cL_law 495 = .ok (.iload 5, 2) := by decide +kernel
theorem dL_law_497 : decode cL_law 497 = .ok (.iconst 1, 1) := by decide +kernel
theorem dL_law_498 : decode cL_law 498 = .ok (.iadd, 1) := by decide +kernel
theorem dL_law_499 : decode cL_law 499 = .ok (.iaload, 1) := by decide +kernel
theorem dL_law_500 : decode cL_law 500 = .ok (.aload_n 0, 1) := by decide +kernel
theorem dL_law_501 : decode cL_law 501 = .ok (.iload 5, 2) := by decide +kernel
theorem dL_law_503 : decode cL_law 503 = .ok (.iconst 2, 1) := by decide +kernel
theorem dL_law_504 : decode cL_law 504 = .ok (.iadd, 1) := by decide +kernel
theorem dL_law_505 : decode cL_law 505 = .ok (.iaload, 1) := by decide +kernel
theorem dL_law_506 : decode cL_law 506 = .ok (.aload_n 3, 1) := by decide +kernel
theorem dL_law_507 : decode cL_law 507 = .ok (.invokestatic 130, 3) := by decide +kernel
theorem dL_law_510 : decode cL_law 510 = .ok (.istore 6, 2) := by decide +kernel
theorem dL_law_512 : decode cL_law 512 = .ok (.aload_n 2, 1) := by decide +kernel
theorem dL_law_513 : decode cL_law 513 = .ok (.aload_n 0, 1) := by decide +kernel
theorem dL_law_514 : decode cL_law 514 = .ok (.iload 5, 2) := by decide +kernel
theorem dL_law_516 : decode cL_law 516 = .ok (.iconst 1, 1) := by decide +kernel
theorem dL_law_517 : decode cL_law 517 = .ok (.iadd, 1) := by decide +kernel
theorem dL_law_518 : decode cL_law 518 = .ok (.iaload, 1) := by decide +kernel
theorem dL_law_519 : decode cL_law 519 = .ok (.aload_n 0, 1) := by decide +kernel
theorem dL_law_520 : decode cL_law 520 = .ok (.iload 5, 2) := by decide +kernel
theorem dL_law_522 : decode cL_law 522 = .ok (.iconst 2, 1) := by decide +kernel
theorem dL_law_523 : decode cL_law 523 = .ok (.iadd, 1) := by decide +kernel
theorem dL_law_524 : decode cL_law 524 = .ok (.iaload, 1) := by decide +kernel
theorem dL_law_525 : decode cL_law 525 = .ok (.invokevirtual 132, 3) := by decide +kernel
theorem dL_law_528 : decode cL_law 528 = .ok (.istore 7, 2) := by decide +kernel
theorem dL_law_530 : decode cL_law 530 = .ok (.aload_n 2, 1) := by decide +kernel
theorem dL_law_531 : decode cL_law 531 = .ok (.invokevirtual 107, 3) := by decide +kernel
theorem dL_law_534 : decode cL_law 534 = .ok (.iload 6, 2) := by decide +kernel
theorem dL_law_536 : decode cL_law 536 = .ok (.if_icmp .eq 5, 3) := by decide +kernel
theorem dL_law_539 : decode cL_law 539 = .ok (.iconst 0, 1) := by decide +kernel
theorem dL_law_540 : decode cL_law 540 = .ok (.ireturn, 1) := by decide +kernel
theorem dL_law_541 : decode cL_law 541 = .ok (.iload 6, 2) := by decide +kernel
theorem dL_law_543 : decode cL_law 543 = .ok (.ifCond .ne 15, 3) := by decide +kernel
theorem dL_law_546 : decode cL_law 546 = .ok (.aload_n 3, 1) := by decide +kernel
theorem dL_law_547 : decode cL_law 547 = .ok (.iconst 0, 1) := by decide +kernel
theorem dL_law_548 : decode cL_law 548 = .ok (.laload, 1) := by decide +kernel
theorem dL_law_549 : decode cL_law 549 = .ok (.iload 7, 2) := by decide +kernel
theorem dL_law_551 : decode cL_law 551 = .ok (.i2l, 1) := by decide +kernel
theorem dL_law_552 : decode cL_law 552 = .ok (.lcmp, 1) := by decide +kernel
theorem dL_law_553 : decode cL_law 553 = .ok (.ifCond .eq 5, 3) := by decide +kernel
theorem dL_law_556 : decode cL_law 556 = .ok (.iconst 0, 1) := by decide +kernel
theorem dL_law_557 : decode cL_law 557 = .ok (.ireturn, 1) := by decide +kernel
theorem dL_law_558 : decode cL_law 558 = .ok (.goto 1073, 3) := by decide +kernel
theorem dL_law_561 : decode cL_law 561 = .ok (.aload_n 1, 1) := by decide +kernel
theorem dL_law_562 : decode cL_law 562 = .ok (.aload_n 0, 1) := by decide +kernel
theorem dL_law_563 : decode cL_law 563 = .ok (.iload 5, 2) := by decide +kernel
theorem dL_law_565 : decode cL_law 565 = .ok (.iconst 1, 1) := by decide +kernel
theorem dL_law_566 : decode cL_law 566 = .ok (.iadd, 1) := by decide +kernel
theorem dL_law_567 : decode cL_law 567 = .ok (.iaload, 1) := by decide +kernel
theorem dL_law_568 : decode cL_law 568 = .ok (.aload_n 0, 1) := by decide +kernel
theorem dL_law_569 : decode cL_law 569 = .ok (.iload 5, 2) := by decide +kernel
theorem dL_law_571 : decode cL_law 571 = .ok (.iconst 2, 1) := by decide +kernel
theorem dL_law_572 : decode cL_law 572 = .ok (.iadd, 1) := by decide +kernel
theorem dL_law_573 : decode cL_law 573 = .ok (.iaload, 1) := by decide +kernel
theorem dL_law_574 : decode cL_law 574 = .ok (.aload_n 3, 1) := by decide +kernel
theorem dL_law_575 : decode cL_law 575 = .ok (.invokestatic 133, 3) := by decide +kernel
theorem dL_law_578 : decode cL_law 578 = .ok (.istore 6, 2) := by decide +kernel
theorem dL_law_580 : decode cL_law 580 = .ok (.aload_n 2, 1) := by decide +kernel
theorem dL_law_581 : decode cL_law 581 = .ok (.aload_n 0, 1) := by decide +kernel
theorem dL_law_582 : decode cL_law 582 = .ok (.iload 5, 2) := by decide +kernel
theorem dL_law_584 : decode cL_law 584 = .ok (.iconst 1, 1) := by decide +kernel
theorem dL_law_585 : decode cL_law 585 = .ok (.iadd, 1) := by decide +kernel
theorem dL_law_586 : decode cL_law 586 = .ok (.iaload, 1) := by decide +kernel
theorem dL_law_587 : decode cL_law 587 = .ok (.aload_n 0, 1) := by decide +kernel
theorem dL_law_588 : decode cL_law 588 = .ok (.iload 5, 2) := by decide +kernel
theorem dL_law_590 : decode cL_law 590 = .ok (.iconst 2, 1) := by decide +kernel
theorem dL_law_591 : decode cL_law 591 = .ok (.iadd, 1) := by decide +kernel
theorem dL_law_592 : decode cL_law 592 = .ok (.iaload, 1) := by decide +kernel
theorem dL_law_593 : decode cL_law 593 = .ok (.invokevirtual 135, 3) := by decide +kernel
theorem dL_law_596 : decode cL_law 596 = .ok (.istore 7, 2) := by decide +kernel
theorem dL_law_598 : decode cL_law 598 = .ok (.aload_n 2, 1) := by decide +kernel
theorem dL_law_599 : decode cL_law 599 = .ok (.invokevirtual 107, 3) := by decide +kernel
theorem dL_law_602 : decode cL_law 602 = .ok (.iload 6, 2) := by decide +kernel
theorem dL_law_604 : decode cL_law 604 = .ok (.if_icmp .eq 5, 3) := by decide +kernel
theorem dL_law_607 : decode cL_law 607 = .ok (.iconst 0, 1) := by decide +kernel
theorem dL_law_608 : decode cL_law 608 = .ok (.ireturn, 1) := by decide +kernel
theorem dL_law_609 : decode cL_law 609 = .ok (.iload 6, 2) := by decide +kernel
theorem dL_law_611 : decode cL_law 611 = .ok (.ifCond .ne 15, 3) := by decide +kernel
theorem dL_law_614 : decode cL_law 614 = .ok (.aload_n 3, 1) := by decide +kernel
theorem dL_law_615 : decode cL_law 615 = .ok (.iconst 0, 1) := by decide +kernel
theorem dL_law_616 : decode cL_law 616 = .ok (.laload, 1) := by decide +kernel
theorem dL_law_617 : decode cL_law 617 = .ok (.iload 7, 2) := by decide +kernel
theorem dL_law_619 : decode cL_law 619 = .ok (.i2l, 1) := by decide +kernel
theorem dL_law_620 : decode cL_law 620 = .ok (.lcmp, 1) := by decide +kernel
theorem dL_law_621 : decode cL_law 621 = .ok (.ifCond .eq 5, 3) := by decide +kernel
theorem dL_law_624 : decode cL_law 624 = .ok (.iconst 0, 1) := by decide +kernel
theorem dL_law_625 : decode cL_law 625 = .ok (.ireturn, 1) := by decide +kernel
theorem dL_law_626 : decode cL_law 626 = .ok (.goto 1005, 3) := by decide +kernel
theorem dL_law_629 : decode cL_law 629 = .ok (.aload_n 1, 1) := by decide +kernel
theorem dL_law_630 : decode cL_law 630 = .ok (.aload_n 0, 1) := by decide +kernel
theorem dL_law_631 : decode cL_law 631 = .ok (.iload 5, 2) := by decide +kernel
theorem dL_law_633 : decode cL_law 633 = .ok (.iconst 1, 1) := by decide +kernel
theorem dL_law_634 : decode cL_law 634 = .ok (.iadd, 1) := by decide +kernel
theorem dL_law_635 : decode cL_law 635 = .ok (.iaload, 1) := by decide +kernel
theorem dL_law_636 : decode cL_law 636 = .ok (.aload_n 3, 1) := by decide +kernel
theorem dL_law_637 : decode cL_law 637 = .ok (.invokestatic 136, 3) := by decide +kernel
theorem dL_law_640 : decode cL_law 640 = .ok (.istore 6, 2) := by decide +kernel
theorem dL_law_642 : decode cL_law 642 = .ok (.aload_n 2, 1) := by decide +kernel
theorem dL_law_643 : decode cL_law 643 = .ok (.aload_n 0, 1) := by decide +kernel
theorem dL_law_644 : decode cL_law 644 = .ok (.iload 5, 2) := by decide +kernel
theorem dL_law_646 : decode cL_law 646 = .ok (.iconst 1, 1) := by decide +kernel
theorem dL_law_647 : decode cL_law 647 = .ok (.iadd, 1) := by decide +kernel
theorem dL_law_648 : decode cL_law 648 = .ok (.iaload, 1) := by decide +kernel
theorem dL_law_649 : decode cL_law 649 = .ok (.invokevirtual 138, 3) := by decide +kernel
theorem dL_law_652 : decode cL_law 652 = .ok (.istore 7, 2) := by decide +kernel
theorem dL_law_654 : decode cL_law 654 = .ok (.aload_n 2, 1) := by decide +kernel
theorem dL_law_655 : decode cL_law 655 = .ok (.invokevirtual 107, 3) := by decide +kernel
theorem dL_law_658 : decode cL_law 658 = .ok (.iload 6, 2) := by decide +kernel
theorem dL_law_660 : decode cL_law 660 = .ok (.if_icmp .eq 5, 3) := by decide +kernel
theorem dL_law_663 : decode cL_law 663 = .ok (.iconst 0, 1) := by decide +kernel
theorem dL_law_664 : decode cL_law 664 = .ok (.ireturn, 1) := by decide +kernel
theorem dL_law_665 : decode cL_law 665 = .ok (.iload 6, 2) := by decide +kernel
theorem dL_law_667 : decode cL_law 667 = .ok (.ifCond .ne 15, 3) := by decide +kernel
theorem dL_law_670 : decode cL_law 670 = .ok (.aload_n 3, 1) := by decide +kernel
theorem dL_law_671 : decode cL_law 671 = .ok (.iconst 0, 1) := by decide +kernel
theorem dL_law_672 : decode cL_law 672 = .ok (.laload, 1) := by decide +kernel
theorem dL_law_673 : decode cL_law 673 = .ok (.iload 7, 2) := by decide +kernel
theorem dL_law_675 : decode cL_law 675 = .ok (.i2l, 1) := by decide +kernel
theorem dL_law_676 : decode cL_law 676 = .ok (.lcmp, 1) := by decide +kernel
theorem dL_law_677 : decode cL_law 677 = .ok (.ifCond .eq 5, 3) := by decide +kernel
theorem dL_law_680 : decode cL_law 680 = .ok (.iconst 0, 1) := by decide +kernel
theorem dL_law_681 : decode cL_law 681 = .ok (.ireturn, 1) := by decide +kernel
theorem dL_law_682 : decode cL_law 682 = .ok (.goto 949, 3) := by decide +kernel
theorem dL_law_685 : decode cL_law 685 = .ok (.aload_n 1, 1) := by decide +kernel
theorem dL_law_686 : decode cL_law 686 = .ok (.aload_n 0, 1) := by decide +kernel
theorem dL_law_687 : decode cL_law 687 = .ok (.iload 5, 2) := by decide +kernel
theorem dL_law_689 : decode cL_law 689 = .ok (.iconst 1, 1) := by decide +kernel
theorem dL_law_690 : decode cL_law 690 = .ok (.iadd, 1) := by decide +kernel
theorem dL_law_691 : decode cL_law 691 = .ok (.iaload, 1) := by decide +kernel
theorem dL_law_692 : decode cL_law 692 = .ok (.aload_n 0, 1) := by decide +kernel
theorem dL_law_693 : decode cL_law 693 = .ok (.iload 5, 2) := by decide +kernel
theorem dL_law_695 : decode cL_law 695 = .ok (.iconst 2, 1) := by decide +kernel
theorem dL_law_696 : decode cL_law 696 = .ok (.iadd, 1) := by decide +kernel
theorem dL_law_697 : decode cL_law 697 = .ok (.iaload, 1) := by decide +kernel
theorem dL_law_698 : decode cL_law 698 = .ok (.aload_n 3, 1) := by decide +kernel
theorem dL_law_699 : decode cL_law 699 = .ok (.invokestatic 139, 3) := by decide +kernel
theorem dL_law_702 : decode cL_law 702 = .ok (.istore 6, 2) := by decide +kernel
theorem dL_law_704 : decode cL_law 704 = .ok (.aload_n 2, 1) := by decide +kernel
theorem dL_law_705 : decode cL_law 705 = .ok (.aload_n 0, 1) := by decide +kernel
theorem dL_law_706 : decode cL_law 706 = .ok (.iload 5, 2) := by decide +kernel
theorem dL_law_708 : decode cL_law 708 = .ok (.iconst 1, 1) := by decide +kernel
theorem dL_law_709 : decode cL_law 709 = .ok (.iadd, 1) := by decide +kernel
theorem dL_law_710 : decode cL_law 710 = .ok (.iaload, 1) := by decide +kernel
theorem dL_law_711 : decode cL_law 711 = .ok (.aload_n 0, 1) := by decide +kernel
theorem dL_law_712 : decode cL_law 712 = .ok (.iload 5, 2) := by decide +kernel
theorem dL_law_714 : decode cL_law 714 = .ok (.iconst 2, 1) := by decide +kernel
theorem dL_law_715 : decode cL_law 715 = .ok (.iadd, 1) := by decide +kernel
theorem dL_law_716 : decode cL_law 716 = .ok (.iaload, 1) := by decide +kernel
theorem dL_law_717 : decode cL_law 717 = .ok (.invokevirtual 141, 3) := by decide +kernel
theorem dL_law_720 : decode cL_law 720 = .ok (.istore 7, 2) := by decide +kernel
theorem dL_law_722 : decode cL_law 722 = .ok (.aload_n 2, 1) := by decide +kernel
theorem dL_law_723 : decode cL_law 723 = .ok (.invokevirtual 107, 3) := by decide +kernel
theorem dL_law_726 : decode cL_law 726 = .ok (.iload 6, 2) := by decide +kernel
theorem dL_law_728 : decode cL_law 728 = .ok (.if_icmp .eq 5, 3) := by decide +kernel
theorem dL_law_731 : decode cL_law 731 = .ok (.iconst 0, 1) := by decide +kernel
theorem dL_law_732 : decode cL_law 732 = .ok (.ireturn, 1) := by decide +kernel
theorem dL_law_733 : decode cL_law 733 = .ok (.iload 6, 2) := by decide +kernel
theorem dL_law_735 : decode cL_law 735 = .ok (.ifCond .ne 15, 3) := by decide +kernel
theorem dL_law_738 : decode cL_law 738 = .ok (.aload_n 3, 1) := by decide +kernel
theorem dL_law_739 : decode cL_law 739 = .ok (.iconst 0, 1) := by decide +kernel
theorem dL_law_740 : decode cL_law 740 = .ok (.laload, 1) := by decide +kernel
theorem dL_law_741 : decode cL_law 741 = .ok (.iload 7, 2) := by decide +kernel
theorem dL_law_743 : decode cL_law 743 = .ok (.i2l, 1) := by decide +kernel
theorem dL_law_744 : decode cL_law 744 = .ok (.lcmp, 1) := by decide +kernel
theorem dL_law_745 : decode cL_law 745 = .ok (.ifCond .eq 5, 3) := by decide +kernel
theorem dL_law_748 : decode cL_law 748 = .ok (.iconst 0, 1) := by decide +kernel
theorem dL_law_749 : decode cL_law 749 = .ok (.ireturn, 1) := by decide +kernel
theorem dL_law_750 : decode cL_law 750 = .ok (.goto 881, 3) := by decide +kernel
theorem dL_law_753 : decode cL_law 753 = .ok (.aload_n 1, 1) := by decide +kernel
theorem dL_law_754 : decode cL_law 754 = .ok (.aload_n 0, 1) := by decide +kernel
theorem dL_law_755 : decode cL_law 755 = .ok (.iload 5, 2) := by decide +kernel
theorem dL_law_757 : decode cL_law 757 = .ok (.iconst 1, 1) := by decide +kernel
theorem dL_law_758 : decode cL_law 758 = .ok (.iadd, 1) := by decide +kernel
theorem dL_law_759 : decode cL_law 759 = .ok (.iaload, 1) := by decide +kernel
theorem dL_law_760 : decode cL_law 760 = .ok (.aload_n 0, 1) := by decide +kernel
theorem dL_law_761 : decode cL_law 761 = .ok (.iload 5, 2) := by decide +kernel
theorem dL_law_763 : decode cL_law 763 = .ok (.iconst 2, 1) := by decide +kernel
theorem dL_law_764 : decode cL_law 764 = .ok (.iadd, 1) := by decide +kernel
theorem dL_law_765 : decode cL_law 765 = .ok (.iaload, 1) := by decide +kernel
theorem dL_law_766 : decode cL_law 766 = .ok (.aload_n 3, 1) := by decide +kernel
theorem dL_law_767 : decode cL_law 767 = .ok (.invokestatic 142, 3) := by decide +kernel
theorem dL_law_770 : decode cL_law 770 = .ok (.istore 6, 2) := by decide +kernel
theorem dL_law_772 : decode cL_law 772 = .ok (.aload_n 2, 1) := by decide +kernel
theorem dL_law_773 : decode cL_law 773 = .ok (.aload_n 0, 1) := by decide +kernel
theorem dL_law_774 : decode cL_law 774 = .ok (.iload 5, 2) := by decide +kernel
theorem dL_law_776 : decode cL_law 776 = .ok (.iconst 1, 1) := by decide +kernel
theorem dL_law_777 : decode cL_law 777 = .ok (.iadd, 1) := by decide +kernel
theorem dL_law_778 : decode cL_law 778 = .ok (.iaload, 1) := by decide +kernel
theorem dL_law_779 : decode cL_law 779 = .ok (.aload_n 0, 1) := by decide +kernel
theorem dL_law_780 : decode cL_law 780 = .ok (.iload 5, 2) := by decide +kernel
theorem dL_law_782 : decode cL_law 782 = .ok (.iconst 2, 1) := by decide +kernel
theorem dL_law_783 : decode cL_law 783 = .ok (.iadd, 1) := by decide +kernel
theorem dL_law_784 : decode cL_law 784 = .ok (.iaload, 1) := by decide +kernel
theorem dL_law_785 : decode cL_law 785 = .ok (.invokevirtual 144, 3) := by decide +kernel
theorem dL_law_788 : decode cL_law 788 = .ok (.lstore 7, 2) := by decide +kernel
theorem dL_law_790 : decode cL_law 790 = .ok (.aload_n 2, 1) := by decide +kernel
theorem dL_law_791 : decode cL_law 791 = .ok (.invokevirtual 107, 3) := by decide +kernel
theorem dL_law_794 : decode cL_law 794 = .ok (.iload 6, 2) := by decide +kernel
theorem dL_law_796 : decode cL_law 796 = .ok (.if_icmp .eq 5, 3) := by decide +kernel
theorem dL_law_799 : decode cL_law 799 = .ok (.iconst 0, 1) := by decide +kernel
theorem dL_law_800 : decode cL_law 800 = .ok (.ireturn, 1) := by decide +kernel
theorem dL_law_801 : decode cL_law 801 = .ok (.iload 6, 2) := by decide +kernel
theorem dL_law_803 : decode cL_law 803 = .ok (.ifCond .ne 14, 3) := by decide +kernel
theorem dL_law_806 : decode cL_law 806 = .ok (.aload_n 3, 1) := by decide +kernel
theorem dL_law_807 : decode cL_law 807 = .ok (.iconst 0, 1) := by decide +kernel
theorem dL_law_808 : decode cL_law 808 = .ok (.laload, 1) := by decide +kernel
theorem dL_law_809 : decode cL_law 809 = .ok (.lload 7, 2) := by decide +kernel
theorem dL_law_811 : decode cL_law 811 = .ok (.lcmp, 1) := by decide +kernel
theorem dL_law_812 : decode cL_law 812 = .ok (.ifCond .eq 5, 3) := by decide +kernel
theorem dL_law_815 : decode cL_law 815 = .ok (.iconst 0, 1) := by decide +kernel
theorem dL_law_816 : decode cL_law 816 = .ok (.ireturn, 1) := by decide +kernel
theorem dL_law_817 : decode cL_law 817 = .ok (.goto 814, 3) := by decide +kernel
theorem dL_law_820 : decode cL_law 820 = .ok (.aload_n 1, 1) := by decide +kernel
theorem dL_law_821 : decode cL_law 821 = .ok (.aload_n 0, 1) := by decide +kernel
theorem dL_law_822 : decode cL_law 822 = .ok (.iload 5, 2) := by decide +kernel
theorem dL_law_824 : decode cL_law 824 = .ok (.iconst 1, 1) := by decide +kernel
theorem dL_law_825 : decode cL_law 825 = .ok (.iadd, 1) := by decide +kernel
theorem dL_law_826 : decode cL_law 826 = .ok (.iaload, 1) := by decide +kernel
theorem dL_law_827 : decode cL_law 827 = .ok (.aload_n 3, 1) := by decide +kernel
theorem dL_law_828 : decode cL_law 828 = .ok (.invokestatic 145, 3) := by decide +kernel
theorem dL_law_831 : decode cL_law 831 = .ok (.istore 6, 2) := by decide +kernel
theorem dL_law_833 : decode cL_law 833 = .ok (.aload_n 2, 1) := by decide +kernel
theorem dL_law_834 : decode cL_law 834 = .ok (.aload_n 0, 1) := by decide +kernel
theorem dL_law_835 : decode cL_law 835 = .ok (.iload 5, 2) := by decide +kernel
theorem dL_law_837 : decode cL_law 837 = .ok (.iconst 1, 1) := by decide +kernel
theorem dL_law_838 : decode cL_law 838 = .ok (.iadd, 1) := by decide +kernel
theorem dL_law_839 : decode cL_law 839 = .ok (.iaload, 1) := by decide +kernel
theorem dL_law_840 : decode cL_law 840 = .ok (.invokevirtual 147, 3) := by decide +kernel
theorem dL_law_843 : decode cL_law 843 = .ok (.lstore 7, 2) := by decide +kernel
theorem dL_law_845 : decode cL_law 845 = .ok (.aload_n 2, 1) := by decide +kernel
theorem dL_law_846 : decode cL_law 846 = .ok (.invokevirtual 107, 3) := by decide +kernel
theorem dL_law_849 : decode cL_law 849 = .ok (.iload 6, 2) := by decide +kernel
theorem dL_law_851 : decode cL_law 851 = .ok (.if_icmp .eq 5, 3) := by decide +kernel
theorem dL_law_854 : decode cL_law 854 = .ok (.iconst 0, 1) := by decide +kernel
theorem dL_law_855 : decode cL_law 855 = .ok (.ireturn, 1) := by decide +kernel
theorem dL_law_856 : decode cL_law 856 = .ok (.iload 6, 2) := by decide +kernel
theorem dL_law_858 : decode cL_law 858 = .ok (.ifCond .ne 14, 3) := by decide +kernel
theorem dL_law_861 : decode cL_law 861 = .ok (.aload_n 3, 1) := by decide +kernel
theorem dL_law_862 : decode cL_law 862 = .ok (.iconst 0, 1) := by decide +kernel
theorem dL_law_863 : decode cL_law 863 = .ok (.laload, 1) := by decide +kernel
theorem dL_law_864 : decode cL_law 864 = .ok (.lload 7, 2) := by decide +kernel
theorem dL_law_866 : decode cL_law 866 = .ok (.lcmp, 1) := by decide +kernel
theorem dL_law_867 : decode cL_law 867 = .ok (.ifCond .eq 5, 3) := by decide +kernel
theorem dL_law_870 : decode cL_law 870 = .ok (.iconst 0, 1) := by decide +kernel
theorem dL_law_871 : decode cL_law 871 = .ok (.ireturn, 1) := by decide +kernel
theorem dL_law_872 : decode cL_law 872 = .ok (.goto 759, 3) := by decide +kernel
theorem dL_law_875 : decode cL_law 875 = .ok (.aload_n 1, 1) := by decide +kernel
theorem dL_law_876 : decode cL_law 876 = .ok (.aload_n 0, 1) := by decide +kernel
theorem dL_law_877 : decode cL_law 877 = .ok (.iload 5, 2) := by decide +kernel
theorem dL_law_879 : decode cL_law 879 = .ok (.iconst 1, 1) := by decide +kernel
theorem dL_law_880 : decode cL_law 880 = .ok (.iadd, 1) := by decide +kernel
theorem dL_law_881 : decode cL_law 881 = .ok (.iaload, 1) := by decide +kernel
theorem dL_law_882 : decode cL_law 882 = .ok (.aload_n 3, 1) := by decide +kernel
theorem dL_law_883 : decode cL_law 883 = .ok (.invokestatic 148, 3) := by decide +kernel
theorem dL_law_886 : decode cL_law 886 = .ok (.istore 6, 2) := by decide +kernel
theorem dL_law_888 : decode cL_law 888 = .ok (.aload_n 2, 1) := by decide +kernel
theorem dL_law_889 : decode cL_law 889 = .ok (.aload_n 0, 1) := by decide +kernel
theorem dL_law_890 : decode cL_law 890 = .ok (.iload 5, 2) := by decide +kernel
theorem dL_law_892 : decode cL_law 892 = .ok (.iconst 1, 1) := by decide +kernel
theorem dL_law_893 : decode cL_law 893 = .ok (.iadd, 1) := by decide +kernel
theorem dL_law_894 : decode cL_law 894 = .ok (.iaload, 1) := by decide +kernel
theorem dL_law_895 : decode cL_law 895 = .ok (.invokevirtual 150, 3) := by decide +kernel
theorem dL_law_898 : decode cL_law 898 = .ok (.lstore 7, 2) := by decide +kernel
theorem dL_law_900 : decode cL_law 900 = .ok (.aload_n 2, 1) := by decide +kernel
theorem dL_law_901 : decode cL_law 901 = .ok (.invokevirtual 107, 3) := by decide +kernel
theorem dL_law_904 : decode cL_law 904 = .ok (.iload 6, 2) := by decide +kernel
theorem dL_law_906 : decode cL_law 906 = .ok (.if_icmp .eq 5, 3) := by decide +kernel
theorem dL_law_909 : decode cL_law 909 = .ok (.iconst 0, 1) := by decide +kernel
theorem dL_law_910 : decode cL_law 910 = .ok (.ireturn, 1) := by decide +kernel
theorem dL_law_911 : decode cL_law 911 = .ok (.iload 6, 2) := by decide +kernel
theorem dL_law_913 : decode cL_law 913 = .ok (.ifCond .ne 14, 3) := by decide +kernel
theorem dL_law_916 : decode cL_law 916 = .ok (.aload_n 3, 1) := by decide +kernel
theorem dL_law_917 : decode cL_law 917 = .ok (.iconst 0, 1) := by decide +kernel
theorem dL_law_918 : decode cL_law 918 = .ok (.laload, 1) := by decide +kernel
theorem dL_law_919 : decode cL_law 919 = .ok (.lload 7, 2) := by decide +kernel
theorem dL_law_921 : decode cL_law 921 = .ok (.lcmp, 1) := by decide +kernel
theorem dL_law_922 : decode cL_law 922 = .ok (.ifCond .eq 5, 3) := by decide +kernel
theorem dL_law_925 : decode cL_law 925 = .ok (.iconst 0, 1) := by decide +kernel
theorem dL_law_926 : decode cL_law 926 = .ok (.ireturn, 1) := by decide +kernel
theorem dL_law_927 : decode cL_law 927 = .ok (.goto 704, 3) := by decide +kernel
theorem dL_law_930 : decode cL_law 930 = .ok (.aload_n 1, 1) := by decide +kernel
theorem dL_law_931 : decode cL_law 931 = .ok (.aload_n 0, 1) := by decide +kernel
theorem dL_law_932 : decode cL_law 932 = .ok (.iload 5, 2) := by decide +kernel
theorem dL_law_934 : decode cL_law 934 = .ok (.iconst 1, 1) := by decide +kernel
theorem dL_law_935 : decode cL_law 935 = .ok (.iadd, 1) := by decide +kernel
theorem dL_law_936 : decode cL_law 936 = .ok (.iaload, 1) := by decide +kernel
theorem dL_law_937 : decode cL_law 937 = .ok (.aload_n 0, 1) := by decide +kernel
theorem dL_law_938 : decode cL_law 938 = .ok (.iload 5, 2) := by decide +kernel
theorem dL_law_940 : decode cL_law 940 = .ok (.iconst 2, 1) := by decide +kernel
theorem dL_law_941 : decode cL_law 941 = .ok (.iadd, 1) := by decide +kernel
theorem dL_law_942 : decode cL_law 942 = .ok (.iaload, 1) := by decide +kernel
theorem dL_law_943 : decode cL_law 943 = .ok (.aload_n 3, 1) := by decide +kernel
theorem dL_law_944 : decode cL_law 944 = .ok (.invokestatic 151, 3) := by decide +kernel
theorem dL_law_947 : decode cL_law 947 = .ok (.istore 6, 2) := by decide +kernel
theorem dL_law_949 : decode cL_law 949 = .ok (.aload_n 2, 1) := by decide +kernel
theorem dL_law_950 : decode cL_law 950 = .ok (.aload_n 0, 1) := by decide +kernel
theorem dL_law_951 : decode cL_law 951 = .ok (.iload 5, 2) := by decide +kernel
theorem dL_law_953 : decode cL_law 953 = .ok (.iconst 1, 1) := by decide +kernel
theorem dL_law_954 : decode cL_law 954 = .ok (.iadd, 1) := by decide +kernel
theorem dL_law_955 : decode cL_law 955 = .ok (.iaload, 1) := by decide +kernel
theorem dL_law_956 : decode cL_law 956 = .ok (.aload_n 0, 1) := by decide +kernel
theorem dL_law_957 : decode cL_law 957 = .ok (.iload 5, 2) := by decide +kernel
theorem dL_law_959 : decode cL_law 959 = .ok (.iconst 2, 1) := by decide +kernel
theorem dL_law_960 : decode cL_law 960 = .ok (.iadd, 1) := by decide +kernel
theorem dL_law_961 : decode cL_law 961 = .ok (.iaload, 1) := by decide +kernel
theorem dL_law_962 : decode cL_law 962 = .ok (.invokevirtual 153, 3) := by decide +kernel
theorem dL_law_965 : decode cL_law 965 = .ok (.istore 7, 2) := by decide +kernel
theorem dL_law_967 : decode cL_law 967 = .ok (.aload_n 2, 1) := by decide +kernel
theorem dL_law_968 : decode cL_law 968 = .ok (.invokevirtual 107, 3) := by decide +kernel
theorem dL_law_971 : decode cL_law 971 = .ok (.iload 6, 2) := by decide +kernel
theorem dL_law_973 : decode cL_law 973 = .ok (.if_icmp .eq 5, 3) := by decide +kernel
theorem dL_law_976 : decode cL_law 976 = .ok (.iconst 0, 1) := by decide +kernel
theorem dL_law_977 : decode cL_law 977 = .ok (.ireturn, 1) := by decide +kernel
theorem dL_law_978 : decode cL_law 978 = .ok (.iload 6, 2) := by decide +kernel
theorem dL_law_980 : decode cL_law 980 = .ok (.ifCond .ne 15, 3) := by decide +kernel
theorem dL_law_983 : decode cL_law 983 = .ok (.aload_n 3, 1) := by decide +kernel
theorem dL_law_984 : decode cL_law 984 = .ok (.iconst 0, 1) := by decide +kernel
theorem dL_law_985 : decode cL_law 985 = .ok (.laload, 1) := by decide +kernel
theorem dL_law_986 : decode cL_law 986 = .ok (.iload 7, 2) := by decide +kernel
theorem dL_law_988 : decode cL_law 988 = .ok (.i2l, 1) := by decide +kernel
theorem dL_law_989 : decode cL_law 989 = .ok (.lcmp, 1) := by decide +kernel
theorem dL_law_990 : decode cL_law 990 = .ok (.ifCond .eq 5, 3) := by decide +kernel
theorem dL_law_993 : decode cL_law 993 = .ok (.iconst 0, 1) := by decide +kernel
theorem dL_law_994 : decode cL_law 994 = .ok (.ireturn, 1) := by decide +kernel
theorem dL_law_995 : decode cL_law 995 = .ok (.goto 636, 3) := by decide +kernel
theorem dL_law_998 : decode cL_law 998 = .ok (.aload_n 1, 1) := by decide +kernel
theorem dL_law_999 : decode cL_law 999 = .ok (.aload_n 0, 1) := by decide +kernel
theorem dL_law_1000 : decode cL_law 1000 = .ok (.iload 5, 2) := by decide +kernel
theorem dL_law_1002 : decode cL_law 1002 = .ok (.iconst 1, 1) := by decide +kernel
theorem dL_law_1003 : decode cL_law 1003 = .ok (.iadd, 1) := by decide +kernel
theorem dL_law_1004 : decode cL_law 1004 = .ok (.iaload, 1) := by decide +kernel
theorem dL_law_1005 : decode cL_law 1005 = .ok (.aload 4, 2) := by decide +kernel
theorem dL_law_1007 : decode cL_law 1007 = .ok (.invokestatic 154, 3) := by decide +kernel
theorem dL_law_1010 : decode cL_law 1010 = .ok (.istore 6, 2) := by decide +kernel
theorem dL_law_1012 : decode cL_law 1012 = .ok (.aload_n 2, 1) := by decide +kernel
theorem dL_law_1013 : decode cL_law 1013 = .ok (.aload_n 0, 1) := by decide +kernel
theorem dL_law_1014 : decode cL_law 1014 = .ok (.iload 5, 2) := by decide +kernel
theorem dL_law_1016 : decode cL_law 1016 = .ok (.iconst 1, 1) := by decide +kernel
theorem dL_law_1017 : decode cL_law 1017 = .ok (.iadd, 1) := by decide +kernel
theorem dL_law_1018 : decode cL_law 1018 = .ok (.iaload, 1) := by decide +kernel
theorem dL_law_1019 : decode cL_law 1019 = .ok (.invokevirtual 157, 3) := by decide +kernel
theorem dL_law_1022 : decode cL_law 1022 = .ok (.dstore 7, 2) := by decide +kernel
theorem dL_law_1024 : decode cL_law 1024 = .ok (.aload_n 2, 1) := by decide +kernel
theorem dL_law_1025 : decode cL_law 1025 = .ok (.invokevirtual 107, 3) := by decide +kernel
theorem dL_law_1028 : decode cL_law 1028 = .ok (.iload 6, 2) := by decide +kernel
theorem dL_law_1030 : decode cL_law 1030 = .ok (.if_icmp .eq 5, 3) := by decide +kernel
theorem dL_law_1033 : decode cL_law 1033 = .ok (.iconst 0, 1) := by decide +kernel
theorem dL_law_1034 : decode cL_law 1034 = .ok (.ireturn, 1) := by decide +kernel
theorem dL_law_1035 : decode cL_law 1035 = .ok (.iload 6, 2) := by decide +kernel
theorem dL_law_1037 : decode cL_law 1037 = .ok (.ifCond .ne 35, 3) := by decide +kernel
theorem dL_law_1040 : decode cL_law 1040 = .ok (.aload 4, 2) := by decide +kernel
theorem dL_law_1042 : decode cL_law 1042 = .ok (.iconst 0, 1) := by decide +kernel
theorem dL_law_1043 : decode cL_law 1043 = .ok (.daload, 1) := by decide +kernel
theorem dL_law_1044 : decode cL_law 1044 = .ok (.dload 7, 2) := by decide +kernel
theorem dL_law_1046 : decode cL_law 1046 = .ok (.dcmp .l, 1) := by decide +kernel
theorem dL_law_1047 : decode cL_law 1047 = .ok (.ifCond .eq 25, 3) := by decide +kernel
theorem dL_law_1050 : decode cL_law 1050 = .ok (.aload 4, 2) := by decide +kernel
theorem dL_law_1052 : decode cL_law 1052 = .ok (.iconst 0, 1) := by decide +kernel
theorem dL_law_1053 : decode cL_law 1053 = .ok (.daload, 1) := by decide +kernel
theorem dL_law_1054 : decode cL_law 1054 = .ok (.aload 4, 2) := by decide +kernel
theorem dL_law_1056 : decode cL_law 1056 = .ok (.iconst 0, 1) := by decide +kernel
theorem dL_law_1057 : decode cL_law 1057 = .ok (.daload, 1) := by decide +kernel
theorem dL_law_1058 : decode cL_law 1058 = .ok (.dcmp .l, 1) := by decide +kernel
theorem dL_law_1059 : decode cL_law 1059 = .ok (.ifCond .eq 11, 3) := by decide +kernel
theorem dL_law_1062 : decode cL_law 1062 = .ok (.dload 7, 2) := by decide +kernel
theorem dL_law_1064 : decode cL_law 1064 = .ok (.dload 7, 2) := by decide +kernel
theorem dL_law_1066 : decode cL_law 1066 = .ok (.dcmp .l, 1) := by decide +kernel
theorem dL_law_1067 : decode cL_law 1067 = .ok (.ifCond .ne 5, 3) := by decide +kernel
theorem dL_law_1070 : decode cL_law 1070 = .ok (.iconst 0, 1) := by decide +kernel
theorem dL_law_1071 : decode cL_law 1071 = .ok (.ireturn, 1) := by decide +kernel
theorem dL_law_1072 : decode cL_law 1072 = .ok (.goto 559, 3) := by decide +kernel
theorem dL_law_1075 : decode cL_law 1075 = .ok (.aload_n 1, 1) := by decide +kernel
theorem dL_law_1076 : decode cL_law 1076 = .ok (.aload_n 0, 1) := by decide +kernel
theorem dL_law_1077 : decode cL_law 1077 = .ok (.iload 5, 2) := by decide +kernel
theorem dL_law_1079 : decode cL_law 1079 = .ok (.iconst 1, 1) := by decide +kernel
theorem dL_law_1080 : decode cL_law 1080 = .ok (.iadd, 1) := by decide +kernel
theorem dL_law_1081 : decode cL_law 1081 = .ok (.iaload, 1) := by decide +kernel
theorem dL_law_1082 : decode cL_law 1082 = .ok (.aload_n 0, 1) := by decide +kernel
theorem dL_law_1083 : decode cL_law 1083 = .ok (.iload 5, 2) := by decide +kernel
theorem dL_law_1085 : decode cL_law 1085 = .ok (.iconst 2, 1) := by decide +kernel
theorem dL_law_1086 : decode cL_law 1086 = .ok (.iadd, 1) := by decide +kernel
theorem dL_law_1087 : decode cL_law 1087 = .ok (.iaload, 1) := by decide +kernel
theorem dL_law_1088 : decode cL_law 1088 = .ok (.aload_n 3, 1) := by decide +kernel
theorem dL_law_1089 : decode cL_law 1089 = .ok (.invokestatic 158, 3) := by decide +kernel
theorem dL_law_1092 : decode cL_law 1092 = .ok (.istore 6, 2) := by decide +kernel
theorem dL_law_1094 : decode cL_law 1094 = .ok (.aload_n 2, 1) := by decide +kernel
theorem dL_law_1095 : decode cL_law 1095 = .ok (.aload_n 0, 1) := by decide +kernel
theorem dL_law_1096 : decode cL_law 1096 = .ok (.iload 5, 2) := by decide +kernel
theorem dL_law_1098 : decode cL_law 1098 = .ok (.iconst 1, 1) := by decide +kernel
theorem dL_law_1099 : decode cL_law 1099 = .ok (.iadd, 1) := by decide +kernel
theorem dL_law_1100 : decode cL_law 1100 = .ok (.iaload, 1) := by decide +kernel
theorem dL_law_1101 : decode cL_law 1101 = .ok (.aload_n 0, 1) := by decide +kernel
theorem dL_law_1102 : decode cL_law 1102 = .ok (.iload 5, 2) := by decide +kernel
theorem dL_law_1104 : decode cL_law 1104 = .ok (.iconst 2, 1) := by decide +kernel
theorem dL_law_1105 : decode cL_law 1105 = .ok (.iadd, 1) := by decide +kernel
theorem dL_law_1106 : decode cL_law 1106 = .ok (.iaload, 1) := by decide +kernel
theorem dL_law_1107 : decode cL_law 1107 = .ok (.invokevirtual 160, 3) := by decide +kernel
theorem dL_law_1110 : decode cL_law 1110 = .ok (.istore 7, 2) := by decide +kernel
theorem dL_law_1112 : decode cL_law 1112 = .ok (.aload_n 2, 1) := by decide +kernel
theorem dL_law_1113 : decode cL_law 1113 = .ok (.invokevirtual 107, 3) := by decide +kernel
theorem dL_law_1116 : decode cL_law 1116 = .ok (.iload 6, 2) := by decide +kernel
theorem dL_law_1118 : decode cL_law 1118 = .ok (.if_icmp .eq 5, 3) := by decide +kernel
theorem dL_law_1121 : decode cL_law 1121 = .ok (.iconst 0, 1) := by decide +kernel
theorem dL_law_1122 : decode cL_law 1122 = .ok (.ireturn, 1) := by decide +kernel
theorem dL_law_1123 : decode cL_law 1123 = .ok (.iload 6, 2) := by decide +kernel
theorem dL_law_1125 : decode cL_law 1125 = .ok (.ifCond .ne 15, 3) := by decide +kernel
theorem dL_law_1128 : decode cL_law 1128 = .ok (.aload_n 3, 1) := by decide +kernel
theorem dL_law_1129 : decode cL_law 1129 = .ok (.iconst 0, 1) := by decide +kernel
theorem dL_law_1130 : decode cL_law 1130 = .ok (.laload, 1) := by decide +kernel
theorem dL_law_1131 : decode cL_law 1131 = .ok (.iload 7, 2) := by decide +kernel
theorem dL_law_1133 : decode cL_law 1133 = .ok (.i2l, 1) := by decide +kernel
theorem dL_law_1134 : decode cL_law 1134 = .ok (.lcmp, 1) := by decide +kernel
theorem dL_law_1135 : decode cL_law 1135 = .ok (.ifCond .eq 5, 3) := by decide +kernel
theorem dL_law_1138 : decode cL_law 1138 = .ok (.iconst 0, 1) := by decide +kernel
theorem dL_law_1139 : decode cL_law 1139 = .ok (.ireturn, 1) := by decide +kernel
theorem dL_law_1140 : decode cL_law 1140 = .ok (.goto 491, 3) := by decide +kernel
theorem dL_law_1143 : decode cL_law 1143 = .ok (.aload_n 1, 1) := by decide +kernel
theorem dL_law_1144 : decode cL_law 1144 = .ok (.aload_n 3, 1) := by decide +kernel
theorem dL_law_1145 : decode cL_law 1145 = .ok (.invokestatic 161, 3) := by decide +kernel
theorem dL_law_1148 : decode cL_law 1148 = .ok (.istore 6, 2) := by decide +kernel
theorem dL_law_1150 : decode cL_law 1150 = .ok (.aload_n 2, 1) := by decide +kernel
theorem dL_law_1151 : decode cL_law 1151 = .ok (.invokevirtual 163, 3) := by decide +kernel
theorem dL_law_1154 : decode cL_law 1154 = .ok (.istore 7, 2) := by decide +kernel
theorem dL_law_1156 : decode cL_law 1156 = .ok (.aload_n 2, 1) := by decide +kernel
theorem dL_law_1157 : decode cL_law 1157 = .ok (.invokevirtual 107, 3) := by decide +kernel
theorem dL_law_1160 : decode cL_law 1160 = .ok (.iload 6, 2) := by decide +kernel
theorem dL_law_1162 : decode cL_law 1162 = .ok (.if_icmp .eq 5, 3) := by decide +kernel
theorem dL_law_1165 : decode cL_law 1165 = .ok (.iconst 0, 1) := by decide +kernel
theorem dL_law_1166 : decode cL_law 1166 = .ok (.ireturn, 1) := by decide +kernel
theorem dL_law_1167 : decode cL_law 1167 = .ok (.iload 6, 2) := by decide +kernel
theorem dL_law_1169 : decode cL_law 1169 = .ok (.ifCond .ne 15, 3) := by decide +kernel
theorem dL_law_1172 : decode cL_law 1172 = .ok (.aload_n 3, 1) := by decide +kernel
theorem dL_law_1173 : decode cL_law 1173 = .ok (.iconst 0, 1) := by decide +kernel
theorem dL_law_1174 : decode cL_law 1174 = .ok (.laload, 1) := by decide +kernel
theorem dL_law_1175 : decode cL_law 1175 = .ok (.iload 7, 2) := by decide +kernel
theorem dL_law_1177 : decode cL_law 1177 = .ok (.i2l, 1) := by decide +kernel
theorem dL_law_1178 : decode cL_law 1178 = .ok (.lcmp, 1) := by decide +kernel
theorem dL_law_1179 : decode cL_law 1179 = .ok (.ifCond .eq 5, 3) := by decide +kernel
theorem dL_law_1182 : decode cL_law 1182 = .ok (.iconst 0, 1) := by decide +kernel
theorem dL_law_1183 : decode cL_law 1183 = .ok (.ireturn, 1) := by decide +kernel
theorem dL_law_1184 : decode cL_law 1184 = .ok (.goto 447, 3) := by decide +kernel
theorem dL_law_1187 : decode cL_law 1187 = .ok (.aload_n 1, 1) := by decide +kernel
theorem dL_law_1188 : decode cL_law 1188 = .ok (.aload_n 0, 1) := by decide +kernel
theorem dL_law_1189 : decode cL_law 1189 = .ok (.iload 5, 2) := by decide +kernel
theorem dL_law_1191 : decode cL_law 1191 = .ok (.iconst 1, 1) := by decide +kernel
theorem dL_law_1192 : decode cL_law 1192 = .ok (.iadd, 1) := by decide +kernel
theorem dL_law_1193 : decode cL_law 1193 = .ok (.iaload, 1) := by decide +kernel
theorem dL_law_1194 : decode cL_law 1194 = .ok (.aload_n 0, 1) := by decide +kernel
theorem dL_law_1195 : decode cL_law 1195 = .ok (.iload 5, 2) := by decide +kernel
theorem dL_law_1197 : decode cL_law 1197 = .ok (.iconst 2, 1) := by decide +kernel
theorem dL_law_1198 : decode cL_law 1198 = .ok (.iadd, 1) := by decide +kernel
theorem dL_law_1199 : decode cL_law 1199 = .ok (.iaload, 1) := by decide +kernel
theorem dL_law_1200 : decode cL_law 1200 = .ok (.aload_n 0, 1) := by decide +kernel
theorem dL_law_1201 : decode cL_law 1201 = .ok (.iload 5, 2) := by decide +kernel
theorem dL_law_1203 : decode cL_law 1203 = .ok (.iconst 3, 1) := by decide +kernel
theorem dL_law_1204 : decode cL_law 1204 = .ok (.iadd, 1) := by decide +kernel
theorem dL_law_1205 : decode cL_law 1205 = .ok (.iaload, 1) := by decide +kernel
theorem dL_law_1206 : decode cL_law 1206 = .ok (.aload_n 3, 1) := by decide +kernel
theorem dL_law_1207 : decode cL_law 1207 = .ok (.invokestatic 164, 3) := by decide +kernel
theorem dL_law_1210 : decode cL_law 1210 = .ok (.istore 6, 2) := by decide +kernel
theorem dL_law_1212 : decode cL_law 1212 = .ok (.aload_n 2, 1) := by decide +kernel
theorem dL_law_1213 : decode cL_law 1213 = .ok (.aload_n 0, 1) := by decide +kernel
theorem dL_law_1214 : decode cL_law 1214 = .ok (.iload 5, 2) := by decide +kernel
theorem dL_law_1216 : decode cL_law 1216 = .ok (.iconst 1, 1) := by decide +kernel
theorem dL_law_1217 : decode cL_law 1217 = .ok (.iadd, 1) := by decide +kernel
theorem dL_law_1218 : decode cL_law 1218 = .ok (.iaload, 1) := by decide +kernel
theorem dL_law_1219 : decode cL_law 1219 = .ok (.aload_n 0, 1) := by decide +kernel
theorem dL_law_1220 : decode cL_law 1220 = .ok (.iload 5, 2) := by decide +kernel
theorem dL_law_1222 : decode cL_law 1222 = .ok (.iconst 2, 1) := by decide +kernel
theorem dL_law_1223 : decode cL_law 1223 = .ok (.iadd, 1) := by decide +kernel
theorem dL_law_1224 : decode cL_law 1224 = .ok (.iaload, 1) := by decide +kernel
theorem dL_law_1225 : decode cL_law 1225 = .ok (.aload_n 0, 1) := by decide +kernel
theorem dL_law_1226 : decode cL_law 1226 = .ok (.iload 5, 2) := by decide +kernel
theorem dL_law_1228 : decode cL_law 1228 = .ok (.iconst 3, 1) := by decide +kernel
theorem dL_law_1229 : decode cL_law 1229 = .ok (.iadd, 1) := by decide +kernel
theorem dL_law_1230 : decode cL_law 1230 = .ok (.iaload, 1) := by decide +kernel
theorem dL_law_1231 : decode cL_law 1231 = .ok (.invokevirtual 166, 3) := by decide +kernel
theorem dL_law_1234 : decode cL_law 1234 = .ok (.istore 7, 2) := by decide +kernel
theorem dL_law_1236 : decode cL_law 1236 = .ok (.aload_n 2, 1) := by decide +kernel
theorem dL_law_1237 : decode cL_law 1237 = .ok (.invokevirtual 107, 3) := by decide +kernel
theorem dL_law_1240 : decode cL_law 1240 = .ok (.iload 6, 2) := by decide +kernel
theorem dL_law_1242 : decode cL_law 1242 = .ok (.if_icmp .eq 5, 3) := by decide +kernel
theorem dL_law_1245 : decode cL_law 1245 = .ok (.iconst 0, 1) := by decide +kernel
theorem dL_law_1246 : decode cL_law 1246 = .ok (.ireturn, 1) := by decide +kernel
theorem dL_law_1247 : decode cL_law 1247 = .ok (.iload 6, 2) := by decide +kernel
theorem dL_law_1249 : decode cL_law 1249 = .ok (.ifCond .ne 15, 3) := by decide +kernel
theorem dL_law_1252 : decode cL_law 1252 = .ok (.aload_n 3, 1) := by decide +kernel
theorem dL_law_1253 : decode cL_law 1253 = .ok (.iconst 0, 1) := by decide +kernel
theorem dL_law_1254 : decode cL_law 1254 = .ok (.laload, 1) := by decide +kernel
theorem dL_law_1255 : decode cL_law 1255 = .ok (.iload 7, 2) := by decide +kernel
theorem dL_law_1257 : decode cL_law 1257 = .ok (.i2l, 1) := by decide +kernel
theorem dL_law_1258 : decode cL_law 1258 = .ok (.lcmp, 1) := by decide +kernel
theorem dL_law_1259 : decode cL_law 1259 = .ok (.ifCond .eq 5, 3) := by decide +kernel
theorem dL_law_1262 : decode cL_law 1262 = .ok (.iconst 0, 1) := by decide +kernel
theorem dL_law_1263 : decode cL_law 1263 = .ok (.ireturn, 1) := by decide +kernel
theorem dL_law_1264 : decode cL_law 1264 = .ok (.goto 367, 3) := by decide +kernel
theorem dL_law_1267 : decode cL_law 1267 = .ok (.aload_n 1, 1) := by decide +kernel
theorem dL_law_1268 : decode cL_law 1268 = .ok (.aload_n 0, 1) := by decide +kernel
theorem dL_law_1269 : decode cL_law 1269 = .ok (.iload 5, 2) := by decide +kernel
theorem dL_law_1271 : decode cL_law 1271 = .ok (.iconst 1, 1) := by decide +kernel
theorem dL_law_1272 : decode cL_law 1272 = .ok (.iadd, 1) := by decide +kernel
theorem dL_law_1273 : decode cL_law 1273 = .ok (.iaload, 1) := by decide +kernel
theorem dL_law_1274 : decode cL_law 1274 = .ok (.aload_n 0, 1) := by decide +kernel
theorem dL_law_1275 : decode cL_law 1275 = .ok (.iload 5, 2) := by decide +kernel
theorem dL_law_1277 : decode cL_law 1277 = .ok (.iconst 2, 1) := by decide +kernel
theorem dL_law_1278 : decode cL_law 1278 = .ok (.iadd, 1) := by decide +kernel
theorem dL_law_1279 : decode cL_law 1279 = .ok (.iaload, 1) := by decide +kernel
theorem dL_law_1280 : decode cL_law 1280 = .ok (.aload_n 3, 1) := by decide +kernel
theorem dL_law_1281 : decode cL_law 1281 = .ok (.invokestatic 167, 3) := by decide +kernel
theorem dL_law_1284 : decode cL_law 1284 = .ok (.istore 6, 2) := by decide +kernel
theorem dL_law_1286 : decode cL_law 1286 = .ok (.aload_n 2, 1) := by decide +kernel
theorem dL_law_1287 : decode cL_law 1287 = .ok (.aload_n 0, 1) := by decide +kernel
theorem dL_law_1288 : decode cL_law 1288 = .ok (.iload 5, 2) := by decide +kernel
theorem dL_law_1290 : decode cL_law 1290 = .ok (.iconst 1, 1) := by decide +kernel
theorem dL_law_1291 : decode cL_law 1291 = .ok (.iadd, 1) := by decide +kernel
theorem dL_law_1292 : decode cL_law 1292 = .ok (.iaload, 1) := by decide +kernel
theorem dL_law_1293 : decode cL_law 1293 = .ok (.aload_n 0, 1) := by decide +kernel
theorem dL_law_1294 : decode cL_law 1294 = .ok (.iload 5, 2) := by decide +kernel
theorem dL_law_1296 : decode cL_law 1296 = .ok (.iconst 2, 1) := by decide +kernel
theorem dL_law_1297 : decode cL_law 1297 = .ok (.iadd, 1) := by decide +kernel
theorem dL_law_1298 : decode cL_law 1298 = .ok (.iaload, 1) := by decide +kernel
theorem dL_law_1299 : decode cL_law 1299 = .ok (.invokevirtual 169, 3) := by decide +kernel
theorem dL_law_1302 : decode cL_law 1302 = .ok (.istore 7, 2) := by decide +kernel
theorem dL_law_1304 : decode cL_law 1304 = .ok (.aload_n 2, 1) := by decide +kernel
theorem dL_law_1305 : decode cL_law 1305 = .ok (.invokevirtual 107, 3) := by decide +kernel
theorem dL_law_1308 : decode cL_law 1308 = .ok (.iload 6, 2) := by decide +kernel
theorem dL_law_1310 : decode cL_law 1310 = .ok (.if_icmp .eq 5, 3) := by decide +kernel
theorem dL_law_1313 : decode cL_law 1313 = .ok (.iconst 0, 1) := by decide +kernel
theorem dL_law_1314 : decode cL_law 1314 = .ok (.ireturn, 1) := by decide +kernel
theorem dL_law_1315 : decode cL_law 1315 = .ok (.iload 6, 2) := by decide +kernel
theorem dL_law_1317 : decode cL_law 1317 = .ok (.ifCond .ne 15, 3) := by decide +kernel
theorem dL_law_1320 : decode cL_law 1320 = .ok (.aload_n 3, 1) := by decide +kernel
theorem dL_law_1321 : decode cL_law 1321 = .ok (.iconst 0, 1) := by decide +kernel
theorem dL_law_1322 : decode cL_law 1322 = .ok (.laload, 1) := by decide +kernel
theorem dL_law_1323 : decode cL_law 1323 = .ok (.iload 7, 2) := by decide +kernel
theorem dL_law_1325 : decode cL_law 1325 = .ok (.i2l, 1) := by decide +kernel
theorem dL_law_1326 : decode cL_law 1326 = .ok (.lcmp, 1) := by decide +kernel
theorem dL_law_1327 : decode cL_law 1327 = .ok (.ifCond .eq 5, 3) := by decide +kernel
theorem dL_law_1330 : decode cL_law 1330 = .ok (.iconst 0, 1) := by decide +kernel
theorem dL_law_1331 : decode cL_law 1331 = .ok (.ireturn, 1) := by decide +kernel
theorem dL_law_1332 : decode cL_law 1332 = .ok (.goto 299, 3) := by decide +kernel
theorem dL_law_1335 : decode cL_law 1335 = .ok (.aload_n 1, 1) := by decide +kernel
theorem dL_law_1336 : decode cL_law 1336 = .ok (.invokevirtual 170, 3) := by decide +kernel
theorem dL_law_1339 : decode cL_law 1339 = .ok (.aload_n 2, 1) := by decide +kernel
theorem dL_law_1340 : decode cL_law 1340 = .ok (.invokevirtual 173, 3) := by decide +kernel
theorem dL_law_1343 : decode cL_law 1343 = .ok (.if_icmp .eq 288, 3) := by decide +kernel
theorem dL_law_1346 : decode cL_law 1346 = .ok (.iconst 0, 1) := by decide +kernel
theorem dL_law_1347 : decode cL_law 1347 = .ok (.ireturn, 1) := by decide +kernel
theorem dL_law_1348 : decode cL_law 1348 = .ok (.aload_n 1, 1) := by decide +kernel
theorem dL_law_1349 : decode cL_law 1349 = .ok (.aload_n 0, 1) := by decide +kernel
theorem dL_law_1350 : decode cL_law 1350 = .ok (.iload 5, 2) := by decide +kernel
theorem dL_law_1352 : decode cL_law 1352 = .ok (.iconst 1, 1) := by decide +kernel
theorem dL_law_1353 : decode cL_law 1353 = .ok (.iadd, 1) := by decide +kernel
theorem dL_law_1354 : decode cL_law 1354 = .ok (.iaload, 1) := by decide +kernel
theorem dL_law_1355 : decode cL_law 1355 = .ok (.aload_n 0, 1) := by decide +kernel
theorem dL_law_1356 : decode cL_law 1356 = .ok (.iload 5, 2) := by decide +kernel
theorem dL_law_1358 : decode cL_law 1358 = .ok (.iconst 2, 1) := by decide +kernel
theorem dL_law_1359 : decode cL_law 1359 = .ok (.iadd, 1) := by decide +kernel
theorem dL_law_1360 : decode cL_law 1360 = .ok (.iaload, 1) := by decide +kernel
theorem dL_law_1361 : decode cL_law 1361 = .ok (.aload_n 3, 1) := by decide +kernel
theorem dL_law_1362 : decode cL_law 1362 = .ok (.invokestatic 174, 3) := by decide +kernel
theorem dL_law_1365 : decode cL_law 1365 = .ok (.istore 6, 2) := by decide +kernel
theorem dL_law_1367 : decode cL_law 1367 = .ok (.aload_n 2, 1) := by decide +kernel
theorem dL_law_1368 : decode cL_law 1368 = .ok (.aload_n 0, 1) := by decide +kernel
theorem dL_law_1369 : decode cL_law 1369 = .ok (.iload 5, 2) := by decide +kernel
theorem dL_law_1371 : decode cL_law 1371 = .ok (.iconst 1, 1) := by decide +kernel
theorem dL_law_1372 : decode cL_law 1372 = .ok (.iadd, 1) := by decide +kernel
theorem dL_law_1373 : decode cL_law 1373 = .ok (.iaload, 1) := by decide +kernel
theorem dL_law_1374 : decode cL_law 1374 = .ok (.aload_n 0, 1) := by decide +kernel
theorem dL_law_1375 : decode cL_law 1375 = .ok (.iload 5, 2) := by decide +kernel
theorem dL_law_1377 : decode cL_law 1377 = .ok (.iconst 2, 1) := by decide +kernel
theorem dL_law_1378 : decode cL_law 1378 = .ok (.iadd, 1) := by decide +kernel
theorem dL_law_1379 : decode cL_law 1379 = .ok (.iaload, 1) := by decide +kernel
theorem dL_law_1380 : decode cL_law 1380 = .ok (.invokevirtual 176, 3) := by decide +kernel
theorem dL_law_1383 : decode cL_law 1383 = .ok (.istore 7, 2) := by decide +kernel
theorem dL_law_1385 : decode cL_law 1385 = .ok (.aload_n 2, 1) := by decide +kernel
theorem dL_law_1386 : decode cL_law 1386 = .ok (.invokevirtual 107, 3) := by decide +kernel
theorem dL_law_1389 : decode cL_law 1389 = .ok (.iload 6, 2) := by decide +kernel
theorem dL_law_1391 : decode cL_law 1391 = .ok (.if_icmp .eq 5, 3) := by decide +kernel
theorem dL_law_1394 : decode cL_law 1394 = .ok (.iconst 0, 1) := by decide +kernel
theorem dL_law_1395 : decode cL_law 1395 = .ok (.ireturn, 1) := by decide +kernel
theorem dL_law_1396 : decode cL_law 1396 = .ok (.iload 6, 2) := by decide +kernel
theorem dL_law_1398 : decode cL_law 1398 = .ok (.ifCond .ne 15, 3) := by decide +kernel
theorem dL_law_1401 : decode cL_law 1401 = .ok (.aload_n 3, 1) := by decide +kernel
theorem dL_law_1402 : decode cL_law 1402 = .ok (.iconst 0, 1) := by decide +kernel
theorem dL_law_1403 : decode cL_law 1403 = .ok (.laload, 1) := by decide +kernel
theorem dL_law_1404 : decode cL_law 1404 = .ok (.iload 7, 2) := by decide +kernel
theorem dL_law_1406 : decode cL_law 1406 = .ok (.i2l, 1) := by decide +kernel
theorem dL_law_1407 : decode cL_law 1407 = .ok (.lcmp, 1) := by decide +kernel
theorem dL_law_1408 : decode cL_law 1408 = .ok (.ifCond .eq 5, 3) := by decide +kernel
theorem dL_law_1411 : decode cL_law 1411 = .ok (.iconst 0, 1) := by decide +kernel
theorem dL_law_1412 : decode cL_law 1412 = .ok (.ireturn, 1) := by decide +kernel
theorem dL_law_1413 : decode cL_law 1413 = .ok (.goto 218, 3) := by decide +kernel
theorem dL_law_1416 : decode cL_law 1416 = .ok (.aload_n 1, 1) := by decide +kernel
theorem dL_law_1417 : decode cL_law 1417 = .ok (.aload_n 0, 1) := by decide +kernel
theorem dL_law_1418 : decode cL_law 1418 = .ok (.iload 5, 2) := by decide +kernel
theorem dL_law_1420 : decode cL_law 1420 = .ok (.iconst 1, 1) := by decide +kernel
theorem dL_law_1421 : decode cL_law 1421 = .ok (.iadd, 1) := by decide +kernel
theorem dL_law_1422 : decode cL_law 1422 = .ok (.iaload, 1) := by decide +kernel
theorem dL_law_1423 : decode cL_law 1423 = .ok (.i2c, 1) := by decide +kernel
theorem dL_law_1424 : decode cL_law 1424 = .ok (.aload_n 3, 1) := by decide +kernel
theorem dL_law_1425 : decode cL_law 1425 = .ok (.invokestatic 177, 3) := by decide +kernel
theorem dL_law_1428 : decode cL_law 1428 = .ok (.istore 6, 2) := by decide +kernel
theorem dL_law_1430 : decode cL_law 1430 = .ok (.aload_n 2, 1) := by decide +kernel
theorem dL_law_1431 : decode cL_law 1431 = .ok (.aload_n 0, 1) := by decide +kernel
theorem dL_law_1432 : decode cL_law 1432 = .ok (.iload 5, 2) := by decide +kernel
theorem dL_law_1434 : decode cL_law 1434 = .ok (.iconst 1, 1) := by decide +kernel
theorem dL_law_1435 : decode cL_law 1435 = .ok (.iadd, 1) := by decide +kernel
theorem dL_law_1436 : decode cL_law 1436 = .ok (.iaload, 1) := by decide +kernel
theorem dL_law_1437 : decode cL_law 1437 = .ok (.i2c, 1) := by decide +kernel
theorem dL_law_1438 : decode cL_law 1438 = .ok (.invokevirtual 180, 3) := by decide +kernel
theorem dL_law_1441 : decode cL_law 1441 = .ok (.istore 7, 2) := by decide +kernel
theorem dL_law_1443 : decode cL_law 1443 = .ok (.aload_n 2, 1) := by decide +kernel
theorem dL_law_1444 : decode cL_law 1444 = .ok (.invokevirtual 107, 3) := by decide +kernel
theorem dL_law_1447 : decode cL_law 1447 = .ok (.iload 6, 2) := by decide +kernel
theorem dL_law_1449 : decode cL_law 1449 = .ok (.if_icmp .eq 5, 3) := by decide +kernel
theorem dL_law_1452 : decode cL_law 1452 = .ok (.iconst 0, 1) := by decide +kernel
theorem dL_law_1453 : decode cL_law 1453 = .ok (.ireturn, 1) := by decide +kernel
theorem dL_law_1454 : decode cL_law 1454 = .ok (.iload 6, 2) := by decide +kernel
theorem dL_law_1456 : decode cL_law 1456 = .ok (.ifCond .ne 15, 3) := by decide +kernel
theorem dL_law_1459 : decode cL_law 1459 = .ok (.aload_n 3, 1) := by decide +kernel
theorem dL_law_1460 : decode cL_law 1460 = .ok (.iconst 0, 1) := by decide +kernel
theorem dL_law_1461 : decode cL_law 1461 = .ok (.laload, 1) := by decide +kernel
theorem dL_law_1462 : decode cL_law 1462 = .ok (.iload 7, 2) := by decide +kernel
theorem dL_law_1464 : decode cL_law 1464 = .ok (.i2l, 1) := by decide +kernel
theorem dL_law_1465 : decode cL_law 1465 = .ok (.lcmp, 1) := by decide +kernel
theorem dL_law_1466 : decode cL_law 1466 = .ok (.ifCond .eq 5, 3) := by decide +kernel
theorem dL_law_1469 : decode cL_law 1469 = .ok (.iconst 0, 1) := by decide +kernel
theorem dL_law_1470 : decode cL_law 1470 = .ok (.ireturn, 1) := by decide +kernel
theorem dL_law_1471 : decode cL_law 1471 = .ok (.goto 160, 3) := by decide +kernel
theorem dL_law_1474 : decode cL_law 1474 = .ok (.aload_n 1, 1) := by decide +kernel
theorem dL_law_1475 : decode cL_law 1475 = .ok (.aload_n 3, 1) := by decide +kernel
theorem dL_law_1476 : decode cL_law 1476 = .ok (.invokestatic 181, 3) := by decide +kernel
theorem dL_law_1479 : decode cL_law 1479 = .ok (.istore 6, 2) := by decide +kernel
theorem dL_law_1481 : decode cL_law 1481 = .ok (.aload_n 2, 1) := by decide +kernel
theorem dL_law_1482 : decode cL_law 1482 = .ok (.invokevirtual 183, 3) := by decide +kernel
theorem dL_law_1485 : decode cL_law 1485 = .ok (.istore 7, 2) := by decide +kernel
theorem dL_law_1487 : decode cL_law 1487 = .ok (.aload_n 2, 1) := by decide +kernel
theorem dL_law_1488 : decode cL_law 1488 = .ok (.invokevirtual 107, 3) := by decide +kernel
theorem dL_law_1491 : decode cL_law 1491 = .ok (.iload 6, 2) := by decide +kernel
theorem dL_law_1493 : decode cL_law 1493 = .ok (.if_icmp .eq 5, 3) := by decide +kernel
theorem dL_law_1496 : decode cL_law 1496 = .ok (.iconst 0, 1) := by decide +kernel
theorem dL_law_1497 : decode cL_law 1497 = .ok (.ireturn, 1) := by decide +kernel
theorem dL_law_1498 : decode cL_law 1498 = .ok (.iload 6, 2) := by decide +kernel
theorem dL_law_1500 : decode cL_law 1500 = .ok (.ifCond .ne 15, 3) := by decide +kernel
theorem dL_law_1503 : decode cL_law 1503 = .ok (.aload_n 3, 1) := by decide +kernel
theorem dL_law_1504 : decode cL_law 1504 = .ok (.iconst 0, 1) := by decide +kernel
theorem dL_law_1505 : decode cL_law 1505 = .ok (.laload, 1) := by decide +kernel
theorem dL_law_1506 : decode cL_law 1506 = .ok (.iload 7, 2) := by decide +kernel
theorem dL_law_1508 : decode cL_law 1508 = .ok (.i2l, 1) := by decide +kernel
theorem dL_law_1509 : decode cL_law 1509 = .ok (.lcmp, 1) := by decide +kernel
theorem dL_law_1510 : decode cL_law 1510 = .ok (.ifCond .eq 5, 3) := by decide +kernel
theorem dL_law_1513 : decode cL_law 1513 = .ok (.iconst 0, 1) := by decide +kernel
theorem dL_law_1514 : decode cL_law 1514 = .ok (.ireturn, 1) := by decide +kernel
theorem dL_law_1515 : decode cL_law 1515 = .ok (.goto 116, 3) := by decide +kernel
theorem dL_law_1518 : decode cL_law 1518 = .ok (.aload_n 1, 1) := by decide +kernel
theorem dL_law_1519 : decode cL_law 1519 = .ok (.aload_n 0, 1) := by decide +kernel
theorem dL_law_1520 : decode cL_law 1520 = .ok (.iload 5, 2) := by decide +kernel
theorem dL_law_1522 : decode cL_law 1522 = .ok (.iconst 1, 1) := by decide +kernel
theorem dL_law_1523 : decode cL_law 1523 = .ok (.iadd, 1) := by decide +kernel
theorem dL_law_1524 : decode cL_law 1524 = .ok (.iaload, 1) := by decide +kernel
theorem dL_law_1525 : decode cL_law 1525 = .ok (.aload_n 3, 1) := by decide +kernel
theorem dL_law_1526 : decode cL_law 1526 = .ok (.invokestatic 184, 3) := by decide +kernel
theorem dL_law_1529 : decode cL_law 1529 = .ok (.istore 6, 2) := by decide +kernel
theorem dL_law_1531 : decode cL_law 1531 = .ok (.aload_n 2, 1) := by decide +kernel
theorem dL_law_1532 : decode cL_law 1532 = .ok (.aload_n 0, 1) := by decide +kernel
theorem dL_law_1533 : decode cL_law 1533 = .ok (.iload 5, 2) := by decide +kernel
theorem dL_law_1535 : decode cL_law 1535 = .ok (.iconst 1, 1) := by decide +kernel
theorem dL_law_1536 : decode cL_law 1536 = .ok (.iadd, 1) := by decide +kernel
theorem dL_law_1537 : decode cL_law 1537 = .ok (.iaload, 1) := by decide +kernel
theorem dL_law_1538 : decode cL_law 1538 = .ok (.invokevirtual 186, 3) := by decide +kernel
theorem dL_law_1541 : decode cL_law 1541 = .ok (.istore 7, 2) := by decide +kernel
theorem dL_law_1543 : decode cL_law 1543 = .ok (.aload_n 2, 1) := by decide +kernel
theorem dL_law_1544 : decode cL_law 1544 = .ok (.invokevirtual 107, 3) := by decide +kernel
theorem dL_law_1547 : decode cL_law 1547 = .ok (.iload 6, 2) := by decide +kernel
theorem dL_law_1549 : decode cL_law 1549 = .ok (.if_icmp .eq 5, 3) := by decide +kernel
theorem dL_law_1552 : decode cL_law 1552 = .ok (.iconst 0, 1) := by decide +kernel
theorem dL_law_1553 : decode cL_law 1553 = .ok (.ireturn, 1) := by decide +kernel
theorem dL_law_1554 : decode cL_law 1554 = .ok (.iload 6, 2) := by decide +kernel
theorem dL_law_1556 : decode cL_law 1556 = .ok (.ifCond .ne 15, 3) := by decide +kernel
theorem dL_law_1559 : decode cL_law 1559 = .ok (.aload_n 3, 1) := by decide +kernel
theorem dL_law_1560 : decode cL_law 1560 = .ok (.iconst 0, 1) := by decide +kernel
theorem dL_law_1561 : decode cL_law 1561 = .ok (.laload, 1) := by decide +kernel
theorem dL_law_1562 : decode cL_law 1562 = .ok (.iload 7, 2) := by decide +kernel
theorem dL_law_1564 : decode cL_law 1564 = .ok (.i2l, 1) := by decide +kernel
theorem dL_law_1565 : decode cL_law 1565 = .ok (.lcmp, 1) := by decide +kernel
theorem dL_law_1566 : decode cL_law 1566 = .ok (.ifCond .eq 5, 3) := by decide +kernel
theorem dL_law_1569 : decode cL_law 1569 = .ok (.iconst 0, 1) := by decide +kernel
theorem dL_law_1570 : decode cL_law 1570 = .ok (.ireturn, 1) := by decide +kernel
theorem dL_law_1571 : decode cL_law 1571 = .ok (.goto 60, 3) := by decide +kernel
theorem dL_law_1574 : decode cL_law 1574 = .ok (.aload_n 1, 1) := by decide +kernel
theorem dL_law_1575 : decode cL_law 1575 = .ok (.invokevirtual 187, 3) := by decide +kernel
theorem dL_law_1578 : decode cL_law 1578 = .ok (.aload_n 2, 1) := by decide +kernel
theorem dL_law_1579 : decode cL_law 1579 = .ok (.invokevirtual 190, 3) := by decide +kernel
theorem dL_law_1582 : decode cL_law 1582 = .ok (.if_icmp .eq 49, 3) := by decide +kernel
theorem dL_law_1585 : decode cL_law 1585 = .ok (.iconst 0, 1) := by decide +kernel
theorem dL_law_1586 : decode cL_law 1586 = .ok (.ireturn, 1) := by decide +kernel
theorem dL_law_1587 : decode cL_law 1587 = .ok (.aload_n 1, 1) := by decide +kernel
theorem dL_law_1588 : decode cL_law 1588 = .ok (.aload_n 3, 1) := by decide +kernel
theorem dL_law_1589 : decode cL_law 1589 = .ok (.invokestatic 191, 3) := by decide +kernel
theorem dL_law_1592 : decode cL_law 1592 = .ok (.istore 6, 2) := by decide +kernel
theorem dL_law_1594 : decode cL_law 1594 = .ok (.aload_n 2, 1) := by decide +kernel
theorem dL_law_1595 : decode cL_law 1595 = .ok (.invokevirtual 193, 3) := by decide +kernel
theorem dL_law_1598 : decode cL_law 1598 = .ok (.istore 7, 2) := by decide +kernel
theorem dL_law_1600 : decode cL_law 1600 = .ok (.aload_n 2, 1) := by decide +kernel
theorem dL_law_1601 : decode cL_law 1601 = .ok (.invokevirtual 107, 3) := by decide +kernel
theorem dL_law_1604 : decode cL_law 1604 = .ok (.iload 6, 2) := by decide +kernel
theorem dL_law_1606 : decode cL_law 1606 = .ok (.if_icmp .eq 5, 3) := by decide +kernel
theorem dL_law_1609 : decode cL_law 1609 = .ok (.iconst 0, 1) := by decide +kernel
theorem dL_law_1610 : decode cL_law 1610 = .ok (.ireturn, 1) := by decide +kernel
theorem dL_law_1611 : decode cL_law 1611 = .ok (.iload 6, 2) := by decide +kernel
theorem dL_law_1613 : decode cL_law 1613 = .ok (.ifCond .ne 15, 3) := by decide +kernel
theorem dL_law_1616 : decode cL_law 1616 = .ok (.aload_n 3, 1) := by decide +kernel
theorem dL_law_1617 : decode cL_law 1617 = .ok (.iconst 0, 1) := by decide +kernel
theorem dL_law_1618 : decode cL_law 1618 = .ok (.laload, 1) := by decide +kernel
theorem dL_law_1619 : decode cL_law 1619 = .ok (.iload 7, 2) := by decide +kernel
theorem dL_law_1621 : decode cL_law 1621 = .ok (.i2l, 1) := by decide +kernel
theorem dL_law_1622 : decode cL_law 1622 = .ok (.lcmp, 1) := by decide +kernel
theorem dL_law_1623 : decode cL_law 1623 = .ok (.ifCond .eq 5, 3) := by decide +kernel
theorem dL_law_1626 : decode cL_law 1626 = .ok (.iconst 0, 1) := by decide +kernel
theorem dL_law_1627 : decode cL_law 1627 = .ok (.ireturn, 1) := by decide +kernel
theorem dL_law_1628 : decode cL_law 1628 = .ok (.goto 3, 3) := by decide +kernel
theorem dL_law_1631 : decode cL_law 1631 = .ok (.iinc 5 4, 3) := by decide +kernel
theorem dL_law_1634 : decode cL_law 1634 = .ok (.goto (-1606), 3) := by decide +kernel
theorem dL_law_1637 : decode cL_law 1637 = .ok (.iconst 1, 1) := by decide +kernel
theorem dL_law_1638 : decode cL_law 1638 = .ok (.ireturn, 1) := by decide +kernel
end
section
/-! ===== my layer: a walk's state as pure data ===== -/
def gTs : List Cond := lw_tbl.filter goodWord
theorem gmem {i : Nat} {w : Cond} (h : lw_tbl[i]? = some w) (hg : goodWord w = true) : w ∈ gTs := List.mem_filter.mpr ⟨List.mem_of_getElem? h, hg⟩
theorem gGood {ws : List Cond} {c : Cond} (hc : c ∈ gTs) (hw : ws = c :: gTs) : GoodIn gTs ws := by
  intro w h
  rw [hw] at h
  rcases List.mem_cons.mp h with rfl | h
  · exact ⟨hc, good_of_word (List.mem_filter.mp hc).2⟩
  · exact ⟨h, good_of_word (List.mem_filter.mp h).2⟩
def gTy (cy : Nat → ClassId) : List (ClassId × FieldType) := [(cy 0, .int), (cy 1, .long), (cy 2, .char), (cy 3, .object RX6), (cy 4, .double)]
/-- locals by their places -/
def g_get : List (Option Value) → Nat → Option Value
  | [], _ => none
  | o :: _, 0 => o
  | _ :: t, i + 1 => g_get t i
def g_upd : List (Option Value) → Nat → Option Value → List (Option Value)
  | [], _, _ => []
  | _ :: t, 0, v => v :: t
  | o :: t, i + 1, v => o :: g_upd t i v
def g_clr (ll : List (Option Value)) : Nat → List (Option Value)
  | 0 => ll
  | i + 1 => match g_get ll i with
    | some v => if v.category = 2 then g_upd ll i none else ll
    | none => ll
def g_st1 (ll : List (Option Value)) (i : Nat) (v : Value) : List (Option Value) := g_upd (g_clr ll i) i (some v)
def g_st2 (ll : List (Option Value)) (i : Nat) (v : Value) : List (Option Value) := g_upd (g_upd (g_clr ll i) i (some v)) (i + 1) none
theorem g_upd_len : ∀ (l : List (Option Value)) (i : Nat) (v : Option Value), (g_upd l i v).length = l.length
  | [], _, _ => rfl
  | _ :: _, 0, _ => rfl
  | _ :: t, i + 1, v => by simp [g_upd, g_upd_len t i v]
theorem g_clr_len (l : List (Option Value)) (i : Nat) : (g_clr l i).length = l.length := by
  cases i with
  | zero => rfl
  | succ i =>
    simp only [g_clr]
    split
    · split
      · exact g_upd_len _ _ _
      · rfl
    · rfl
theorem g_get_upd : ∀ (l : List (Option Value)) (i : Nat) (v : Option Value) (j : Nat) (w : Value), g_get (g_upd l i v) j = some w → (j = i ∧ v = some w) ∨ (j ≠ i ∧ g_get l j = some w)
  | [], _, _, _, _, h => by simp [g_upd, g_get] at h
  | _ :: _, 0, v, 0, w, h => Or.inl ⟨rfl, h⟩
  | _ :: t, 0, v, j + 1, w, h => Or.inr ⟨Nat.succ_ne_zero j, h⟩
  | o :: t, i + 1, v, 0, w, h => Or.inr ⟨(Nat.succ_ne_zero i).symm, h⟩
  | o :: t, i + 1, v, j + 1, w, h => by
    rcases g_get_upd t i v j w h with ⟨h1, h2⟩ | ⟨h1, h2⟩
    · exact Or.inl ⟨by omega, h2⟩
    · exact Or.inr ⟨by omega, h2⟩
theorem g_get_clr {l : List (Option Value)} {i j : Nat} {w : Value} (h : g_get (g_clr l i) j = some w) : g_get l j = some w ∧ ¬ (j + 1 = i ∧ w.category = 2) := by
  cases i with
  | zero => exact ⟨h, by omega⟩
  | succ i =>
    simp only [g_clr] at h
    split at h
    next v hv =>
      split at h
      next hc =>
        rcases g_get_upd _ _ _ _ _ h with ⟨h1, h2⟩ | ⟨h1, h2⟩
        · cases h2
        · exact ⟨h2, by omega⟩
      next hc =>
        refine ⟨h, fun ⟨e1, e2⟩ => ?_⟩
        have : j = i := by omega
        subst this
        rw [hv] at h
        cases h
        exact hc e2
    next hv =>
      refine ⟨h, fun ⟨e1, e2⟩ => ?_⟩
      have : j = i := by omega
      subst this
      rw [hv] at h
      cases h
def g_has (ls : Array Slot) (ll : List (Option Value)) : Prop := ls.size = ll.length ∧ lv_wf ls ∧ ∀ (i : Nat) (v : Value), g_get ll i = some v → ls[i]? = some (.val v)
def g_al : Nat → List (Option Value) → List (Nat × Value)
  | _, [] => []
  | k, none :: t => g_al (k + 1) t
  | k, some v :: t => (k, v) :: g_al (k + 1) t
theorem g_al_mem : ∀ (l : List (Option Value)) (k i : Nat) (v : Value), (i, v) ∈ g_al k l ↔ ∃ j, i = k + j ∧ g_get l j = some v
  | [], k, i, v => by simp [g_al, g_get]
  | none :: t, k, i, v => by
    rw [g_al, g_al_mem t (k + 1) i v]
    constructor
    · rintro ⟨j, h1, h2⟩
      exact ⟨j + 1, by omega, h2⟩
    · rintro ⟨j, h1, h2⟩
      cases j with
      | zero => cases h2
      | succ j => exact ⟨j, by omega, h2⟩
  | some u :: t, k, i, v => by
    rw [g_al, List.mem_cons, g_al_mem t (k + 1) i v]
    constructor
    · rintro (h | ⟨j, h1, h2⟩)
      · cases h
        exact ⟨0, rfl, rfl⟩
      · exact ⟨j + 1, by omega, h2⟩
    · rintro ⟨j, h1, h2⟩
      cases j with
      | zero => cases h2; exact Or.inl (by rw [h1]; rfl)
      | succ j => exact Or.inr ⟨j, by omega, h2⟩
theorem g_has.lv {ls : Array Slot} {ll : List (Option Value)} (h : g_has ls ll) : lv_has ls ll.length (g_al 0 ll) := by
  refine ⟨h.1, h.2.1, fun q hq => ?_⟩
  obtain ⟨j, h1, h2⟩ := (g_al_mem ll 0 q.1 q.2).mp hq
  rw [h1, Nat.zero_add]
  exact h.2.2 j q.2 h2
theorem g_has.st1 {ls : Array Slot} {ll : List (Option Value)} {i : Nat} {v : Value} (h : lv_has ls ll.length ((i, v) :: (g_al 0 ll).filter (fun q => !(q.1 == i) && !(q.1 + 1 == i && q.2.category == 2)))) : g_has ls (g_st1 ll i v) := by
  refine ⟨by rw [h.1, g_st1, g_upd_len, g_clr_len], h.2.1, fun j w hj => ?_⟩
  rcases g_get_upd _ _ _ _ _ hj with ⟨h1, h2⟩ | ⟨h1, h2⟩
  · cases h2
    exact h.2.2 (j, _) (by rw [h1]; exact List.mem_cons_self)
  · obtain ⟨h3, h4⟩ := g_get_clr h2
    refine h.2.2 (j, w) (List.mem_cons_of_mem _ (List.mem_filter.mpr ⟨(g_al_mem ll 0 j w).mpr ⟨j, by omega, h3⟩, ?_⟩))
    simp only [Bool.and_eq_true, Bool.not_eq_true', beq_eq_false_iff_ne, ne_eq, Bool.and_eq_false_iff]
    refine ⟨h1, ?_⟩
    by_cases h5 : j + 1 = i
    · exact Or.inr (fun e => h4 ⟨h5, e⟩)
    · exact Or.inl h5
theorem g_has.st2 {ls : Array Slot} {ll : List (Option Value)} {i : Nat} {v : Value} (h : lv_has ls ll.length ((i, v) :: (g_al 0 ll).filter (fun q => !(q.1 == i) && (!(q.1 == i + 1) && !(q.1 + 1 == i && q.2.category == 2))))) : g_has ls (g_st2 ll i v) := by
  refine ⟨by rw [h.1, g_st2, g_upd_len, g_upd_len, g_clr_len], h.2.1, fun j w hj => ?_⟩
  rcases g_get_upd _ _ _ _ _ hj with ⟨h1, h2⟩ | ⟨h1, h2⟩
  · cases h2
  · rcases g_get_upd _ _ _ _ _ h2 with ⟨h1, h2⟩ | ⟨h1', h2⟩
    · cases h2
      exact h.2.2 (j, _) (by rw [h1]; exact List.mem_cons_self)
    · obtain ⟨h3, h4⟩ := g_get_clr h2
      refine h.2.2 (j, w) (List.mem_cons_of_mem _ (List.mem_filter.mpr ⟨(g_al_mem ll 0 j w).mpr ⟨j, by omega, h3⟩, ?_⟩))
      simp only [Bool.and_eq_true, Bool.not_eq_true', beq_eq_false_iff_ne, ne_eq, Bool.and_eq_false_iff]
      refine ⟨h1', h1, ?_⟩
      by_cases h5 : j + 1 = i
      · exact Or.inr (fun e => h4 ⟨h5, e⟩)
      · exact Or.inl h5
/-- fewer known locals -/
def g_le : List (Option Value) → List (Option Value) → Prop
  | [], [] => True
  | none :: a, _ :: b => g_le a b
  | some v :: a, some w :: b => v = w ∧ g_le a b
  | _, _ => False
theorem g_le_get : ∀ {a b : List (Option Value)}, g_le a b → a.length = b.length ∧ ∀ (i : Nat) (v : Value), g_get a i = some v → g_get b i = some v
  | [], [], _ => ⟨rfl, fun _ _ h => h⟩
  | [], _ :: _, h => h.elim
  | none :: a, [], h => h.elim
  | some _ :: a, [], h => h.elim
  | none :: a, o :: b, h => by
    obtain ⟨h1, h2⟩ := g_le_get (a := a) (b := b) h
    refine ⟨by simp [h1], fun i v hv => ?_⟩
    cases i with
    | zero => cases hv
    | succ i => exact h2 i v hv
  | some x :: a, none :: b, h => h.elim
  | some x :: a, some y :: b, h => by
    obtain ⟨h0, h⟩ := h
    subst h0
    obtain ⟨h1, h2⟩ := g_le_get (a := a) (b := b) h
    refine ⟨by simp [h1], fun i v hv => ?_⟩
    cases i with
    | zero => exact hv
    | succ i => exact h2 i v hv
theorem g_has.le {ls : Array Slot} {a b : List (Option Value)} (h : g_has ls b) (hl : g_le a b) : g_has ls a := ⟨h.1.trans (g_le_get hl).1.symm, h.2.1, fun i v hv => h.2.2 i v ((g_le_get hl).2 i v hv)⟩
/-- the locals at a method's entry -/
def g_en : Nat → List (Nat × Value) → List (Option Value) → Prop
  | _, _, [] => True
  | i, l, none :: t => g_en (i + 1) l t
  | i, l, some v :: t => (i, v) ∈ l ∧ g_en (i + 1) l t
theorem g_en_get : ∀ (ll : List (Option Value)) (i : Nat) (l : List (Nat × Value)), g_en i l ll → ∀ (j : Nat) (v : Value), g_get ll j = some v → (i + j, v) ∈ l
  | [], _, _, _, _, _, h => by cases h
  | none :: t, i, l, h, j, v, hv => by
    cases j with
    | zero => cases hv
    | succ j =>
      have := g_en_get t (i + 1) l h j v hv
      rw [show i + 1 + j = i + (j + 1) by omega] at this
      exact this
  | some x :: t, i, l, h, j, v, hv => by
    cases j with
    | zero => cases hv; exact h.1
    | succ j =>
      have := g_en_get t (i + 1) l h.2 j v hv
      rw [show i + 1 + j = i + (j + 1) by omega] at this
      exact this
/-- what is the same in all walks: the launch, the classes' numbers and slots, the array classes -/
abbrev GK : Type := Launch × va_G × (Nat → ClassId)
abbrev GX : Type := Program × Env × Room × State × MethodId × Array Value × List Frame × Method × Code × (Nat → Prop) × Heap × (State → Prop)
/-- the heap's size, the cells and slots made so far, the addresses of the world -/
abbrev GO : Type := Nat × Nat × Nat × List Nat
abbrev GS : Type := Nat → va_E
abbrev GP : Type := Option Value → Nat → List Nat → GS → Prop
def gW (D : va_G) (A : Nat → Prop) (L : List Nat) (σ : GS) (H : Heap) : Prop := va_P D vwCl (va_pl L σ) H ∧ va_D A (va_pl L σ)
def G (K : GK) (Γ : GX) (ω : GO) (σ : GS) (pc : Nat) (ll : List (Option Value)) (st : List Value) : Prop :=
  match K, Γ, ω with
  | (l, D, _), (p, e, R, s, m, args, below, meth, c, A, H0, Q), (z, k, n, L) => ∀ (H : Heap) (locs : List Loc) (ls : Array Slot), H.size = z → gW D A L σ H → va_S A H0 H locs → g_has ls ll → W p l e R s m args below meth c H locs k n Q (F0 m pc ls st)
def gC (K : GK) (Γ : GX) (cc : ByteArray) (nL : Nat) (own mn : String) (d mc ms : Nat) (rt : Option FieldType) (Po : GP) : Prop :=
  match K, Γ with
  | (_, D, cy), (p, _, R, s, m, args, below, meth, c, A, H0, Q) => CallFix p m c cc nL s args gTs own ∧ meth.sig.returnType = rt ∧ meth.locks = false ∧ va_K D vwCl (gTy cy) s ∧ (∀ q, H0.size ≤ q → A q) ∧ (d ≤ R.frames ∧ 64 * d ≤ R.locals ∧ mc ≤ R.cells ∧ ms ≤ R.slots) ∧ meth.name = mn ∧
    (∃ (Qc : Array Value → State → Outcome → State → Prop) (free : Nat → Prop), (∀ t, MQ below Qc args s mc ms free t → Q t) ∧ (∀ q, A q → free q) ∧ ∀ (r : Option Value) (H : Heap) (locs : List Loc) (L : List Nat) (σ : GS) (t : State), gW D A L σ H → va_S A H0 H locs → Po r H.size L σ → t.heap = H → Qc args s (.returned r) t)

section GR
variable {K : GK} {Γ : GX} {cc : ByteArray} {nL d mc ms : Nat} {own mn : String} {rt : Option FieldType} {Po : GP} {ω : GO} {σ : GS} {pc n : Nat} {ll ll1 : List (Option Value)} {r : List Value}
theorem g_iconst (hC : gC K Γ cc nL own mn d mc ms rt Po) {i : Int} {v : Int32} (hv : Int32.ofInt i = v) (hd : decode cc pc = .ok (.iconst i, 1)) (k : G K Γ ω σ n ll (.int v :: r)) (hn : n = pc + 1 := by rfl) : G K Γ ω σ pc ll (r) := by
  subst hn
  obtain ⟨l, D, cy⟩ := K
  obtain ⟨p, e, R, s, m, args, below, meth, c, A, H0, Q⟩ := Γ
  obtain ⟨z, k9, n9, L⟩ := ω
  obtain ⟨⟨hx, hb, hml, hown, hts⟩, hrt, hlk, hK, hA, hR, hmn, hE⟩ := hC
  intro H locs ls hz hW hS hl
  exact lv_iconst hx hb hd hv (k H locs ls hz hW hS hl)
theorem g_bipush (hC : gC K Γ cc nL own mn d mc ms rt Po) {i : Int} {v : Int32} (hv : (Int8.ofInt i).toInt32 = v) (hd : decode cc pc = .ok (.bipush i, 2)) (k : G K Γ ω σ n ll (.int v :: r)) (hn : n = pc + 2 := by rfl) : G K Γ ω σ pc ll (r) := by
  subst hn
  obtain ⟨l, D, cy⟩ := K
  obtain ⟨p, e, R, s, m, args, below, meth, c, A, H0, Q⟩ := Γ
  obtain ⟨z, k9, n9, L⟩ := ω
  obtain ⟨⟨hx, hb, hml, hown, hts⟩, hrt, hlk, hK, hA, hR, hmn, hE⟩ := hC
  intro H locs ls hz hW hS hl
  exact lv_bipush hx hb hd hv (k H locs ls hz hW hS hl)
theorem g_sipush (hC : gC K Γ cc nL own mn d mc ms rt Po) {i : Int} {v : Int32} (hv : (Int16.ofInt i).toInt32 = v) (hd : decode cc pc = .ok (.sipush i, 3)) (k : G K Γ ω σ n ll (.int v :: r)) (hn : n = pc + 3 := by rfl) : G K Γ ω σ pc ll (r) := by
  subst hn
  obtain ⟨l, D, cy⟩ := K
  obtain ⟨p, e, R, s, m, args, below, meth, c, A, H0, Q⟩ := Γ
  obtain ⟨z, k9, n9, L⟩ := ω
  obtain ⟨⟨hx, hb, hml, hown, hts⟩, hrt, hlk, hK, hA, hR, hmn, hE⟩ := hC
  intro H locs ls hz hW hS hl
  exact lv_sipush hx hb hd hv (k H locs ls hz hW hS hl)
theorem g_lconst (hC : gC K Γ cc nL own mn d mc ms rt Po) {i : Fin 2} {v : Int64} (hv : Int64.ofNat (i : Nat) = v) (hd : decode cc pc = .ok (.lconst i, 1)) (k : G K Γ ω σ n ll (.long v :: r)) (hn : n = pc + 1 := by rfl) : G K Γ ω σ pc ll (r) := by
  subst hn
  obtain ⟨l, D, cy⟩ := K
  obtain ⟨p, e, R, s, m, args, below, meth, c, A, H0, Q⟩ := Γ
  obtain ⟨z, k9, n9, L⟩ := ω
  obtain ⟨⟨hx, hb, hml, hown, hts⟩, hrt, hlk, hK, hA, hR, hmn, hE⟩ := hC
  intro H locs ls hz hW hS hl
  exact lv_lconst hx hb hd hv (k H locs ls hz hW hS hl)
theorem g_ldc (hC : gC K Γ cc nL own mn d mc ms rt Po) {i : Nat} {v : Int32} (hw : Cond.constant own i v ∈ gTs) (hd : decode cc pc = .ok (.ldc i, 2)) (k : G K Γ ω σ n ll (.int v :: r)) (hn : n = pc + 2 := by rfl) : G K Γ ω σ pc ll (r) := by
  subst hn
  obtain ⟨l, D, cy⟩ := K
  obtain ⟨p, e, R, s, m, args, below, meth, c, A, H0, Q⟩ := Γ
  obtain ⟨z, k9, n9, L⟩ := ω
  obtain ⟨⟨hx, hb, hml, hown, hts⟩, hrt, hlk, hK, hA, hR, hmn, hE⟩ := hC
  intro H locs ls hz hW hS hl
  exact lv_ldc hx hb hown (hts _ hw) hd (k H locs ls hz hW hS hl)
theorem g_ldcw (hC : gC K Γ cc nL own mn d mc ms rt Po) {i : Nat} {v : Int32} (hw : Cond.constant own i v ∈ gTs) (hd : decode cc pc = .ok (.ldc_w i, 3)) (k : G K Γ ω σ n ll (.int v :: r)) (hn : n = pc + 3 := by rfl) : G K Γ ω σ pc ll (r) := by
  subst hn
  obtain ⟨l, D, cy⟩ := K
  obtain ⟨p, e, R, s, m, args, below, meth, c, A, H0, Q⟩ := Γ
  obtain ⟨z, k9, n9, L⟩ := ω
  obtain ⟨⟨hx, hb, hml, hown, hts⟩, hrt, hlk, hK, hA, hR, hmn, hE⟩ := hC
  intro H locs ls hz hW hS hl
  exact lv_ldcw hx hb hown (hts _ hw) hd (k H locs ls hz hW hS hl)
theorem g_ldc2 (hC : gC K Γ cc nL own mn d mc ms rt Po) {i : Nat} {v : Int64} (hw : Cond.constantLong own i v ∈ gTs) (hd : decode cc pc = .ok (.ldc2_w i, 3)) (k : G K Γ ω σ n ll (.long v :: r)) (hn : n = pc + 3 := by rfl) : G K Γ ω σ pc ll (r) := by
  subst hn
  obtain ⟨l, D, cy⟩ := K
  obtain ⟨p, e, R, s, m, args, below, meth, c, A, H0, Q⟩ := Γ
  obtain ⟨z, k9, n9, L⟩ := ω
  obtain ⟨⟨hx, hb, hml, hown, hts⟩, hrt, hlk, hK, hA, hR, hmn, hE⟩ := hC
  intro H locs ls hz hW hS hl
  exact lv_ldc2 hx hb hown (hts _ hw) hd (k H locs ls hz hW hS hl)
theorem g_iload_n (hC : gC K Γ cc nL own mn d mc ms rt Po) {i : Fin 4} {x : Int32} (hg : g_get ll i = some (.int x)) (hd : decode cc pc = .ok (.iload_n i, 1)) (k : G K Γ ω σ n ll (.int x :: r)) (hn : n = pc + 1 := by rfl) : G K Γ ω σ pc ll (r) := by
  subst hn
  obtain ⟨l, D, cy⟩ := K
  obtain ⟨p, e, R, s, m, args, below, meth, c, A, H0, Q⟩ := Γ
  obtain ⟨z, k9, n9, L⟩ := ω
  obtain ⟨⟨hx, hb, hml, hown, hts⟩, hrt, hlk, hK, hA, hR, hmn, hE⟩ := hC
  intro H locs ls hz hW hS hl
  exact lv_iload_n hx hb hd rfl (hl.2.2 _ _ hg) (k H locs ls hz hW hS hl)
theorem g_iload (hC : gC K Γ cc nL own mn d mc ms rt Po) {i : Nat} {x : Int32} (hg : g_get ll i = some (.int x)) (hd : decode cc pc = .ok (.iload i, 2)) (k : G K Γ ω σ n ll (.int x :: r)) (hn : n = pc + 2 := by rfl) : G K Γ ω σ pc ll (r) := by
  subst hn
  obtain ⟨l, D, cy⟩ := K
  obtain ⟨p, e, R, s, m, args, below, meth, c, A, H0, Q⟩ := Γ
  obtain ⟨z, k9, n9, L⟩ := ω
  obtain ⟨⟨hx, hb, hml, hown, hts⟩, hrt, hlk, hK, hA, hR, hmn, hE⟩ := hC
  intro H locs ls hz hW hS hl
  exact lv_iload hx hb hd (hl.2.2 _ _ hg) (k H locs ls hz hW hS hl)
theorem g_lload_n (hC : gC K Γ cc nL own mn d mc ms rt Po) {i : Fin 4} {x : Int64} (hg : g_get ll i = some (.long x)) (hd : decode cc pc = .ok (.lload_n i, 1)) (k : G K Γ ω σ n ll (.long x :: r)) (hn : n = pc + 1 := by rfl) : G K Γ ω σ pc ll (r) := by
  subst hn
  obtain ⟨l, D, cy⟩ := K
  obtain ⟨p, e, R, s, m, args, below, meth, c, A, H0, Q⟩ := Γ
  obtain ⟨z, k9, n9, L⟩ := ω
  obtain ⟨⟨hx, hb, hml, hown, hts⟩, hrt, hlk, hK, hA, hR, hmn, hE⟩ := hC
  intro H locs ls hz hW hS hl
  exact lv_lload_n hx hb hd rfl (hl.2.2 _ _ hg) (k H locs ls hz hW hS hl)
theorem g_lload (hC : gC K Γ cc nL own mn d mc ms rt Po) {i : Nat} {x : Int64} (hg : g_get ll i = some (.long x)) (hd : decode cc pc = .ok (.lload i, 2)) (k : G K Γ ω σ n ll (.long x :: r)) (hn : n = pc + 2 := by rfl) : G K Γ ω σ pc ll (r) := by
  subst hn
  obtain ⟨l, D, cy⟩ := K
  obtain ⟨p, e, R, s, m, args, below, meth, c, A, H0, Q⟩ := Γ
  obtain ⟨z, k9, n9, L⟩ := ω
  obtain ⟨⟨hx, hb, hml, hown, hts⟩, hrt, hlk, hK, hA, hR, hmn, hE⟩ := hC
  intro H locs ls hz hW hS hl
  exact lv_lload hx hb hd (hl.2.2 _ _ hg) (k H locs ls hz hW hS hl)
theorem g_aload_n (hC : gC K Γ cc nL own mn d mc ms rt Po) {i : Fin 4} {x : Nat} (hg : g_get ll i = some (.ref x)) (hd : decode cc pc = .ok (.aload_n i, 1)) (k : G K Γ ω σ n ll (.ref x :: r)) (hn : n = pc + 1 := by rfl) : G K Γ ω σ pc ll (r) := by
  subst hn
  obtain ⟨l, D, cy⟩ := K
  obtain ⟨p, e, R, s, m, args, below, meth, c, A, H0, Q⟩ := Γ
  obtain ⟨z, k9, n9, L⟩ := ω
  obtain ⟨⟨hx, hb, hml, hown, hts⟩, hrt, hlk, hK, hA, hR, hmn, hE⟩ := hC
  intro H locs ls hz hW hS hl
  exact lv_aload_n hx hb hd rfl (hl.2.2 _ _ hg) (k H locs ls hz hW hS hl)
theorem g_aload (hC : gC K Γ cc nL own mn d mc ms rt Po) {i : Nat} {x : Nat} (hg : g_get ll i = some (.ref x)) (hd : decode cc pc = .ok (.aload i, 2)) (k : G K Γ ω σ n ll (.ref x :: r)) (hn : n = pc + 2 := by rfl) : G K Γ ω σ pc ll (r) := by
  subst hn
  obtain ⟨l, D, cy⟩ := K
  obtain ⟨p, e, R, s, m, args, below, meth, c, A, H0, Q⟩ := Γ
  obtain ⟨z, k9, n9, L⟩ := ω
  obtain ⟨⟨hx, hb, hml, hown, hts⟩, hrt, hlk, hK, hA, hR, hmn, hE⟩ := hC
  intro H locs ls hz hW hS hl
  exact lv_aload hx hb hd (hl.2.2 _ _ hg) (k H locs ls hz hW hS hl)
theorem g_dload_n (hC : gC K Γ cc nL own mn d mc ms rt Po) {i : Fin 4} {x : UInt64} (hg : g_get ll i = some (.double x)) (hd : decode cc pc = .ok (.dload_n i, 1)) (k : G K Γ ω σ n ll (.double x :: r)) (hn : n = pc + 1 := by rfl) : G K Γ ω σ pc ll (r) := by
  subst hn
  obtain ⟨l, D, cy⟩ := K
  obtain ⟨p, e, R, s, m, args, below, meth, c, A, H0, Q⟩ := Γ
  obtain ⟨z, k9, n9, L⟩ := ω
  obtain ⟨⟨hx, hb, hml, hown, hts⟩, hrt, hlk, hK, hA, hR, hmn, hE⟩ := hC
  intro H locs ls hz hW hS hl
  exact lv_dload_n hx hb hd rfl (hl.2.2 _ _ hg) (k H locs ls hz hW hS hl)
theorem g_dload (hC : gC K Γ cc nL own mn d mc ms rt Po) {i : Nat} {x : UInt64} (hg : g_get ll i = some (.double x)) (hd : decode cc pc = .ok (.dload i, 2)) (k : G K Γ ω σ n ll (.double x :: r)) (hn : n = pc + 2 := by rfl) : G K Γ ω σ pc ll (r) := by
  subst hn
  obtain ⟨l, D, cy⟩ := K
  obtain ⟨p, e, R, s, m, args, below, meth, c, A, H0, Q⟩ := Γ
  obtain ⟨z, k9, n9, L⟩ := ω
  obtain ⟨⟨hx, hb, hml, hown, hts⟩, hrt, hlk, hK, hA, hR, hmn, hE⟩ := hC
  intro H locs ls hz hW hS hl
  exact lv_dload hx hb hd (hl.2.2 _ _ hg) (k H locs ls hz hW hS hl)
theorem g_istore_n (hC : gC K Γ cc nL own mn d mc ms rt Po) {i : Fin 4} {x : Int32} (hd : decode cc pc = .ok (.istore_n i, 1)) (hll : g_st1 ll (i : Nat) (.int x) = ll1) (k : G K Γ ω σ n ll1 r) (hi : (i : Nat) < ll.length := by decide) (hn : n = pc + 1 := by rfl) : G K Γ ω σ pc ll (.int x :: r) := by
  subst hn
  subst hll
  obtain ⟨l, D, cy⟩ := K
  obtain ⟨p, e, R, s, m, args, below, meth, c, A, H0, Q⟩ := Γ
  obtain ⟨z, k9, n9, L⟩ := ω
  obtain ⟨⟨hx, hb, hml, hown, hts⟩, hrt, hlk, hK, hA, hR, hmn, hE⟩ := hC
  intro H locs ls hz hW hS hl
  refine lv_istore_n hx hb hd rfl hl.lv hi rfl (fun ls1 h1 => k H locs ls1 hz hW hS (g_has.st1 h1))
theorem g_istore (hC : gC K Γ cc nL own mn d mc ms rt Po) {i : Nat} {x : Int32} (hd : decode cc pc = .ok (.istore i, 2)) (hll : g_st1 ll (i : Nat) (.int x) = ll1) (k : G K Γ ω σ n ll1 r) (hi : (i : Nat) < ll.length := by decide) (hn : n = pc + 2 := by rfl) : G K Γ ω σ pc ll (.int x :: r) := by
  subst hn
  subst hll
  obtain ⟨l, D, cy⟩ := K
  obtain ⟨p, e, R, s, m, args, below, meth, c, A, H0, Q⟩ := Γ
  obtain ⟨z, k9, n9, L⟩ := ω
  obtain ⟨⟨hx, hb, hml, hown, hts⟩, hrt, hlk, hK, hA, hR, hmn, hE⟩ := hC
  intro H locs ls hz hW hS hl
  refine lv_istore hx hb hd hl.lv hi rfl (fun ls1 h1 => k H locs ls1 hz hW hS (g_has.st1 h1))
theorem g_lstore_n (hC : gC K Γ cc nL own mn d mc ms rt Po) {i : Fin 4} {x : Int64} (hd : decode cc pc = .ok (.lstore_n i, 1)) (hll : g_st2 ll (i : Nat) (.long x) = ll1) (k : G K Γ ω σ n ll1 r) (hi : (i : Nat) + 1 < ll.length := by decide) (hn : n = pc + 1 := by rfl) : G K Γ ω σ pc ll (.long x :: r) := by
  subst hn
  subst hll
  obtain ⟨l, D, cy⟩ := K
  obtain ⟨p, e, R, s, m, args, below, meth, c, A, H0, Q⟩ := Γ
  obtain ⟨z, k9, n9, L⟩ := ω
  obtain ⟨⟨hx, hb, hml, hown, hts⟩, hrt, hlk, hK, hA, hR, hmn, hE⟩ := hC
  intro H locs ls hz hW hS hl
  refine lv_lstore_n hx hb hd rfl hl.lv hi rfl (fun ls1 h1 => k H locs ls1 hz hW hS (g_has.st2 h1))
theorem g_lstore (hC : gC K Γ cc nL own mn d mc ms rt Po) {i : Nat} {x : Int64} (hd : decode cc pc = .ok (.lstore i, 2)) (hll : g_st2 ll (i : Nat) (.long x) = ll1) (k : G K Γ ω σ n ll1 r) (hi : (i : Nat) + 1 < ll.length := by decide) (hn : n = pc + 2 := by rfl) : G K Γ ω σ pc ll (.long x :: r) := by
  subst hn
  subst hll
  obtain ⟨l, D, cy⟩ := K
  obtain ⟨p, e, R, s, m, args, below, meth, c, A, H0, Q⟩ := Γ
  obtain ⟨z, k9, n9, L⟩ := ω
  obtain ⟨⟨hx, hb, hml, hown, hts⟩, hrt, hlk, hK, hA, hR, hmn, hE⟩ := hC
  intro H locs ls hz hW hS hl
  refine lv_lstore hx hb hd hl.lv hi rfl (fun ls1 h1 => k H locs ls1 hz hW hS (g_has.st2 h1))
theorem g_astore_n (hC : gC K Γ cc nL own mn d mc ms rt Po) {i : Fin 4} {x : Nat} (hd : decode cc pc = .ok (.astore_n i, 1)) (hll : g_st1 ll (i : Nat) (.ref x) = ll1) (k : G K Γ ω σ n ll1 r) (hi : (i : Nat) < ll.length := by decide) (hn : n = pc + 1 := by rfl) : G K Γ ω σ pc ll (.ref x :: r) := by
  subst hn
  subst hll
  obtain ⟨l, D, cy⟩ := K
  obtain ⟨p, e, R, s, m, args, below, meth, c, A, H0, Q⟩ := Γ
  obtain ⟨z, k9, n9, L⟩ := ω
  obtain ⟨⟨hx, hb, hml, hown, hts⟩, hrt, hlk, hK, hA, hR, hmn, hE⟩ := hC
  intro H locs ls hz hW hS hl
  refine lv_astore_n hx hb hd rfl hl.lv hi rfl (fun ls1 h1 => k H locs ls1 hz hW hS (g_has.st1 h1))
theorem g_astore (hC : gC K Γ cc nL own mn d mc ms rt Po) {i : Nat} {x : Nat} (hd : decode cc pc = .ok (.astore i, 2)) (hll : g_st1 ll (i : Nat) (.ref x) = ll1) (k : G K Γ ω σ n ll1 r) (hi : (i : Nat) < ll.length := by decide) (hn : n = pc + 2 := by rfl) : G K Γ ω σ pc ll (.ref x :: r) := by
  subst hn
  subst hll
  obtain ⟨l, D, cy⟩ := K
  obtain ⟨p, e, R, s, m, args, below, meth, c, A, H0, Q⟩ := Γ
  obtain ⟨z, k9, n9, L⟩ := ω
  obtain ⟨⟨hx, hb, hml, hown, hts⟩, hrt, hlk, hK, hA, hR, hmn, hE⟩ := hC
  intro H locs ls hz hW hS hl
  refine lv_astore hx hb hd hl.lv hi rfl (fun ls1 h1 => k H locs ls1 hz hW hS (g_has.st1 h1))
theorem g_dstore_n (hC : gC K Γ cc nL own mn d mc ms rt Po) {i : Fin 4} {x : UInt64} (hd : decode cc pc = .ok (.dstore_n i, 1)) (hll : g_st2 ll (i : Nat) (.double x) = ll1) (k : G K Γ ω σ n ll1 r) (hi : (i : Nat) + 1 < ll.length := by decide) (hn : n = pc + 1 := by rfl) : G K Γ ω σ pc ll (.double x :: r) := by
  subst hn
  subst hll
  obtain ⟨l, D, cy⟩ := K
  obtain ⟨p, e, R, s, m, args, below, meth, c, A, H0, Q⟩ := Γ
  obtain ⟨z, k9, n9, L⟩ := ω
  obtain ⟨⟨hx, hb, hml, hown, hts⟩, hrt, hlk, hK, hA, hR, hmn, hE⟩ := hC
  intro H locs ls hz hW hS hl
  refine lv_dstore_n hx hb hd rfl hl.lv hi rfl (fun ls1 h1 => k H locs ls1 hz hW hS (g_has.st2 h1))
theorem g_dstore (hC : gC K Γ cc nL own mn d mc ms rt Po) {i : Nat} {x : UInt64} (hd : decode cc pc = .ok (.dstore i, 2)) (hll : g_st2 ll (i : Nat) (.double x) = ll1) (k : G K Γ ω σ n ll1 r) (hi : (i : Nat) + 1 < ll.length := by decide) (hn : n = pc + 2 := by rfl) : G K Γ ω σ pc ll (.double x :: r) := by
  subst hn
  subst hll
  obtain ⟨l, D, cy⟩ := K
  obtain ⟨p, e, R, s, m, args, below, meth, c, A, H0, Q⟩ := Γ
  obtain ⟨z, k9, n9, L⟩ := ω
  obtain ⟨⟨hx, hb, hml, hown, hts⟩, hrt, hlk, hK, hA, hR, hmn, hE⟩ := hC
  intro H locs ls hz hW hS hl
  refine lv_dstore hx hb hd hl.lv hi rfl (fun ls1 h1 => k H locs ls1 hz hW hS (g_has.st2 h1))
theorem g_iinc (hC : gC K Γ cc nL own mn d mc ms rt Po) {i : Nat} {q : Int} {x v : Int32} (hd : decode cc pc = .ok (.iinc i q, 3)) (hg : g_get ll i = some (.int x)) (hv : x + Int32.ofInt q = v) (hll : g_st1 ll i (.int v) = ll1) (k : G K Γ ω σ n ll1 r) (hi : i < ll.length := by decide) (hn : n = pc + 3 := by rfl) : G K Γ ω σ pc ll r := by
  subst hn
  subst hll
  obtain ⟨l, D, cy⟩ := K
  obtain ⟨p, e, R, s, m, args, below, meth, c, A, H0, Q⟩ := Γ
  obtain ⟨z, k9, n9, L⟩ := ω
  obtain ⟨⟨hx, hb, hml, hown, hts⟩, hrt, hlk, hK, hA, hR, hmn, hE⟩ := hC
  intro H locs ls hz hW hS hl
  obtain ⟨q0, hq0⟩ := List.getElem?_of_mem ((g_al_mem ll 0 i (.int x)).mpr ⟨i, by omega, hg⟩)
  exact lv_iinc hx hb hd hl.lv hq0 hv hi rfl (fun ls1 h1 => k H locs ls1 hz hW hS (g_has.st1 h1))
theorem g_iadd (hC : gC K Γ cc nL own mn d mc ms rt Po) {x y : Int32} (hd : decode cc pc = .ok (.iadd, 1)) (k : G K Γ ω σ n ll (.int (x + y) :: r)) (hn : n = pc + 1 := by rfl) : G K Γ ω σ pc ll (.int y :: .int x :: r) := by
  subst hn
  obtain ⟨l, D, cy⟩ := K
  obtain ⟨p, e, R, s, m, args, below, meth, c, A, H0, Q⟩ := Γ
  obtain ⟨z, k9, n9, L⟩ := ω
  obtain ⟨⟨hx, hb, hml, hown, hts⟩, hrt, hlk, hK, hA, hR, hmn, hE⟩ := hC
  intro H locs ls hz hW hS hl
  exact lv_iadd hx hb hd (k H locs ls hz hW hS hl)
theorem g_isub (hC : gC K Γ cc nL own mn d mc ms rt Po) {x y : Int32} (hd : decode cc pc = .ok (.isub, 1)) (k : G K Γ ω σ n ll (.int (x - y) :: r)) (hn : n = pc + 1 := by rfl) : G K Γ ω σ pc ll (.int y :: .int x :: r) := by
  subst hn
  obtain ⟨l, D, cy⟩ := K
  obtain ⟨p, e, R, s, m, args, below, meth, c, A, H0, Q⟩ := Γ
  obtain ⟨z, k9, n9, L⟩ := ω
  obtain ⟨⟨hx, hb, hml, hown, hts⟩, hrt, hlk, hK, hA, hR, hmn, hE⟩ := hC
  intro H locs ls hz hW hS hl
  exact lv_isub hx hb hd (k H locs ls hz hW hS hl)
theorem g_imul (hC : gC K Γ cc nL own mn d mc ms rt Po) {x y : Int32} (hd : decode cc pc = .ok (.imul, 1)) (k : G K Γ ω σ n ll (.int (x * y) :: r)) (hn : n = pc + 1 := by rfl) : G K Γ ω σ pc ll (.int y :: .int x :: r) := by
  subst hn
  obtain ⟨l, D, cy⟩ := K
  obtain ⟨p, e, R, s, m, args, below, meth, c, A, H0, Q⟩ := Γ
  obtain ⟨z, k9, n9, L⟩ := ω
  obtain ⟨⟨hx, hb, hml, hown, hts⟩, hrt, hlk, hK, hA, hR, hmn, hE⟩ := hC
  intro H locs ls hz hW hS hl
  exact lv_imul hx hb hd (k H locs ls hz hW hS hl)
theorem g_iand (hC : gC K Γ cc nL own mn d mc ms rt Po) {x y : Int32} (hd : decode cc pc = .ok (.iand, 1)) (k : G K Γ ω σ n ll (.int (x &&& y) :: r)) (hn : n = pc + 1 := by rfl) : G K Γ ω σ pc ll (.int y :: .int x :: r) := by
  subst hn
  obtain ⟨l, D, cy⟩ := K
  obtain ⟨p, e, R, s, m, args, below, meth, c, A, H0, Q⟩ := Γ
  obtain ⟨z, k9, n9, L⟩ := ω
  obtain ⟨⟨hx, hb, hml, hown, hts⟩, hrt, hlk, hK, hA, hR, hmn, hE⟩ := hC
  intro H locs ls hz hW hS hl
  exact lv_iand hx hb hd (k H locs ls hz hW hS hl)
theorem g_ior (hC : gC K Γ cc nL own mn d mc ms rt Po) {x y : Int32} (hd : decode cc pc = .ok (.ior, 1)) (k : G K Γ ω σ n ll (.int (x ||| y) :: r)) (hn : n = pc + 1 := by rfl) : G K Γ ω σ pc ll (.int y :: .int x :: r) := by
  subst hn
  obtain ⟨l, D, cy⟩ := K
  obtain ⟨p, e, R, s, m, args, below, meth, c, A, H0, Q⟩ := Γ
  obtain ⟨z, k9, n9, L⟩ := ω
  obtain ⟨⟨hx, hb, hml, hown, hts⟩, hrt, hlk, hK, hA, hR, hmn, hE⟩ := hC
  intro H locs ls hz hW hS hl
  exact lv_ior hx hb hd (k H locs ls hz hW hS hl)
theorem g_iaddN (hC : gC K Γ cc nL own mn d mc ms rt Po) {a b : Nat} (hd : decode cc pc = .ok (.iadd, 1)) (k : G K Γ ω σ n ll (.int (nI (a + b)) :: r)) (hn : n = pc + 1 := by rfl) : G K Γ ω σ pc ll (.int (nI b) :: .int (nI a) :: r) := by
  subst hn
  obtain ⟨l, D, cy⟩ := K
  obtain ⟨p, e, R, s, m, args, below, meth, c, A, H0, Q⟩ := Γ
  obtain ⟨z, k9, n9, L⟩ := ω
  obtain ⟨⟨hx, hb, hml, hown, hts⟩, hrt, hlk, hK, hA, hR, hmn, hE⟩ := hC
  intro H locs ls hz hW hS hl
  exact lv_iadd hx hb hd (by rw [nI_add]; exact (k H locs ls hz hW hS hl))
theorem g_isubN (hC : gC K Γ cc nL own mn d mc ms rt Po) {a b : Nat} (h : b ≤ a) (hd : decode cc pc = .ok (.isub, 1)) (k : G K Γ ω σ n ll (.int (nI (a - b)) :: r)) (hn : n = pc + 1 := by rfl) : G K Γ ω σ pc ll (.int (nI b) :: .int (nI a) :: r) := by
  subst hn
  obtain ⟨l, D, cy⟩ := K
  obtain ⟨p, e, R, s, m, args, below, meth, c, A, H0, Q⟩ := Γ
  obtain ⟨z, k9, n9, L⟩ := ω
  obtain ⟨⟨hx, hb, hml, hown, hts⟩, hrt, hlk, hK, hA, hR, hmn, hE⟩ := hC
  intro H locs ls hz hW hS hl
  exact lv_isub hx hb hd (by rw [pk_sub h]; exact (k H locs ls hz hW hS hl))
theorem g_imulN (hC : gC K Γ cc nL own mn d mc ms rt Po) {a b : Nat} (hd : decode cc pc = .ok (.imul, 1)) (k : G K Γ ω σ n ll (.int (nI (a * b)) :: r)) (hn : n = pc + 1 := by rfl) : G K Γ ω σ pc ll (.int (nI b) :: .int (nI a) :: r) := by
  subst hn
  obtain ⟨l, D, cy⟩ := K
  obtain ⟨p, e, R, s, m, args, below, meth, c, A, H0, Q⟩ := Γ
  obtain ⟨z, k9, n9, L⟩ := ω
  obtain ⟨⟨hx, hb, hml, hown, hts⟩, hrt, hlk, hK, hA, hR, hmn, hE⟩ := hC
  intro H locs ls hz hW hS hl
  exact lv_imul hx hb hd (by rw [pk_mul]; exact (k H locs ls hz hW hS hl))
theorem g_idivN (hC : gC K Γ cc nL own mn d mc ms rt Po) {a b : Nat} (ha : a < 2 ^ 31) (hb0 : 0 < b) (hb1 : b < 2 ^ 31) (hd : decode cc pc = .ok (.idiv, 1)) (k : G K Γ ω σ n ll (.int (nI (a / b)) :: r)) (hn : n = pc + 1 := by rfl) : G K Γ ω σ pc ll (.int (nI b) :: .int (nI a) :: r) := by
  subst hn
  obtain ⟨l, D, cy⟩ := K
  obtain ⟨p, e, R, s, m, args, below, meth, c, A, H0, Q⟩ := Γ
  obtain ⟨z, k9, n9, L⟩ := ω
  obtain ⟨⟨hx, hb, hml, hown, hts⟩, hrt, hlk, hK, hA, hR, hmn, hE⟩ := hC
  intro H locs ls hz hW hS hl
  exact lv_idiv hx hb hd (nI_ne0 hb0 hb1) (by rw [pk_div ha hb0 hb1]; exact (k H locs ls hz hW hS hl))
theorem g_idiv (hC : gC K Γ cc nL own mn d mc ms rt Po) {x y : Int32} (hy : ¬ y = 0) (hd : decode cc pc = .ok (.idiv, 1)) (k : G K Γ ω σ n ll (.int (x / y) :: r)) (hn : n = pc + 1 := by rfl) : G K Γ ω σ pc ll (.int y :: .int x :: r) := by
  subst hn
  obtain ⟨l, D, cy⟩ := K
  obtain ⟨p, e, R, s, m, args, below, meth, c, A, H0, Q⟩ := Γ
  obtain ⟨z, k9, n9, L⟩ := ω
  obtain ⟨⟨hx, hb, hml, hown, hts⟩, hrt, hlk, hK, hA, hR, hmn, hE⟩ := hC
  intro H locs ls hz hW hS hl
  exact lv_idiv hx hb hd hy (k H locs ls hz hW hS hl)
theorem g_irem (hC : gC K Γ cc nL own mn d mc ms rt Po) {x y v : Int32} (hy : ¬ y = 0) (hv : x - x / y * y = v) (hd : decode cc pc = .ok (.irem, 1)) (k : G K Γ ω σ n ll (.int v :: r)) (hn : n = pc + 1 := by rfl) : G K Γ ω σ pc ll (.int y :: .int x :: r) := by
  subst hn
  obtain ⟨l, D, cy⟩ := K
  obtain ⟨p, e, R, s, m, args, below, meth, c, A, H0, Q⟩ := Γ
  obtain ⟨z, k9, n9, L⟩ := ω
  obtain ⟨⟨hx, hb, hml, hown, hts⟩, hrt, hlk, hK, hA, hR, hmn, hE⟩ := hC
  intro H locs ls hz hW hS hl
  subst hv
  exact lv_irem hx hb hd hy (k H locs ls hz hW hS hl)
theorem g_ineg (hC : gC K Γ cc nL own mn d mc ms rt Po) {x : Int32} (hd : decode cc pc = .ok (.ineg, 1)) (k : G K Γ ω σ n ll (.int (-x) :: r)) (hn : n = pc + 1 := by rfl) : G K Γ ω σ pc ll (.int x :: r) := by
  subst hn
  obtain ⟨l, D, cy⟩ := K
  obtain ⟨p, e, R, s, m, args, below, meth, c, A, H0, Q⟩ := Γ
  obtain ⟨z, k9, n9, L⟩ := ω
  obtain ⟨⟨hx, hb, hml, hown, hts⟩, hrt, hlk, hK, hA, hR, hmn, hE⟩ := hC
  intro H locs ls hz hW hS hl
  exact lv_ineg hx hb hd (k H locs ls hz hW hS hl)
theorem g_ladd (hC : gC K Γ cc nL own mn d mc ms rt Po) {x y : Int64} (hd : decode cc pc = .ok (.ladd, 1)) (k : G K Γ ω σ n ll (.long (x + y) :: r)) (hn : n = pc + 1 := by rfl) : G K Γ ω σ pc ll (.long y :: .long x :: r) := by
  subst hn
  obtain ⟨l, D, cy⟩ := K
  obtain ⟨p, e, R, s, m, args, below, meth, c, A, H0, Q⟩ := Γ
  obtain ⟨z, k9, n9, L⟩ := ω
  obtain ⟨⟨hx, hb, hml, hown, hts⟩, hrt, hlk, hK, hA, hR, hmn, hE⟩ := hC
  intro H locs ls hz hW hS hl
  exact lv_ladd hx hb hd (k H locs ls hz hW hS hl)
theorem g_lsub (hC : gC K Γ cc nL own mn d mc ms rt Po) {x y : Int64} (hd : decode cc pc = .ok (.lsub, 1)) (k : G K Γ ω σ n ll (.long (x - y) :: r)) (hn : n = pc + 1 := by rfl) : G K Γ ω σ pc ll (.long y :: .long x :: r) := by
  subst hn
  obtain ⟨l, D, cy⟩ := K
  obtain ⟨p, e, R, s, m, args, below, meth, c, A, H0, Q⟩ := Γ
  obtain ⟨z, k9, n9, L⟩ := ω
  obtain ⟨⟨hx, hb, hml, hown, hts⟩, hrt, hlk, hK, hA, hR, hmn, hE⟩ := hC
  intro H locs ls hz hW hS hl
  exact lv_lsub hx hb hd (k H locs ls hz hW hS hl)
theorem g_land (hC : gC K Γ cc nL own mn d mc ms rt Po) {x y : Int64} (hd : decode cc pc = .ok (.land, 1)) (k : G K Γ ω σ n ll (.long (x &&& y) :: r)) (hn : n = pc + 1 := by rfl) : G K Γ ω σ pc ll (.long y :: .long x :: r) := by
  subst hn
  obtain ⟨l, D, cy⟩ := K
  obtain ⟨p, e, R, s, m, args, below, meth, c, A, H0, Q⟩ := Γ
  obtain ⟨z, k9, n9, L⟩ := ω
  obtain ⟨⟨hx, hb, hml, hown, hts⟩, hrt, hlk, hK, hA, hR, hmn, hE⟩ := hC
  intro H locs ls hz hW hS hl
  exact lv_land hx hb hd (k H locs ls hz hW hS hl)
theorem g_lor (hC : gC K Γ cc nL own mn d mc ms rt Po) {x y : Int64} (hd : decode cc pc = .ok (.lor, 1)) (k : G K Γ ω σ n ll (.long (x ||| y) :: r)) (hn : n = pc + 1 := by rfl) : G K Γ ω σ pc ll (.long y :: .long x :: r) := by
  subst hn
  obtain ⟨l, D, cy⟩ := K
  obtain ⟨p, e, R, s, m, args, below, meth, c, A, H0, Q⟩ := Γ
  obtain ⟨z, k9, n9, L⟩ := ω
  obtain ⟨⟨hx, hb, hml, hown, hts⟩, hrt, hlk, hK, hA, hR, hmn, hE⟩ := hC
  intro H locs ls hz hW hS hl
  exact lv_lor hx hb hd (k H locs ls hz hW hS hl)
theorem g_lxor (hC : gC K Γ cc nL own mn d mc ms rt Po) {x y : Int64} (hd : decode cc pc = .ok (.lxor, 1)) (k : G K Γ ω σ n ll (.long (x ^^^ y) :: r)) (hn : n = pc + 1 := by rfl) : G K Γ ω σ pc ll (.long y :: .long x :: r) := by
  subst hn
  obtain ⟨l, D, cy⟩ := K
  obtain ⟨p, e, R, s, m, args, below, meth, c, A, H0, Q⟩ := Γ
  obtain ⟨z, k9, n9, L⟩ := ω
  obtain ⟨⟨hx, hb, hml, hown, hts⟩, hrt, hlk, hK, hA, hR, hmn, hE⟩ := hC
  intro H locs ls hz hW hS hl
  exact lv_lxor hx hb hd (k H locs ls hz hW hS hl)
theorem g_i2l (hC : gC K Γ cc nL own mn d mc ms rt Po) {x : Int32} {v : Int64} (hv : x.toInt64 = v) (hd : decode cc pc = .ok (.i2l, 1)) (k : G K Γ ω σ n ll (.long v :: r)) (hn : n = pc + 1 := by rfl) : G K Γ ω σ pc ll (.int x :: r) := by
  subst hn
  obtain ⟨l, D, cy⟩ := K
  obtain ⟨p, e, R, s, m, args, below, meth, c, A, H0, Q⟩ := Γ
  obtain ⟨z, k9, n9, L⟩ := ω
  obtain ⟨⟨hx, hb, hml, hown, hts⟩, hrt, hlk, hK, hA, hR, hmn, hE⟩ := hC
  intro H locs ls hz hW hS hl
  exact lv_i2l hx hb hd hv (k H locs ls hz hW hS hl)
theorem g_l2i (hC : gC K Γ cc nL own mn d mc ms rt Po) {x : Int64} {v : Int32} (hv : x.toInt32 = v) (hd : decode cc pc = .ok (.l2i, 1)) (k : G K Γ ω σ n ll (.int v :: r)) (hn : n = pc + 1 := by rfl) : G K Γ ω σ pc ll (.long x :: r) := by
  subst hn
  obtain ⟨l, D, cy⟩ := K
  obtain ⟨p, e, R, s, m, args, below, meth, c, A, H0, Q⟩ := Γ
  obtain ⟨z, k9, n9, L⟩ := ω
  obtain ⟨⟨hx, hb, hml, hown, hts⟩, hrt, hlk, hK, hA, hR, hmn, hE⟩ := hC
  intro H locs ls hz hW hS hl
  exact lv_l2i hx hb hd hv (k H locs ls hz hW hS hl)
theorem g_i2c (hC : gC K Γ cc nL own mn d mc ms rt Po) {x : Int32} {v : Int32} (hv : (x.toUInt32 % 65536).toInt32 = v) (hd : decode cc pc = .ok (.i2c, 1)) (k : G K Γ ω σ n ll (.int v :: r)) (hn : n = pc + 1 := by rfl) : G K Γ ω σ pc ll (.int x :: r) := by
  subst hn
  obtain ⟨l, D, cy⟩ := K
  obtain ⟨p, e, R, s, m, args, below, meth, c, A, H0, Q⟩ := Γ
  obtain ⟨z, k9, n9, L⟩ := ω
  obtain ⟨⟨hx, hb, hml, hown, hts⟩, hrt, hlk, hK, hA, hR, hmn, hE⟩ := hC
  intro H locs ls hz hW hS hl
  exact lv_i2c hx hb hd hv (k H locs ls hz hW hS hl)
theorem g_lushr (hC : gC K Γ cc nL own mn d mc ms rt Po) {x v : Int64} {y : Int32} (hv : (x.toUInt64 >>> (y.toInt64.toUInt64 &&& Int64.toUInt64 63)).toInt64 = v) (hd : decode cc pc = .ok (.lushr, 1)) (k : G K Γ ω σ n ll (.long v :: r)) (hn : n = pc + 1 := by rfl) : G K Γ ω σ pc ll (.int y :: .long x :: r) := by
  subst hn
  obtain ⟨l, D, cy⟩ := K
  obtain ⟨p, e, R, s, m, args, below, meth, c, A, H0, Q⟩ := Γ
  obtain ⟨z, k9, n9, L⟩ := ω
  obtain ⟨⟨hx, hb, hml, hown, hts⟩, hrt, hlk, hK, hA, hR, hmn, hE⟩ := hC
  intro H locs ls hz hW hS hl
  exact lv_lushr hx hb hd hv (k H locs ls hz hW hS hl)
theorem g_lshl (hC : gC K Γ cc nL own mn d mc ms rt Po) {x v : Int64} {y : Int32} (hv : x <<< (y.toInt64 &&& 63) = v) (hd : decode cc pc = .ok (.lshl, 1)) (k : G K Γ ω σ n ll (.long v :: r)) (hn : n = pc + 1 := by rfl) : G K Γ ω σ pc ll (.int y :: .long x :: r) := by
  subst hn
  obtain ⟨l, D, cy⟩ := K
  obtain ⟨p, e, R, s, m, args, below, meth, c, A, H0, Q⟩ := Γ
  obtain ⟨z, k9, n9, L⟩ := ω
  obtain ⟨⟨hx, hb, hml, hown, hts⟩, hrt, hlk, hK, hA, hR, hmn, hE⟩ := hC
  intro H locs ls hz hW hS hl
  exact lv_lshl hx hb hd hv (k H locs ls hz hW hS hl)
theorem g_lshr (hC : gC K Γ cc nL own mn d mc ms rt Po) {x v : Int64} {y : Int32} (hv : x >>> (y.toInt64 &&& 63) = v) (hd : decode cc pc = .ok (.lshr, 1)) (k : G K Γ ω σ n ll (.long v :: r)) (hn : n = pc + 1 := by rfl) : G K Γ ω σ pc ll (.int y :: .long x :: r) := by
  subst hn
  obtain ⟨l, D, cy⟩ := K
  obtain ⟨p, e, R, s, m, args, below, meth, c, A, H0, Q⟩ := Γ
  obtain ⟨z, k9, n9, L⟩ := ω
  obtain ⟨⟨hx, hb, hml, hown, hts⟩, hrt, hlk, hK, hA, hR, hmn, hE⟩ := hC
  intro H locs ls hz hW hS hl
  exact lv_lshr hx hb hd hv (k H locs ls hz hW hS hl)
theorem g_dup (hC : gC K Γ cc nL own mn d mc ms rt Po) {v : Value} (hv : v.category = 1) (hd : decode cc pc = .ok (.dup, 1)) (k : G K Γ ω σ n ll (v :: v :: r)) (hn : n = pc + 1 := by rfl) : G K Γ ω σ pc ll (v :: r) := by
  subst hn
  obtain ⟨l, D, cy⟩ := K
  obtain ⟨p, e, R, s, m, args, below, meth, c, A, H0, Q⟩ := Γ
  obtain ⟨z, k9, n9, L⟩ := ω
  obtain ⟨⟨hx, hb, hml, hown, hts⟩, hrt, hlk, hK, hA, hR, hmn, hE⟩ := hC
  intro H locs ls hz hW hS hl
  exact lv_dup hx hb hd hv (k H locs ls hz hW hS hl)
theorem g_dup2 (hC : gC K Γ cc nL own mn d mc ms rt Po) {v u : Value} (hv : v.category = 1) (hu : u.category = 1) (hd : decode cc pc = .ok (.dup2, 1)) (k : G K Γ ω σ n ll (v :: u :: v :: u :: r)) (hn : n = pc + 1 := by rfl) : G K Γ ω σ pc ll (v :: u :: r) := by
  subst hn
  obtain ⟨l, D, cy⟩ := K
  obtain ⟨p, e, R, s, m, args, below, meth, c, A, H0, Q⟩ := Γ
  obtain ⟨z, k9, n9, L⟩ := ω
  obtain ⟨⟨hx, hb, hml, hown, hts⟩, hrt, hlk, hK, hA, hR, hmn, hE⟩ := hC
  intro H locs ls hz hW hS hl
  exact lv_dup2_11 hx hb hd hv hu (k H locs ls hz hW hS hl)
theorem g_pop (hC : gC K Γ cc nL own mn d mc ms rt Po) {v : Value} (hv : v.category = 1) (hd : decode cc pc = .ok (.pop, 1)) (k : G K Γ ω σ n ll (r)) (hn : n = pc + 1 := by rfl) : G K Γ ω σ pc ll (v :: r) := by
  subst hn
  obtain ⟨l, D, cy⟩ := K
  obtain ⟨p, e, R, s, m, args, below, meth, c, A, H0, Q⟩ := Γ
  obtain ⟨z, k9, n9, L⟩ := ω
  obtain ⟨⟨hx, hb, hml, hown, hts⟩, hrt, hlk, hK, hA, hR, hmn, hE⟩ := hC
  intro H locs ls hz hW hS hl
  exact lv_pop hx hb hd hv (k H locs ls hz hW hS hl)
theorem g_pop2 (hC : gC K Γ cc nL own mn d mc ms rt Po) {v : Value} (hv : v.category = 2) (hd : decode cc pc = .ok (.pop2, 1)) (k : G K Γ ω σ n ll (r)) (hn : n = pc + 1 := by rfl) : G K Γ ω σ pc ll (v :: r) := by
  subst hn
  obtain ⟨l, D, cy⟩ := K
  obtain ⟨p, e, R, s, m, args, below, meth, c, A, H0, Q⟩ := Γ
  obtain ⟨z, k9, n9, L⟩ := ω
  obtain ⟨⟨hx, hb, hml, hown, hts⟩, hrt, hlk, hK, hA, hR, hmn, hE⟩ := hC
  intro H locs ls hz hW hS hl
  exact lv_pop2_2 hx hb hd hv (k H locs ls hz hW hS hl)
theorem g_icmp_eq (hC : gC K Γ cc nL own mn d mc ms rt Po) {off : Int} {tgt : Nat} {x y : Int32} (hd : decode cc pc = .ok (.if_icmp .eq off, 3)) (kt : x = y → G K Γ ω σ tgt ll r) (kf : ¬ x = y → G K Γ ω σ n ll r) (ht : (pc : Int) + off = (tgt : Int) := by decide) (hn : n = pc + 3 := by rfl) : G K Γ ω σ pc ll (.int y :: .int x :: r) := by
  subst hn
  obtain ⟨l, D, cy⟩ := K
  obtain ⟨p, e, R, s, m, args, below, meth, c, A, H0, Q⟩ := Γ
  obtain ⟨z, k9, n9, L⟩ := ω
  obtain ⟨⟨hx, hb, hml, hown, hts⟩, hrt, hlk, hK, hA, hR, hmn, hE⟩ := hC
  intro H locs ls hz hW hS hl
  exact lv_icmp_eq hx hb hd ht (fun h => kt h H locs ls hz hW hS hl) (fun h => kf h H locs ls hz hW hS hl)
theorem g_if_eq (hC : gC K Γ cc nL own mn d mc ms rt Po) {off : Int} {tgt : Nat} {x : Int32} (hd : decode cc pc = .ok (.ifCond .eq off, 3)) (kt : x = 0 → G K Γ ω σ tgt ll r) (kf : ¬ x = 0 → G K Γ ω σ n ll r) (ht : (pc : Int) + off = (tgt : Int) := by decide) (hn : n = pc + 3 := by rfl) : G K Γ ω σ pc ll (.int x :: r) := by
  subst hn
  obtain ⟨l, D, cy⟩ := K
  obtain ⟨p, e, R, s, m, args, below, meth, c, A, H0, Q⟩ := Γ
  obtain ⟨z, k9, n9, L⟩ := ω
  obtain ⟨⟨hx, hb, hml, hown, hts⟩, hrt, hlk, hK, hA, hR, hmn, hE⟩ := hC
  intro H locs ls hz hW hS hl
  exact lv_if_eq hx hb hd ht (fun h => kt h H locs ls hz hW hS hl) (fun h => kf h H locs ls hz hW hS hl)
theorem g_icmp_eqN (hC : gC K Γ cc nL own mn d mc ms rt Po) {off : Int} {tgt : Nat} {a b : Nat} (ha : a < 2 ^ 31) (hb9 : b < 2 ^ 31) (hd : decode cc pc = .ok (.if_icmp .eq off, 3)) (kt : a = b → G K Γ ω σ tgt ll r) (kf : a ≠ b → G K Γ ω σ n ll r) (ht : (pc : Int) + off = (tgt : Int) := by decide) (hn : n = pc + 3 := by rfl) : G K Γ ω σ pc ll (.int (nI b) :: .int (nI a) :: r) := by
  subst hn
  obtain ⟨l, D, cy⟩ := K
  obtain ⟨p, e, R, s, m, args, below, meth, c, A, H0, Q⟩ := Γ
  obtain ⟨z, k9, n9, L⟩ := ω
  obtain ⟨⟨hx, hb, hml, hown, hts⟩, hrt, hlk, hK, hA, hR, hmn, hE⟩ := hC
  intro H locs ls hz hW hS hl
  exact lv_icmp_eq hx hb hd ht (fun h => kt ((nI_eq ha hb9).mp h) H locs ls hz hW hS hl) (fun h => kf (fun q => h ((nI_eq ha hb9).mpr q)) H locs ls hz hW hS hl)
theorem g_icmp_ne (hC : gC K Γ cc nL own mn d mc ms rt Po) {off : Int} {tgt : Nat} {x y : Int32} (hd : decode cc pc = .ok (.if_icmp .ne off, 3)) (kt : ¬ x = y → G K Γ ω σ tgt ll r) (kf : x = y → G K Γ ω σ n ll r) (ht : (pc : Int) + off = (tgt : Int) := by decide) (hn : n = pc + 3 := by rfl) : G K Γ ω σ pc ll (.int y :: .int x :: r) := by
  subst hn
  obtain ⟨l, D, cy⟩ := K
  obtain ⟨p, e, R, s, m, args, below, meth, c, A, H0, Q⟩ := Γ
  obtain ⟨z, k9, n9, L⟩ := ω
  obtain ⟨⟨hx, hb, hml, hown, hts⟩, hrt, hlk, hK, hA, hR, hmn, hE⟩ := hC
  intro H locs ls hz hW hS hl
  exact lv_icmp_ne hx hb hd ht (fun h => kt h H locs ls hz hW hS hl) (fun h => kf h H locs ls hz hW hS hl)
theorem g_if_ne (hC : gC K Γ cc nL own mn d mc ms rt Po) {off : Int} {tgt : Nat} {x : Int32} (hd : decode cc pc = .ok (.ifCond .ne off, 3)) (kt : ¬ x = 0 → G K Γ ω σ tgt ll r) (kf : x = 0 → G K Γ ω σ n ll r) (ht : (pc : Int) + off = (tgt : Int) := by decide) (hn : n = pc + 3 := by rfl) : G K Γ ω σ pc ll (.int x :: r) := by
  subst hn
  obtain ⟨l, D, cy⟩ := K
  obtain ⟨p, e, R, s, m, args, below, meth, c, A, H0, Q⟩ := Γ
  obtain ⟨z, k9, n9, L⟩ := ω
  obtain ⟨⟨hx, hb, hml, hown, hts⟩, hrt, hlk, hK, hA, hR, hmn, hE⟩ := hC
  intro H locs ls hz hW hS hl
  exact lv_if_ne hx hb hd ht (fun h => kt h H locs ls hz hW hS hl) (fun h => kf h H locs ls hz hW hS hl)
theorem g_icmp_neN (hC : gC K Γ cc nL own mn d mc ms rt Po) {off : Int} {tgt : Nat} {a b : Nat} (ha : a < 2 ^ 31) (hb9 : b < 2 ^ 31) (hd : decode cc pc = .ok (.if_icmp .ne off, 3)) (kt : a ≠ b → G K Γ ω σ tgt ll r) (kf : a = b → G K Γ ω σ n ll r) (ht : (pc : Int) + off = (tgt : Int) := by decide) (hn : n = pc + 3 := by rfl) : G K Γ ω σ pc ll (.int (nI b) :: .int (nI a) :: r) := by
  subst hn
  obtain ⟨l, D, cy⟩ := K
  obtain ⟨p, e, R, s, m, args, below, meth, c, A, H0, Q⟩ := Γ
  obtain ⟨z, k9, n9, L⟩ := ω
  obtain ⟨⟨hx, hb, hml, hown, hts⟩, hrt, hlk, hK, hA, hR, hmn, hE⟩ := hC
  intro H locs ls hz hW hS hl
  exact lv_icmp_ne hx hb hd ht (fun h => kt (fun q => h ((nI_eq ha hb9).mpr q)) H locs ls hz hW hS hl) (fun h => kf ((nI_eq ha hb9).mp h) H locs ls hz hW hS hl)
theorem g_icmp_lt (hC : gC K Γ cc nL own mn d mc ms rt Po) {off : Int} {tgt : Nat} {x y : Int32} (hd : decode cc pc = .ok (.if_icmp .lt off, 3)) (kt : x < y → G K Γ ω σ tgt ll r) (kf : ¬ x < y → G K Γ ω σ n ll r) (ht : (pc : Int) + off = (tgt : Int) := by decide) (hn : n = pc + 3 := by rfl) : G K Γ ω σ pc ll (.int y :: .int x :: r) := by
  subst hn
  obtain ⟨l, D, cy⟩ := K
  obtain ⟨p, e, R, s, m, args, below, meth, c, A, H0, Q⟩ := Γ
  obtain ⟨z, k9, n9, L⟩ := ω
  obtain ⟨⟨hx, hb, hml, hown, hts⟩, hrt, hlk, hK, hA, hR, hmn, hE⟩ := hC
  intro H locs ls hz hW hS hl
  exact lv_icmp_lt hx hb hd ht (fun h => kt h H locs ls hz hW hS hl) (fun h => kf h H locs ls hz hW hS hl)
theorem g_if_lt (hC : gC K Γ cc nL own mn d mc ms rt Po) {off : Int} {tgt : Nat} {x : Int32} (hd : decode cc pc = .ok (.ifCond .lt off, 3)) (kt : x < 0 → G K Γ ω σ tgt ll r) (kf : ¬ x < 0 → G K Γ ω σ n ll r) (ht : (pc : Int) + off = (tgt : Int) := by decide) (hn : n = pc + 3 := by rfl) : G K Γ ω σ pc ll (.int x :: r) := by
  subst hn
  obtain ⟨l, D, cy⟩ := K
  obtain ⟨p, e, R, s, m, args, below, meth, c, A, H0, Q⟩ := Γ
  obtain ⟨z, k9, n9, L⟩ := ω
  obtain ⟨⟨hx, hb, hml, hown, hts⟩, hrt, hlk, hK, hA, hR, hmn, hE⟩ := hC
  intro H locs ls hz hW hS hl
  exact lv_if_lt hx hb hd ht (fun h => kt h H locs ls hz hW hS hl) (fun h => kf h H locs ls hz hW hS hl)
theorem g_icmp_ltN (hC : gC K Γ cc nL own mn d mc ms rt Po) {off : Int} {tgt : Nat} {a b : Nat} (ha : a < 2 ^ 31) (hb9 : b < 2 ^ 31) (hd : decode cc pc = .ok (.if_icmp .lt off, 3)) (kt : a < b → G K Γ ω σ tgt ll r) (kf : b ≤ a → G K Γ ω σ n ll r) (ht : (pc : Int) + off = (tgt : Int) := by decide) (hn : n = pc + 3 := by rfl) : G K Γ ω σ pc ll (.int (nI b) :: .int (nI a) :: r) := by
  subst hn
  obtain ⟨l, D, cy⟩ := K
  obtain ⟨p, e, R, s, m, args, below, meth, c, A, H0, Q⟩ := Γ
  obtain ⟨z, k9, n9, L⟩ := ω
  obtain ⟨⟨hx, hb, hml, hown, hts⟩, hrt, hlk, hK, hA, hR, hmn, hE⟩ := hC
  intro H locs ls hz hW hS hl
  exact lv_icmp_lt hx hb hd ht (fun h => kt ((nI_ltI ha hb9).mp h) H locs ls hz hW hS hl) (fun h => kf (Nat.not_lt.mp (fun q => h ((nI_ltI ha hb9).mpr q))) H locs ls hz hW hS hl)
theorem g_icmp_ge (hC : gC K Γ cc nL own mn d mc ms rt Po) {off : Int} {tgt : Nat} {x y : Int32} (hd : decode cc pc = .ok (.if_icmp .ge off, 3)) (kt : y ≤ x → G K Γ ω σ tgt ll r) (kf : ¬ y ≤ x → G K Γ ω σ n ll r) (ht : (pc : Int) + off = (tgt : Int) := by decide) (hn : n = pc + 3 := by rfl) : G K Γ ω σ pc ll (.int y :: .int x :: r) := by
  subst hn
  obtain ⟨l, D, cy⟩ := K
  obtain ⟨p, e, R, s, m, args, below, meth, c, A, H0, Q⟩ := Γ
  obtain ⟨z, k9, n9, L⟩ := ω
  obtain ⟨⟨hx, hb, hml, hown, hts⟩, hrt, hlk, hK, hA, hR, hmn, hE⟩ := hC
  intro H locs ls hz hW hS hl
  exact lv_icmp_ge hx hb hd ht (fun h => kt h H locs ls hz hW hS hl) (fun h => kf h H locs ls hz hW hS hl)
theorem g_if_ge (hC : gC K Γ cc nL own mn d mc ms rt Po) {off : Int} {tgt : Nat} {x : Int32} (hd : decode cc pc = .ok (.ifCond .ge off, 3)) (kt : 0 ≤ x → G K Γ ω σ tgt ll r) (kf : ¬ 0 ≤ x → G K Γ ω σ n ll r) (ht : (pc : Int) + off = (tgt : Int) := by decide) (hn : n = pc + 3 := by rfl) : G K Γ ω σ pc ll (.int x :: r) := by
  subst hn
  obtain ⟨l, D, cy⟩ := K
  obtain ⟨p, e, R, s, m, args, below, meth, c, A, H0, Q⟩ := Γ
  obtain ⟨z, k9, n9, L⟩ := ω
  obtain ⟨⟨hx, hb, hml, hown, hts⟩, hrt, hlk, hK, hA, hR, hmn, hE⟩ := hC
  intro H locs ls hz hW hS hl
  exact lv_if_ge hx hb hd ht (fun h => kt h H locs ls hz hW hS hl) (fun h => kf h H locs ls hz hW hS hl)
theorem g_icmp_geN (hC : gC K Γ cc nL own mn d mc ms rt Po) {off : Int} {tgt : Nat} {a b : Nat} (ha : a < 2 ^ 31) (hb9 : b < 2 ^ 31) (hd : decode cc pc = .ok (.if_icmp .ge off, 3)) (kt : b ≤ a → G K Γ ω σ tgt ll r) (kf : a < b → G K Γ ω σ n ll r) (ht : (pc : Int) + off = (tgt : Int) := by decide) (hn : n = pc + 3 := by rfl) : G K Γ ω σ pc ll (.int (nI b) :: .int (nI a) :: r) := by
  subst hn
  obtain ⟨l, D, cy⟩ := K
  obtain ⟨p, e, R, s, m, args, below, meth, c, A, H0, Q⟩ := Γ
  obtain ⟨z, k9, n9, L⟩ := ω
  obtain ⟨⟨hx, hb, hml, hown, hts⟩, hrt, hlk, hK, hA, hR, hmn, hE⟩ := hC
  intro H locs ls hz hW hS hl
  exact lv_icmp_ge hx hb hd ht (fun h => kt ((nI_leI hb9 ha).mp h) H locs ls hz hW hS hl) (fun h => kf (Nat.not_le.mp (fun q => h ((nI_leI hb9 ha).mpr q))) H locs ls hz hW hS hl)
theorem g_icmp_gt (hC : gC K Γ cc nL own mn d mc ms rt Po) {off : Int} {tgt : Nat} {x y : Int32} (hd : decode cc pc = .ok (.if_icmp .gt off, 3)) (kt : y < x → G K Γ ω σ tgt ll r) (kf : ¬ y < x → G K Γ ω σ n ll r) (ht : (pc : Int) + off = (tgt : Int) := by decide) (hn : n = pc + 3 := by rfl) : G K Γ ω σ pc ll (.int y :: .int x :: r) := by
  subst hn
  obtain ⟨l, D, cy⟩ := K
  obtain ⟨p, e, R, s, m, args, below, meth, c, A, H0, Q⟩ := Γ
  obtain ⟨z, k9, n9, L⟩ := ω
  obtain ⟨⟨hx, hb, hml, hown, hts⟩, hrt, hlk, hK, hA, hR, hmn, hE⟩ := hC
  intro H locs ls hz hW hS hl
  exact lv_icmp_gt hx hb hd ht (fun h => kt h H locs ls hz hW hS hl) (fun h => kf h H locs ls hz hW hS hl)
theorem g_if_gt (hC : gC K Γ cc nL own mn d mc ms rt Po) {off : Int} {tgt : Nat} {x : Int32} (hd : decode cc pc = .ok (.ifCond .gt off, 3)) (kt : 0 < x → G K Γ ω σ tgt ll r) (kf : ¬ 0 < x → G K Γ ω σ n ll r) (ht : (pc : Int) + off = (tgt : Int) := by decide) (hn : n = pc + 3 := by rfl) : G K Γ ω σ pc ll (.int x :: r) := by
  subst hn
  obtain ⟨l, D, cy⟩ := K
  obtain ⟨p, e, R, s, m, args, below, meth, c, A, H0, Q⟩ := Γ
  obtain ⟨z, k9, n9, L⟩ := ω
  obtain ⟨⟨hx, hb, hml, hown, hts⟩, hrt, hlk, hK, hA, hR, hmn, hE⟩ := hC
  intro H locs ls hz hW hS hl
  exact lv_if_gt hx hb hd ht (fun h => kt h H locs ls hz hW hS hl) (fun h => kf h H locs ls hz hW hS hl)
theorem g_icmp_gtN (hC : gC K Γ cc nL own mn d mc ms rt Po) {off : Int} {tgt : Nat} {a b : Nat} (ha : a < 2 ^ 31) (hb9 : b < 2 ^ 31) (hd : decode cc pc = .ok (.if_icmp .gt off, 3)) (kt : b < a → G K Γ ω σ tgt ll r) (kf : a ≤ b → G K Γ ω σ n ll r) (ht : (pc : Int) + off = (tgt : Int) := by decide) (hn : n = pc + 3 := by rfl) : G K Γ ω σ pc ll (.int (nI b) :: .int (nI a) :: r) := by
  subst hn
  obtain ⟨l, D, cy⟩ := K
  obtain ⟨p, e, R, s, m, args, below, meth, c, A, H0, Q⟩ := Γ
  obtain ⟨z, k9, n9, L⟩ := ω
  obtain ⟨⟨hx, hb, hml, hown, hts⟩, hrt, hlk, hK, hA, hR, hmn, hE⟩ := hC
  intro H locs ls hz hW hS hl
  exact lv_icmp_gt hx hb hd ht (fun h => kt ((nI_ltI hb9 ha).mp h) H locs ls hz hW hS hl) (fun h => kf (Nat.not_lt.mp (fun q => h ((nI_ltI hb9 ha).mpr q))) H locs ls hz hW hS hl)
theorem g_icmp_le (hC : gC K Γ cc nL own mn d mc ms rt Po) {off : Int} {tgt : Nat} {x y : Int32} (hd : decode cc pc = .ok (.if_icmp .le off, 3)) (kt : x ≤ y → G K Γ ω σ tgt ll r) (kf : ¬ x ≤ y → G K Γ ω σ n ll r) (ht : (pc : Int) + off = (tgt : Int) := by decide) (hn : n = pc + 3 := by rfl) : G K Γ ω σ pc ll (.int y :: .int x :: r) := by
  subst hn
  obtain ⟨l, D, cy⟩ := K
  obtain ⟨p, e, R, s, m, args, below, meth, c, A, H0, Q⟩ := Γ
  obtain ⟨z, k9, n9, L⟩ := ω
  obtain ⟨⟨hx, hb, hml, hown, hts⟩, hrt, hlk, hK, hA, hR, hmn, hE⟩ := hC
  intro H locs ls hz hW hS hl
  exact lv_icmp_le hx hb hd ht (fun h => kt h H locs ls hz hW hS hl) (fun h => kf h H locs ls hz hW hS hl)
theorem g_if_le (hC : gC K Γ cc nL own mn d mc ms rt Po) {off : Int} {tgt : Nat} {x : Int32} (hd : decode cc pc = .ok (.ifCond .le off, 3)) (kt : x ≤ 0 → G K Γ ω σ tgt ll r) (kf : ¬ x ≤ 0 → G K Γ ω σ n ll r) (ht : (pc : Int) + off = (tgt : Int) := by decide) (hn : n = pc + 3 := by rfl) : G K Γ ω σ pc ll (.int x :: r) := by
  subst hn
  obtain ⟨l, D, cy⟩ := K
  obtain ⟨p, e, R, s, m, args, below, meth, c, A, H0, Q⟩ := Γ
  obtain ⟨z, k9, n9, L⟩ := ω
  obtain ⟨⟨hx, hb, hml, hown, hts⟩, hrt, hlk, hK, hA, hR, hmn, hE⟩ := hC
  intro H locs ls hz hW hS hl
  exact lv_if_le hx hb hd ht (fun h => kt h H locs ls hz hW hS hl) (fun h => kf h H locs ls hz hW hS hl)
theorem g_icmp_leN (hC : gC K Γ cc nL own mn d mc ms rt Po) {off : Int} {tgt : Nat} {a b : Nat} (ha : a < 2 ^ 31) (hb9 : b < 2 ^ 31) (hd : decode cc pc = .ok (.if_icmp .le off, 3)) (kt : a ≤ b → G K Γ ω σ tgt ll r) (kf : b < a → G K Γ ω σ n ll r) (ht : (pc : Int) + off = (tgt : Int) := by decide) (hn : n = pc + 3 := by rfl) : G K Γ ω σ pc ll (.int (nI b) :: .int (nI a) :: r) := by
  subst hn
  obtain ⟨l, D, cy⟩ := K
  obtain ⟨p, e, R, s, m, args, below, meth, c, A, H0, Q⟩ := Γ
  obtain ⟨z, k9, n9, L⟩ := ω
  obtain ⟨⟨hx, hb, hml, hown, hts⟩, hrt, hlk, hK, hA, hR, hmn, hE⟩ := hC
  intro H locs ls hz hW hS hl
  exact lv_icmp_le hx hb hd ht (fun h => kt ((nI_leI ha hb9).mp h) H locs ls hz hW hS hl) (fun h => kf (Nat.not_le.mp (fun q => h ((nI_leI ha hb9).mpr q))) H locs ls hz hW hS hl)
theorem g_goto (hC : gC K Γ cc nL own mn d mc ms rt Po) {off : Int} (hd : decode cc pc = .ok (.goto off, 3)) (k : G K Γ ω σ n ll r) (ht : (pc : Int) + off = (n : Int) := by decide) : G K Γ ω σ pc ll r := by
  obtain ⟨l, D, cy⟩ := K
  obtain ⟨p, e, R, s, m, args, below, meth, c, A, H0, Q⟩ := Γ
  obtain ⟨z, k9, n9, L⟩ := ω
  obtain ⟨⟨hx, hb, hml, hown, hts⟩, hrt, hlk, hK, hA, hR, hmn, hE⟩ := hC
  intro H locs ls hz hW hS hl
  exact lv_goto hx hb hd ht (k H locs ls hz hW hS hl)
theorem g_cmp_c (x y : Int64) : lg_cmp x y = 0 ∧ x = y ∨ lg_cmp x y = -1 ∧ x < y ∨ lg_cmp x y = 1 ∧ y < x := by
  simp only [lg_cmp]
  by_cases h1 : x < y
  · have : ¬ y < x := fun h => by rw [Int64.lt_iff_toInt_lt] at h h1; omega
    exact Or.inr (Or.inl ⟨by rw [if_neg this, if_neg (fun e => by rw [e] at h1; exact absurd h1 Int64.lt_irrefl)], h1⟩)
  · by_cases h2 : x = y
    · simp [h2]
    · have h3 : y < x := by
        rw [Int64.lt_iff_toInt_lt] at h1 ⊢
        have : x.toInt ≠ y.toInt := fun e => h2 (Int64.toInt_inj.mp e)
        omega
      simp [h1, h2, h3]
theorem g_lcmp_eq (hC : gC K Γ cc nL own mn d mc ms rt Po) {off : Int} {tgt : Nat} {x y : Int64} (hd0 : decode cc pc = .ok (.lcmp, 1)) (hd : decode cc (pc + 1) = .ok (.ifCond .eq off, 3)) (kt : x = y → G K Γ ω σ tgt ll r) (kf : ¬ x = y → G K Γ ω σ n ll r) (ht : ((pc + 1 : Nat) : Int) + off = (tgt : Int) := by decide) (hn : n = pc + 4 := by rfl) : G K Γ ω σ pc ll (.long y :: .long x :: r) := by
  subst hn
  obtain ⟨l, D, cy⟩ := K
  obtain ⟨p, e, R, s, m, args, below, meth, c, A, H0, Q⟩ := Γ
  obtain ⟨z, k9, n9, L⟩ := ω
  obtain ⟨⟨hx, hb, hml, hown, hts⟩, hrt, hlk, hK, hA, hR, hmn, hE⟩ := hC
  intro H locs ls hz hW hS hl
  refine W.lcmp hx hb hd0 (lv_if_eq hx hb hd ht (fun h => kt ?_ H locs ls hz hW hS hl) (fun h => kf ?_ H locs ls hz hW hS hl)) <;> rcases g_cmp_c x y with ⟨e, q⟩ | ⟨e, q⟩ | ⟨e, q⟩ <;> rw [e] at h <;> first | exact absurd h (by decide) | exact q | exact absurd (show _ from by decide) h | (rw [Int64.lt_iff_toInt_lt] at q; first | (rw [Int64.lt_iff_toInt_lt]; omega) | (rw [Int64.le_iff_toInt_le]; omega) | (intro z9; rw [Int64.lt_iff_toInt_lt] at z9; omega) | (intro z9; rw [Int64.le_iff_toInt_le] at z9; omega) | (intro z9; rw [z9] at q; omega)) | (rw [q]; first | exact Int64.le_refl _ | exact Int64.lt_irrefl) | (intro z9; exact absurd z9 (by rw [q]; first | exact Int64.lt_irrefl))
theorem g_lcmp_ne (hC : gC K Γ cc nL own mn d mc ms rt Po) {off : Int} {tgt : Nat} {x y : Int64} (hd0 : decode cc pc = .ok (.lcmp, 1)) (hd : decode cc (pc + 1) = .ok (.ifCond .ne off, 3)) (kt : ¬ x = y → G K Γ ω σ tgt ll r) (kf : x = y → G K Γ ω σ n ll r) (ht : ((pc + 1 : Nat) : Int) + off = (tgt : Int) := by decide) (hn : n = pc + 4 := by rfl) : G K Γ ω σ pc ll (.long y :: .long x :: r) := by
  subst hn
  obtain ⟨l, D, cy⟩ := K
  obtain ⟨p, e, R, s, m, args, below, meth, c, A, H0, Q⟩ := Γ
  obtain ⟨z, k9, n9, L⟩ := ω
  obtain ⟨⟨hx, hb, hml, hown, hts⟩, hrt, hlk, hK, hA, hR, hmn, hE⟩ := hC
  intro H locs ls hz hW hS hl
  refine W.lcmp hx hb hd0 (lv_if_ne hx hb hd ht (fun h => kt ?_ H locs ls hz hW hS hl) (fun h => kf ?_ H locs ls hz hW hS hl)) <;> rcases g_cmp_c x y with ⟨e, q⟩ | ⟨e, q⟩ | ⟨e, q⟩ <;> rw [e] at h <;> first | exact absurd h (by decide) | exact q | exact absurd (show _ from by decide) h | (rw [Int64.lt_iff_toInt_lt] at q; first | (rw [Int64.lt_iff_toInt_lt]; omega) | (rw [Int64.le_iff_toInt_le]; omega) | (intro z9; rw [Int64.lt_iff_toInt_lt] at z9; omega) | (intro z9; rw [Int64.le_iff_toInt_le] at z9; omega) | (intro z9; rw [z9] at q; omega)) | (rw [q]; first | exact Int64.le_refl _ | exact Int64.lt_irrefl) | (intro z9; exact absurd z9 (by rw [q]; first | exact Int64.lt_irrefl))
theorem g_lcmp_lt (hC : gC K Γ cc nL own mn d mc ms rt Po) {off : Int} {tgt : Nat} {x y : Int64} (hd0 : decode cc pc = .ok (.lcmp, 1)) (hd : decode cc (pc + 1) = .ok (.ifCond .lt off, 3)) (kt : x < y → G K Γ ω σ tgt ll r) (kf : ¬ x < y → G K Γ ω σ n ll r) (ht : ((pc + 1 : Nat) : Int) + off = (tgt : Int) := by decide) (hn : n = pc + 4 := by rfl) : G K Γ ω σ pc ll (.long y :: .long x :: r) := by
  subst hn
  obtain ⟨l, D, cy⟩ := K
  obtain ⟨p, e, R, s, m, args, below, meth, c, A, H0, Q⟩ := Γ
  obtain ⟨z, k9, n9, L⟩ := ω
  obtain ⟨⟨hx, hb, hml, hown, hts⟩, hrt, hlk, hK, hA, hR, hmn, hE⟩ := hC
  intro H locs ls hz hW hS hl
  refine W.lcmp hx hb hd0 (lv_if_lt hx hb hd ht (fun h => kt ?_ H locs ls hz hW hS hl) (fun h => kf ?_ H locs ls hz hW hS hl)) <;> rcases g_cmp_c x y with ⟨e, q⟩ | ⟨e, q⟩ | ⟨e, q⟩ <;> rw [e] at h <;> first | exact absurd h (by decide) | exact q | exact absurd (show _ from by decide) h | (rw [Int64.lt_iff_toInt_lt] at q; first | (rw [Int64.lt_iff_toInt_lt]; omega) | (rw [Int64.le_iff_toInt_le]; omega) | (intro z9; rw [Int64.lt_iff_toInt_lt] at z9; omega) | (intro z9; rw [Int64.le_iff_toInt_le] at z9; omega) | (intro z9; rw [z9] at q; omega)) | (rw [q]; first | exact Int64.le_refl _ | exact Int64.lt_irrefl) | (intro z9; exact absurd z9 (by rw [q]; first | exact Int64.lt_irrefl))
theorem g_lcmp_ge (hC : gC K Γ cc nL own mn d mc ms rt Po) {off : Int} {tgt : Nat} {x y : Int64} (hd0 : decode cc pc = .ok (.lcmp, 1)) (hd : decode cc (pc + 1) = .ok (.ifCond .ge off, 3)) (kt : y ≤ x → G K Γ ω σ tgt ll r) (kf : ¬ y ≤ x → G K Γ ω σ n ll r) (ht : ((pc + 1 : Nat) : Int) + off = (tgt : Int) := by decide) (hn : n = pc + 4 := by rfl) : G K Γ ω σ pc ll (.long y :: .long x :: r) := by
  subst hn
  obtain ⟨l, D, cy⟩ := K
  obtain ⟨p, e, R, s, m, args, below, meth, c, A, H0, Q⟩ := Γ
  obtain ⟨z, k9, n9, L⟩ := ω
  obtain ⟨⟨hx, hb, hml, hown, hts⟩, hrt, hlk, hK, hA, hR, hmn, hE⟩ := hC
  intro H locs ls hz hW hS hl
  refine W.lcmp hx hb hd0 (lv_if_ge hx hb hd ht (fun h => kt ?_ H locs ls hz hW hS hl) (fun h => kf ?_ H locs ls hz hW hS hl)) <;> rcases g_cmp_c x y with ⟨e, q⟩ | ⟨e, q⟩ | ⟨e, q⟩ <;> rw [e] at h <;> first | exact absurd h (by decide) | exact q | exact absurd (show _ from by decide) h | (rw [Int64.lt_iff_toInt_lt] at q; first | (rw [Int64.lt_iff_toInt_lt]; omega) | (rw [Int64.le_iff_toInt_le]; omega) | (intro z9; rw [Int64.lt_iff_toInt_lt] at z9; omega) | (intro z9; rw [Int64.le_iff_toInt_le] at z9; omega) | (intro z9; rw [z9] at q; omega)) | (rw [q]; first | exact Int64.le_refl _ | exact Int64.lt_irrefl) | (intro z9; exact absurd z9 (by rw [q]; first | exact Int64.lt_irrefl))
theorem g_lcmp_gt (hC : gC K Γ cc nL own mn d mc ms rt Po) {off : Int} {tgt : Nat} {x y : Int64} (hd0 : decode cc pc = .ok (.lcmp, 1)) (hd : decode cc (pc + 1) = .ok (.ifCond .gt off, 3)) (kt : y < x → G K Γ ω σ tgt ll r) (kf : ¬ y < x → G K Γ ω σ n ll r) (ht : ((pc + 1 : Nat) : Int) + off = (tgt : Int) := by decide) (hn : n = pc + 4 := by rfl) : G K Γ ω σ pc ll (.long y :: .long x :: r) := by
  subst hn
  obtain ⟨l, D, cy⟩ := K
  obtain ⟨p, e, R, s, m, args, below, meth, c, A, H0, Q⟩ := Γ
  obtain ⟨z, k9, n9, L⟩ := ω
  obtain ⟨⟨hx, hb, hml, hown, hts⟩, hrt, hlk, hK, hA, hR, hmn, hE⟩ := hC
  intro H locs ls hz hW hS hl
  refine W.lcmp hx hb hd0 (lv_if_gt hx hb hd ht (fun h => kt ?_ H locs ls hz hW hS hl) (fun h => kf ?_ H locs ls hz hW hS hl)) <;> rcases g_cmp_c x y with ⟨e, q⟩ | ⟨e, q⟩ | ⟨e, q⟩ <;> rw [e] at h <;> first | exact absurd h (by decide) | exact q | exact absurd (show _ from by decide) h | (rw [Int64.lt_iff_toInt_lt] at q; first | (rw [Int64.lt_iff_toInt_lt]; omega) | (rw [Int64.le_iff_toInt_le]; omega) | (intro z9; rw [Int64.lt_iff_toInt_lt] at z9; omega) | (intro z9; rw [Int64.le_iff_toInt_le] at z9; omega) | (intro z9; rw [z9] at q; omega)) | (rw [q]; first | exact Int64.le_refl _ | exact Int64.lt_irrefl) | (intro z9; exact absurd z9 (by rw [q]; first | exact Int64.lt_irrefl))
theorem g_lcmp_le (hC : gC K Γ cc nL own mn d mc ms rt Po) {off : Int} {tgt : Nat} {x y : Int64} (hd0 : decode cc pc = .ok (.lcmp, 1)) (hd : decode cc (pc + 1) = .ok (.ifCond .le off, 3)) (kt : x ≤ y → G K Γ ω σ tgt ll r) (kf : ¬ x ≤ y → G K Γ ω σ n ll r) (ht : ((pc + 1 : Nat) : Int) + off = (tgt : Int) := by decide) (hn : n = pc + 4 := by rfl) : G K Γ ω σ pc ll (.long y :: .long x :: r) := by
  subst hn
  obtain ⟨l, D, cy⟩ := K
  obtain ⟨p, e, R, s, m, args, below, meth, c, A, H0, Q⟩ := Γ
  obtain ⟨z, k9, n9, L⟩ := ω
  obtain ⟨⟨hx, hb, hml, hown, hts⟩, hrt, hlk, hK, hA, hR, hmn, hE⟩ := hC
  intro H locs ls hz hW hS hl
  refine W.lcmp hx hb hd0 (lv_if_le hx hb hd ht (fun h => kt ?_ H locs ls hz hW hS hl) (fun h => kf ?_ H locs ls hz hW hS hl)) <;> rcases g_cmp_c x y with ⟨e, q⟩ | ⟨e, q⟩ | ⟨e, q⟩ <;> rw [e] at h <;> first | exact absurd h (by decide) | exact q | exact absurd (show _ from by decide) h | (rw [Int64.lt_iff_toInt_lt] at q; first | (rw [Int64.lt_iff_toInt_lt]; omega) | (rw [Int64.le_iff_toInt_le]; omega) | (intro z9; rw [Int64.lt_iff_toInt_lt] at z9; omega) | (intro z9; rw [Int64.le_iff_toInt_le] at z9; omega) | (intro z9; rw [z9] at q; omega)) | (rw [q]; first | exact Int64.le_refl _ | exact Int64.lt_irrefl) | (intro z9; exact absurd z9 (by rw [q]; first | exact Int64.lt_irrefl))
end GR
/-- what a site of the code links, of the tables' words -/
def gFld (own : String) (index ci k : Nat) : Prop := ∃ (C : String) (T : u_T) (N : Nat), vwCl[ci]? = some (C, T, N) ∧ k < N ∧ (∀ w ∈ u_ws C T N, w ∈ gTs) ∧ Cond.fieldLink own index (T k).1 (T k).2.1 (T k).2.2.1 ∈ gTs
def gPut (own : String) (index ci k : Nat) (fin : Bool) (ty : FieldType) : Prop := ∃ (C : String) (T : u_T) (N : Nat) (ty0 : Nat → FieldType), vwCl[ci]? = some (C, T, N) ∧ k < N ∧ (∀ w ∈ u_ws C T N, w ∈ gTs) ∧ Cond.fieldLink own index (T k).1 (T k).2.1 (T k).2.2.1 ∈ gTs ∧ (∀ k, k < N → parseFieldDescriptor (T k).2.2.1 = some (ty0 k)) ∧ (∀ a, a < N → ∀ b, b < N → a ≠ b → (T a).2.1 ≠ (T b).2.1) ∧ (T k).2.2.2 = fin ∧ parseFieldDescriptor (T k).2.2.1 = some ty ∧ (T k).1 = C
def gNew (own : String) (index ci : Nat) (N : Nat) (fs : List Value) : Prop := ∃ (C : String) (T : u_T) (ty0 : Nat → FieldType), vwCl[ci]? = some (C, T, N) ∧ (∀ w ∈ u_ws C T N, w ∈ gTs) ∧ (∀ k, k < N → parseFieldDescriptor (T k).2.2.1 = some (ty0 k)) ∧ Cond.classLink own index C ∈ gTs ∧ Cond.instantiable C N ∈ gTs ∧ Cond.initialized C ∈ gTs ∧ (∀ j, j < N → defaultValue (ty0 j) = vp_V fs j)
def gYd (y : MethodName) (n : Nat) : Prop := y.cls ≠ "java/lang/invoke/MethodHandle" ∧ y.cls ≠ "java/lang/invoke/VarHandle" ∧ (parseMethodDescriptor y.desc).map (fun d => d.parameters.length) = some n
def gVir (own : String) (index : Nat) (C : String) (y : MethodName) (b : ByteArray) (nL : Nat) (rt : Option FieldType) (n : Nat) : Prop := Cond.methodLink own index y ∈ gTs ∧ Cond.instanceMethod y ∈ gTs ∧ Cond.selects C y y ∈ gTs ∧ Cond.initialized y.cls ∈ gTs ∧ Cond.code y b nL rt ∈ gTs ∧ gYd y n
def gSta (own : String) (index : Nat) (y : MethodName) (b : ByteArray) (nL : Nat) (rt : Option FieldType) (n : Nat) : Prop := Cond.methodLink own index y ∈ gTs ∧ Cond.static y ∈ gTs ∧ Cond.initialized y.cls ∈ gTs ∧ Cond.code y b nL rt ∈ gTs ∧ gYd y n
def gIni (own : String) (index : Nat) (y : MethodName) (b : ByteArray) (nL : Nat) (n : Nat) : Prop := Cond.methodLink own index y ∈ gTs ∧ Cond.instanceMethod y ∈ gTs ∧ Cond.initialized y.cls ∈ gTs ∧ Cond.code y b nL none ∈ gTs ∧ gYd y n ∧ y.name = "<init>"
def gIniN (own : String) (index : Nat) (y : MethodName) (host : String) (b : ByteArray) (nL : Nat) (n : Nat) : Prop := Cond.methodLinkNest own index y host ∈ lw_tbl ∧ Cond.instanceMethod y ∈ gTs ∧ Cond.initialized y.cls ∈ gTs ∧ Cond.code y b nL none ∈ gTs ∧ gYd y n ∧ y.name = "<init>"
/-- arrays as cells -/
abbrev iA (K : GK) (n : Nat) (f : Nat → Int32) : va_E := .inl (K.2.2 0, n, .inl f)
abbrev lA (K : GK) (n : Nat) (f : Nat → Int64) : va_E := .inl (K.2.2 1, n, .inr (.inl f))
abbrev cA (K : GK) (n : Nat) (f : Nat → Int32) : va_E := .inl (K.2.2 2, n, .inl f)
abbrev rA (K : GK) (n : Nat) (f : Nat → Option Nat) : va_E := .inl (K.2.2 3, n, .inr (.inr (.inr (.inr f))))
abbrev dA (K : GK) (n : Nat) (f : Nat → UInt64) : va_E := .inl (K.2.2 4, n, .inr (.inr (.inr (.inl f))))
theorem g_pk {L : List Nat} {σ : GS} {a : Nat} {e : va_E} (ha : a ∈ L) (he : σ a = e) : ∃ q : Nat, (va_pl L σ)[q]? = some (a, e) := by
  obtain ⟨k, hk⟩ := va_pl_get (X := []) (f := σ) ha
  exact ⟨k, by rw [← he]; exact hk⟩
theorem g_pk_up {A : Nat → Prop} {L : List Nat} {σ : GS} {a q : Nat} {e e1 : va_E} (hD : va_D A (va_pl L σ)) (ha : a ∈ L) (he : σ a = e) (hq : (va_pl L σ)[q]? = some (a, e)) : (va_pl L σ).set q (a, e1) = va_pl L (va_up σ a e1) :=
  va_pl_set (X := []) hD ha (by rw [he]; exact hq)
theorem gW.up {D : va_G} {A : Nat → Prop} {L : List Nat} {σ : GS} {H H1 : Heap} {a : Nat} {e : va_E} (h : gW D A L σ H) (ha : a ∈ L) (he : va_at D vwCl (a, e) H1) (ho : ∀ q : Nat, q ≠ a → H1[q]? = H[q]?) : gW D A L (va_up σ a e) H1 := by
  obtain ⟨q, hq⟩ := g_pk ha (rfl : σ a = σ a)
  rw [gW, ← g_pk_up (e1 := e) h.2 ha rfl hq]
  exact ⟨h.1.set h.2 hq he ho, h.2.set hq⟩
theorem gW.A {D : va_G} {A : Nat → Prop} {L : List Nat} {σ : GS} {H : Heap} {a : Nat} (h : gW D A L σ H) (ha : a ∈ L) : A a := by
  obtain ⟨q, hq⟩ := g_pk ha (rfl : σ a = σ a)
  exact h.2.2 q _ hq
theorem gW.at {D : va_G} {A : Nat → Prop} {L : List Nat} {σ : GS} {H : Heap} {a : Nat} (h : gW D A L σ H) (ha : a ∈ L) : va_at D vwCl (a, σ a) H := by
  obtain ⟨q, hq⟩ := g_pk ha (rfl : σ a = σ a)
  exact h.1 q _ hq
theorem gW.lt {D : va_G} {A : Nat → Prop} {L : List Nat} {σ : GS} {H : Heap} {a : Nat} (h : gW D A L σ H) (ha : a ∈ L) : a < H.size := (h.at ha).lt
theorem gW.weaken {D : va_G} {A B : Nat → Prop} {L : List Nat} {σ : GS} {H : Heap} (h : gW D A L σ H) (hB : ∀ a ∈ L, B a) : gW D B L σ H := by
  refine ⟨h.1, h.2.weaken (fun k q hk _ => ?_)⟩
  obtain ⟨b, hb, rfl⟩ := List.mem_map.mp (List.mem_of_getElem? hk)
  exact hB b hb
theorem gW.push {D : va_G} {A : Nat → Prop} {L : List Nat} {σ : GS} {H H1 : Heap} {e : va_E} (h : gW D A L σ H) (hA : A H.size) (he : va_at D vwCl (H.size, e) H1) (ho : ∀ q : Nat, q < H.size → H1[q]? = H[q]?) : gW D A (L ++ [H.size]) (va_up σ H.size e) H1 := by
  have hn : H.size ∉ L := fun q => absurd (h.lt q) (Nat.lt_irrefl _)
  rw [gW, ← va_pl_push hn]
  refine ⟨va_P.app (h.1.kept (fun k q hk => ho _ ((h.1 k q hk).lt))) (fun k q hk => ?_), h.2.push h.1 rfl hA⟩
  have hz : k < 1 := (List.getElem?_eq_some_iff.mp hk).1
  rw [show k = 0 by omega] at hk
  cases hk
  exact he
theorem gW.kept {D : va_G} {A : Nat → Prop} {L : List Nat} {σ : GS} {H H1 : Heap} (h : gW D A L σ H) (ho : ∀ q : Nat, q ∈ L → H1[q]? = H[q]?) : gW D A L σ H1 := by
  refine ⟨h.1.kept (fun k q hk => ?_), h.2⟩
  obtain ⟨b, hb, rfl⟩ := List.mem_map.mp (List.mem_of_getElem? hk)
  exact ho b hb
section GS1
variable {K : GK} {Γ : GX} {cc : ByteArray} {nL d mc ms : Nat} {own mn : String} {rt : Option FieldType} {Po : GP} {ω : GO} {σ : GS} {pc n : Nat} {ll ll1 : List (Option Value)} {r : List Value} {rest : List Value}
theorem g_getf (hC : gC K Γ cc nL own mn d mc ms rt Po) {index ci k a : Nat} {fs : List Value} {v : Value} (hF : gFld own index ci k) (ha : a ∈ ω.2.2.2) (hσ : σ a = .inr (ci, fs)) (hv : fs[k]? = some v) (hd : decode cc pc = .ok (.getfield index, 3)) (kk : G K Γ ω σ n ll (v :: r)) (hn : n = pc + 3 := by rfl) : G K Γ ω σ pc ll (.ref a :: r) := by
  subst hn
  obtain ⟨l, D, cy⟩ := K
  obtain ⟨p, e, R, s, m, args, below, meth, c, A, H0, Q⟩ := Γ
  obtain ⟨z, k9, n9, L⟩ := ω
  obtain ⟨⟨hx, hb, hml, hown, hts⟩, hrt, hlk, hK, hA, hR, hmn, hE⟩ := hC
  intro H locs ls hz hW hS hl
  obtain ⟨C, T, N, hc, hk, hin, hlink⟩ := hF
  obtain ⟨q0, hq⟩ := g_pk ha hσ
  exact va_get (D := D) (C := C) (T := T) (N := N) hx hb hts hin hown hK hW.1 q0 hq hc k hk (hts _ hlink) (fun _ h9 => h9) hv hd (kk H locs ls hz hW hS hl)
theorem g_putf (hC : gC K Γ cc nL own mn d mc ms rt Po) {index ci k a : Nat} {fs : List Value} {v : Value} {ty : FieldType} (hF : gPut own index ci k false ty)  (ha : a ∈ ω.2.2.2) (hσ : σ a = .inr (ci, fs)) (hd : decode cc pc = .ok (.putfield index, 3)) (kk : G K Γ ω (va_up σ a (.inr (ci, fs.set k v))) n ll r) (hl0 : k < fs.length := by decide) (hnv : narrow ty v = v := by rfl) (hfit : fits ty v = true := by rfl) (hn : n = pc + 3 := by rfl) : G K Γ ω σ pc ll (v :: .ref a :: r) := by
  subst hn
  obtain ⟨l, D, cy⟩ := K
  obtain ⟨p, e, R, s, m, args, below, meth, c, A, H0, Q⟩ := Γ
  obtain ⟨z, k9, n9, L⟩ := ω
  obtain ⟨⟨hx, hb, hml, hown, hts⟩, hrt, hlk, hK, hA, hR, hmn, hE⟩ := hC
  intro H locs ls hz hW hS hl
  obtain ⟨C, T, N, ty0, hc, hk, hin, hlink, hty, hnm, hfin, hd0, hcl⟩ := hF
  have hap := va_apart (own := own) hts hin ty0 hty hnm hK hc
  have hat := hW.at ha
  rw [hσ] at hat
  obtain ⟨r1, h1, cell, q1, q2, q3, q4⟩ := hat
  have hr : r1 = (C, T, N) := Option.some.inj (h1.symm.trans hc)
  subst hr
  obtain ⟨hSl, hfc, kC, hkC, hkind⟩ := hK.1 ci _ hc
  obtain ⟨cf, kf, fi, f, hi, hsl⟩ := hSl k hk
  have hlay := hts _ (hin _ (u_in_lay hk))
  unfold u_lay at hlay
  rw [if_neg (by rw [hfin]; decide)] at hlay
  have hst := (u_facts hfc hkC (u_lays hts hin hk) hi).1
  have h6 := u_store hfc hkC hkind hlay hi hd0 hnv hfit
  refine W.putK hx hb (f := f) ⟨hown, hts _ hlink, ⟨_, _, _, hi⟩, hst⟩ (by rw [q2]; exact h6) q1 q3 (by rw [hsl]; exact k2_hasslot (q4 k hk)) rfl rfl hd fun H' e1 e2 e3 => ?_
  rw [hsl] at e1 ⊢
  exact kk H' _ ls (e2.trans hz) (hW.up ha ⟨_, hc, t_OB.to (V := updV (vp_V fs) k v) ⟨_, e1, q2, q3, t_set q4 hap hk v⟩ (fun j _ => vp_updV_set hl0 v j)⟩ e3) (hS.put e2 e3 (hW.A ha)) hl
theorem g_putF (hC : gC K Γ cc nL own mn d mc ms rt Po) {index ci k a : Nat} {fs : List Value} {v : Value} {ty : FieldType} (hF : gPut own index ci k true ty) (hmn0 : mn = "<init>") (hoC : ∀ C T N, vwCl[ci]? = some (C, T, N) → C = own) (ha : a ∈ ω.2.2.2) (hσ : σ a = .inr (ci, fs)) (hd : decode cc pc = .ok (.putfield index, 3)) (kk : G K Γ ω (va_up σ a (.inr (ci, fs.set k v))) n ll r) (hl0 : k < fs.length := by decide) (hnv : narrow ty v = v := by rfl) (hfit : fits ty v = true := by rfl) (hn : n = pc + 3 := by rfl) : G K Γ ω σ pc ll (v :: .ref a :: r) := by
  subst hn
  obtain ⟨l, D, cy⟩ := K
  obtain ⟨p, e, R, s, m, args, below, meth, c, A, H0, Q⟩ := Γ
  obtain ⟨z, k9, n9, L⟩ := ω
  obtain ⟨⟨hx, hb, hml, hown, hts⟩, hrt, hlk, hK, hA, hR, hmn, hE⟩ := hC
  intro H locs ls hz hW hS hl
  obtain ⟨C, T, N, ty0, hc, hk, hin, hlink, hty, hnm, hfin, hd0, hcl⟩ := hF
  have hap := va_apart (own := own) hts hin ty0 hty hnm hK hc
  have hat := hW.at ha
  rw [hσ] at hat
  obtain ⟨r1, h1, cell, q1, q2, q3, q4⟩ := hat
  have hr : r1 = (C, T, N) := Option.some.inj (h1.symm.trans hc)
  subst hr
  obtain ⟨hSl, hfc, kC, hkC, hkind⟩ := hK.1 ci _ hc
  obtain ⟨cf, kf, fi, f, hi, hsl⟩ := hSl k hk
  have hlay := hts _ (hin _ (u_in_lay hk))
  unfold u_lay at hlay
  rw [if_pos hfin] at hlay
  have hst := (u_facts hfc hkC (u_lays hts hin hk) hi).1
  have hcf : m.cls = cf := by
    obtain ⟨_, _, c', _, _, _, -, -, hf', -, -, -, hown2, -⟩ := Cond.laysFinal_spec hlay
    have e1 : c' = cf := by have := hi.symm.trans hf'; simp at this; exact this.1.symm
    rw [hcl, hoC _ _ _ hc] at hown2
    rw [← e1]; exact Option.some.inj (hown.symm.trans hown2)
  have h6 := u_fits hfc hkC hkind (Or.inr hlay) hi hd0 hnv hfit
  refine W.putFinK hx hb hown (hts _ hlink) hi hst hcf (hmn.trans hmn0) (by rw [q2]; exact h6) q1 q3 (by rw [hsl]; exact k2_hasslot (q4 k hk)) rfl rfl hd fun H' e1 e2 e3 => ?_
  rw [hsl] at e1 ⊢
  exact kk H' _ ls (e2.trans hz) (hW.up ha ⟨_, hc, t_OB.to (V := updV (vp_V fs) k v) ⟨_, e1, q2, q3, t_set q4 hap hk v⟩ (fun j _ => vp_updV_set hl0 v j)⟩ e3) (hS.put e2 e3 (hW.A ha)) hl
theorem g_iald (hC : gC K Γ cc nL own mn d mc ms rt Po) {a N j : Nat} {f : Nat → Int32} {i : Int32} (ha : a ∈ ω.2.2.2) (hσ : σ a = iA K N f) (hi : i = nI j) (hj : j < N) (hN : N < 2 ^ 31) (hd : decode cc pc = .ok (.iaload, 1)) (kk : G K Γ ω σ n ll (.int (f j) :: r)) (hn : n = pc + 1 := by rfl) : G K Γ ω σ pc ll (.int i :: .ref a :: r) := by
  subst hn
  obtain ⟨l, D, cy⟩ := K
  obtain ⟨p, e, R, s, m, args, below, meth, c, A, H0, Q⟩ := Γ
  obtain ⟨z, k9, n9, L⟩ := ω
  obtain ⟨⟨hx, hb, hml, hown, hts⟩, hrt, hlk, hK, hA, hR, hmn, hE⟩ := hC
  intro H locs ls hz hW hS hl
  subst hi
  obtain ⟨q0, hq⟩ := g_pk ha hσ
  exact va_iald hx hb hK hW.1 q0 0 hq rfl (vp_in_nI hj hN) hd (by rw [nI_clamp (Nat.lt_trans hj hN)]; exact kk H locs ls hz hW hS hl)
theorem g_cald (hC : gC K Γ cc nL own mn d mc ms rt Po) {a N j : Nat} {f : Nat → Int32} {i : Int32} (ha : a ∈ ω.2.2.2) (hσ : σ a = cA K N f) (hi : i = nI j) (hj : j < N) (hN : N < 2 ^ 31) (hd : decode cc pc = .ok (.caload, 1)) (kk : G K Γ ω σ n ll (.int (f j) :: r)) (hn : n = pc + 1 := by rfl) : G K Γ ω σ pc ll (.int i :: .ref a :: r) := by
  subst hn
  obtain ⟨l, D, cy⟩ := K
  obtain ⟨p, e, R, s, m, args, below, meth, c, A, H0, Q⟩ := Γ
  obtain ⟨z, k9, n9, L⟩ := ω
  obtain ⟨⟨hx, hb, hml, hown, hts⟩, hrt, hlk, hK, hA, hR, hmn, hE⟩ := hC
  intro H locs ls hz hW hS hl
  subst hi
  obtain ⟨q0, hq⟩ := g_pk ha hσ
  exact va_cald hx hb hK hW.1 q0 2 hq rfl (vp_in_nI hj hN) hd (by rw [nI_clamp (Nat.lt_trans hj hN)]; exact kk H locs ls hz hW hS hl)
theorem g_lald (hC : gC K Γ cc nL own mn d mc ms rt Po) {a N j : Nat} {f : Nat → Int64} {i : Int32} (ha : a ∈ ω.2.2.2) (hσ : σ a = lA K N f) (hi : i = nI j) (hj : j < N) (hN : N < 2 ^ 31) (hd : decode cc pc = .ok (.laload, 1)) (kk : G K Γ ω σ n ll (.long (f j) :: r)) (hn : n = pc + 1 := by rfl) : G K Γ ω σ pc ll (.int i :: .ref a :: r) := by
  subst hn
  obtain ⟨l, D, cy⟩ := K
  obtain ⟨p, e, R, s, m, args, below, meth, c, A, H0, Q⟩ := Γ
  obtain ⟨z, k9, n9, L⟩ := ω
  obtain ⟨⟨hx, hb, hml, hown, hts⟩, hrt, hlk, hK, hA, hR, hmn, hE⟩ := hC
  intro H locs ls hz hW hS hl
  subst hi
  obtain ⟨q0, hq⟩ := g_pk ha hσ
  exact va_lald hx hb hK hW.1 q0 1 hq rfl (vp_in_nI hj hN) hd (by rw [nI_clamp (Nat.lt_trans hj hN)]; exact kk H locs ls hz hW hS hl)
theorem g_dald (hC : gC K Γ cc nL own mn d mc ms rt Po) {a N j : Nat} {f : Nat → UInt64} {i : Int32} (ha : a ∈ ω.2.2.2) (hσ : σ a = dA K N f) (hi : i = nI j) (hj : j < N) (hN : N < 2 ^ 31) (hd : decode cc pc = .ok (.daload, 1)) (kk : G K Γ ω σ n ll (.double (f j) :: r)) (hn : n = pc + 1 := by rfl) : G K Γ ω σ pc ll (.int i :: .ref a :: r) := by
  subst hn
  obtain ⟨l, D, cy⟩ := K
  obtain ⟨p, e, R, s, m, args, below, meth, c, A, H0, Q⟩ := Γ
  obtain ⟨z, k9, n9, L⟩ := ω
  obtain ⟨⟨hx, hb, hml, hown, hts⟩, hrt, hlk, hK, hA, hR, hmn, hE⟩ := hC
  intro H locs ls hz hW hS hl
  subst hi
  obtain ⟨q0, hq⟩ := g_pk ha hσ
  exact va_dald hx hb hK hW.1 q0 4 hq rfl (vp_in_nI hj hN) hd (by rw [nI_clamp (Nat.lt_trans hj hN)]; exact kk H locs ls hz hW hS hl)
theorem g_aald (hC : gC K Γ cc nL own mn d mc ms rt Po) {a N j v : Nat} {f : Nat → Option Nat} {i : Int32} (ha : a ∈ ω.2.2.2) (hσ : σ a = rA K N f) (hi : i = nI j) (hj : j < N) (hN : N < 2 ^ 31) (hv : f j = some v) (hd : decode cc pc = .ok (.aaload, 1)) (kk : G K Γ ω σ n ll (.ref v :: r)) (hn : n = pc + 1 := by rfl) : G K Γ ω σ pc ll (.int i :: .ref a :: r) := by
  subst hn
  obtain ⟨l, D, cy⟩ := K
  obtain ⟨p, e, R, s, m, args, below, meth, c, A, H0, Q⟩ := Γ
  obtain ⟨z, k9, n9, L⟩ := ω
  obtain ⟨⟨hx, hb, hml, hown, hts⟩, hrt, hlk, hK, hA, hR, hmn, hE⟩ := hC
  intro H locs ls hz hW hS hl
  subst hi
  obtain ⟨q0, hq⟩ := g_pk ha hσ
  exact va_aldq hx hb hK hW.1 q0 3 hq rfl (vp_in_nI hj hN) hd (by rw [nI_clamp (Nat.lt_trans hj hN), hv]; exact kk H locs ls hz hW hS hl)
theorem g_iast (hC : gC K Γ cc nL own mn d mc ms rt Po) {a N j : Nat} {f : Nat → Int32} {i : Int32} {x : Int32}  (ha : a ∈ ω.2.2.2) (hσ : σ a = iA K N f) (hi : i = nI j) (hj : j < N) (hN : N < 2 ^ 31) (hd : decode cc pc = .ok (.iastore, 1)) (kk : G K Γ ω (va_up σ a (iA K N (va_up f j x))) n ll r) (hn : n = pc + 1 := by rfl) : G K Γ ω σ pc ll (.int x :: .int i :: .ref a :: r) := by
  subst hn
  obtain ⟨l, D, cy⟩ := K
  obtain ⟨p, e, R, s, m, args, below, meth, c, A, H0, Q⟩ := Γ
  obtain ⟨z, k9, n9, L⟩ := ω
  obtain ⟨⟨hx, hb, hml, hown, hts⟩, hrt, hlk, hK, hA, hR, hmn, hE⟩ := hC
  intro H locs ls hz hW hS hl
  subst hi
  have hat := hW.at ha
  rw [hσ] at hat
  have hin : ¬ (nI j < 0 ∨ (arrV (cy 0) N (fun j => .int (f j))).slots.size ≤ (nI j).toNatClampNeg) := by rw [arrV_size]; exact vp_in_nI hj hN
  refine W.iast hx hb hat ((hK.2 0 _ rfl).1 N (fun j => .int (f j))) (fun q => by cases q) hin rfl rfl hd fun H1 e z9 oq => ?_
  refine kk H1 _ ls (z9.trans hz) (hW.up ha ?_ oq) (hS.put z9 oq (hW.A ha)) hl
  show H1[a]? = some (arrV (cy 0) N (fun q => .int (va_up f j x q)))
  rw [e, nI_clamp (Nat.lt_trans hj hN)]
  show some ((arrV (cy 0) N (fun q => .int (f q))).setSlot j _) = _
  rw [arrV_store]
  congr 2
  funext q
  by_cases hq : q = j
  · subst hq
    simp [updV, va_up]
  · simp [updV, va_up, hq]
theorem g_cast (hC : gC K Γ cc nL own mn d mc ms rt Po) {a N j : Nat} {f : Nat → Int32} {i : Int32} {x : Int32} (hnv : narrow .char (.int x) = .int x) (ha : a ∈ ω.2.2.2) (hσ : σ a = cA K N f) (hi : i = nI j) (hj : j < N) (hN : N < 2 ^ 31) (hd : decode cc pc = .ok (.castore, 1)) (kk : G K Γ ω (va_up σ a (cA K N (va_up f j x))) n ll r) (hn : n = pc + 1 := by rfl) : G K Γ ω σ pc ll (.int x :: .int i :: .ref a :: r) := by
  subst hn
  obtain ⟨l, D, cy⟩ := K
  obtain ⟨p, e, R, s, m, args, below, meth, c, A, H0, Q⟩ := Γ
  obtain ⟨z, k9, n9, L⟩ := ω
  obtain ⟨⟨hx, hb, hml, hown, hts⟩, hrt, hlk, hK, hA, hR, hmn, hE⟩ := hC
  intro H locs ls hz hW hS hl
  subst hi
  have hat := hW.at ha
  rw [hσ] at hat
  have hin : ¬ (nI j < 0 ∨ (arrV (cy 2) N (fun j => .int (f j))).slots.size ≤ (nI j).toNatClampNeg) := by rw [arrV_size]; exact vp_in_nI hj hN
  refine W.cast hx hb hat ((hK.2 2 _ rfl).1 N (fun j => .int (f j))) (fun q => by cases q) hin rfl rfl hd fun H1 e z9 oq => ?_
  refine kk H1 _ ls (z9.trans hz) (hW.up ha ?_ oq) (hS.put z9 oq (hW.A ha)) hl
  show H1[a]? = some (arrV (cy 2) N (fun q => .int (va_up f j x q)))
  rw [e, nI_clamp (Nat.lt_trans hj hN)]
  show some ((arrV (cy 2) N (fun q => .int (f q))).setSlot j _) = _
  rw [arrV_store]
  congr 2
  funext q
  by_cases hq : q = j
  · subst hq
    simp [updV, va_up]
    exact hnv
  · simp [updV, va_up, hq]
theorem g_last (hC : gC K Γ cc nL own mn d mc ms rt Po) {a N j : Nat} {f : Nat → Int64} {i : Int32} {x : Int64}  (ha : a ∈ ω.2.2.2) (hσ : σ a = lA K N f) (hi : i = nI j) (hj : j < N) (hN : N < 2 ^ 31) (hd : decode cc pc = .ok (.lastore, 1)) (kk : G K Γ ω (va_up σ a (lA K N (va_up f j x))) n ll r) (hn : n = pc + 1 := by rfl) : G K Γ ω σ pc ll (.long x :: .int i :: .ref a :: r) := by
  subst hn
  obtain ⟨l, D, cy⟩ := K
  obtain ⟨p, e, R, s, m, args, below, meth, c, A, H0, Q⟩ := Γ
  obtain ⟨z, k9, n9, L⟩ := ω
  obtain ⟨⟨hx, hb, hml, hown, hts⟩, hrt, hlk, hK, hA, hR, hmn, hE⟩ := hC
  intro H locs ls hz hW hS hl
  subst hi
  have hat := hW.at ha
  rw [hσ] at hat
  have hin : ¬ (nI j < 0 ∨ (arrV (cy 1) N (fun j => .long (f j))).slots.size ≤ (nI j).toNatClampNeg) := by rw [arrV_size]; exact vp_in_nI hj hN
  refine W.last hx hb hat ((hK.2 1 _ rfl).1 N (fun j => .long (f j))) (fun q => by cases q) hin rfl rfl hd fun H1 e z9 oq => ?_
  refine kk H1 _ ls (z9.trans hz) (hW.up ha ?_ oq) (hS.put z9 oq (hW.A ha)) hl
  show H1[a]? = some (arrV (cy 1) N (fun q => .long (va_up f j x q)))
  rw [e, nI_clamp (Nat.lt_trans hj hN)]
  show some ((arrV (cy 1) N (fun q => .long (f q))).setSlot j _) = _
  rw [arrV_store]
  congr 2
  funext q
  by_cases hq : q = j
  · subst hq
    simp [updV, va_up]
  · simp [updV, va_up, hq]
theorem g_dast (hC : gC K Γ cc nL own mn d mc ms rt Po) {a N j : Nat} {f : Nat → UInt64} {i : Int32} {x : UInt64}  (ha : a ∈ ω.2.2.2) (hσ : σ a = dA K N f) (hi : i = nI j) (hj : j < N) (hN : N < 2 ^ 31) (hd : decode cc pc = .ok (.dastore, 1)) (kk : G K Γ ω (va_up σ a (dA K N (va_up f j x))) n ll r) (hn : n = pc + 1 := by rfl) : G K Γ ω σ pc ll (.double x :: .int i :: .ref a :: r) := by
  subst hn
  obtain ⟨l, D, cy⟩ := K
  obtain ⟨p, e, R, s, m, args, below, meth, c, A, H0, Q⟩ := Γ
  obtain ⟨z, k9, n9, L⟩ := ω
  obtain ⟨⟨hx, hb, hml, hown, hts⟩, hrt, hlk, hK, hA, hR, hmn, hE⟩ := hC
  intro H locs ls hz hW hS hl
  subst hi
  have hat := hW.at ha
  rw [hσ] at hat
  have hin : ¬ (nI j < 0 ∨ (arrV (cy 4) N (fun j => .double (f j))).slots.size ≤ (nI j).toNatClampNeg) := by rw [arrV_size]; exact vp_in_nI hj hN
  refine W.dast hx hb hat ((hK.2 4 _ rfl).1 N (fun j => .double (f j))) (fun q => by cases q) hin rfl rfl hd fun H1 e z9 oq => ?_
  refine kk H1 _ ls (z9.trans hz) (hW.up ha ?_ oq) (hS.put z9 oq (hW.A ha)) hl
  show H1[a]? = some (arrV (cy 4) N (fun q => .double (va_up f j x q)))
  rw [e, nI_clamp (Nat.lt_trans hj hN)]
  show some ((arrV (cy 4) N (fun q => .double (f q))).setSlot j _) = _
  rw [arrV_store]
  congr 2
  funext q
  by_cases hq : q = j
  · subst hq
    simp [updV, va_up]
  · simp [updV, va_up, hq]
theorem g_alen (hC : gC K Γ cc nL own mn d mc ms rt Po) {a N t0 : Nat} {cA : ClassId} {ty : FieldType} {f : _} (ha : a ∈ ω.2.2.2) (hσ : σ a = .inl (cA, N, f)) (ht : (gTy K.2.2)[t0]? = some (cA, ty)) (hd : decode cc pc = .ok (.arraylength, 1)) (kk : G K Γ ω σ n ll (.int (nI N) :: r)) (hn : n = pc + 1 := by rfl) : G K Γ ω σ pc ll (.ref a :: r) := by
  subst hn
  obtain ⟨l, D, cy⟩ := K
  obtain ⟨p, e, R, s, m, args, below, meth, c, A, H0, Q⟩ := Γ
  obtain ⟨z, k9, n9, L⟩ := ω
  obtain ⟨⟨hx, hb, hml, hown, hts⟩, hrt, hlk, hK, hA, hR, hmn, hE⟩ := hC
  intro H locs ls hz hW hS hl
  obtain ⟨q0, hq⟩ := g_pk ha hσ
  exact va_alen hx hb hK hW.1 q0 t0 hq ht rfl hd (kk H locs ls hz hW hS hl)
end GS1
end
section
/-! ===== contracts, entries, ends, calls ===== -/
def gFr (L : List Nat) (z : Nat) : Nat → Prop := fun q => q ∈ L ∨ z ≤ q
def gPost (D : va_G) (A : Nat → Prop) (Po : GP) : Array Value → State → Outcome → State → Prop := fun _ st oc t => (∃ (r : Option Value) (L : List Nat) (σ : GS), oc = .returned r ∧ Po r t.heap.size L σ ∧ gW D A L σ t.heap) ∧ va_F A st t
def gPre (K : GK) (z : Nat) (L : List Nat) (σ : GS) : State → Prop := fun U => U.heap.size = z ∧ gW K.2.1 (fun _ => True) L σ U.heap ∧ va_K K.2.1 vwCl (gTy K.2.2) U
abbrev gRm (d mc ms : Nat) : Room := { frames := d, cells := mc, slots := ms, locals := 64 * d }
/-- y's contract: from a heap of z cells whose world is σ over L, it answers r, and Po r (the heap's size) (the addresses) (the world) -/
def gM (K : GK) (y : MethodName) (cc : ByteArray) (nL : Nat) (rt : Option FieldType) (d mc ms : Nat) (av : List Value) (z : Nat) (L : List Nat) (σ : GS) (Po : GP) : Prop :=
  Met K.1 y (.code y cc nL rt :: gTs) (gRm d mc ms) (va_Pc av (gPre K z L σ)) (gPost K.2.1 (gFr L z) Po) mc ms (gFr L z)
/-- .. that makes nothing: the answer, and the world after it -/
def gT (K : GK) (y : MethodName) (cc : ByteArray) (nL : Nat) (rt : Option FieldType) (d : Nat) (av : List Value) (z : Nat) (L : List Nat) (σ : GS) (rv : Option Value) (σ1 : GS) : Prop :=
  gM K y cc nL rt d 0 0 av z L σ (fun r z1 L1 σ2 => r = rv ∧ z1 = z ∧ L1 = L ∧ σ2 = σ1)
theorem g_intro {K : GK} {y : MethodName} {cc : ByteArray} {nL : Nat} {rt : Option FieldType} {d mc ms : Nat} {av : List Value} {z : Nat} {L : List Nat} {σ : GS} {Po : GP} (ll : List (Option Value)) (body : ∀ Γ : GX, gC K Γ cc nL y.cls y.name d mc ms rt Po → G K Γ (z, 0, 0, L) σ 0 ll []) (hen : g_en 0 (lv_args 0 av) ll) (hy : plainName y.cls = true := by decide) (hlen : (lg_sl av).length ≤ nL := by decide) (hll : nL = ll.length := by rfl) : gM K y cc nL rt d mc ms av z L σ Po := by
  refine Met.ofW (cc := cc) (maxL := nL) (ret := rt) hy rfl ?_
  intro p e s m args below meth c s₁ B hml hv
  obtain ⟨rfl, hsz, hWd, hK⟩ := hv
  have hts := atoms_spec (ws := .code y cc nL rt :: gTs) B.pre
  have hown : s.vm.findClass y.cls = some m.cls := findClass_of_methodNamed B.named
  have hmn : meth.name = y.name := (name_of_methodNamed B.named B.method).1
  obtain ⟨l, D, cy⟩ := K
  have hW : gW D (gFr L z) L σ s.heap := hWd.weaken (fun a ha => Or.inl ha)
  have hl := lv_entry av (n := nL) hlen
  rw [lg_entry_eq]
  generalize (lg_sl av ++ List.replicate (nL - (lg_sl av).length) Slot.unset).toArray = ls at hl ⊢
  have hg : g_has ls ll := ⟨hl.1.trans hll, hl.2.1, fun i v hv => hl.2.2 (i, v) (by have := g_en_get ll 0 _ hen i v hv; rwa [Nat.zero_add] at this)⟩
  exact body (p, e, gRm d mc ms, s, m, av.toArray, below, meth, c, gFr L z, s.heap, MQ below (gPost D (gFr L z) Po) av.toArray s mc ms (gFr L z))
    ⟨⟨B.exec, B.bytes, hml, hown, fun w hw => hts w (List.mem_cons_of_mem _ hw)⟩, B.returns, B.notSynchronized, hK, fun q hq => Or.inr (hsz ▸ hq), ⟨Nat.le_refl _, Nat.le_refl _, Nat.le_refl _, Nat.le_refl _⟩, hmn, _, _, fun t h => h, fun q h => h, fun r H locs L1 σ1 t h1 h2 hp ht => ⟨⟨r, L1, σ1, rfl, ht ▸ hp, ht ▸ h1⟩, va_S.F h2 ht⟩⟩
    s.heap [] ls hsz hW va_S.rf hg
section GE
variable {K : GK} {Γ : GX} {cc : ByteArray} {nL d mc ms : Nat} {own mn : String} {rt : Option FieldType} {Po : GP} {ω : GO} {σ : GS} {pc n : Nat} {ll ll1 : List (Option Value)} {r : List Value} {rest : List Value}
theorem g_iret {v : Int32} (hC : gC K Γ cc nL own mn d mc ms (some .int) Po)  (hd : decode cc pc = .ok (.ireturn, 1)) (hp : Po (some (.int v)) ω.1 ω.2.2.2 σ) (hk9 : ω.2.1 ≤ mc := by first | exact Nat.le_refl _ | decide | omega) (hn9 : ω.2.2.1 ≤ ms := by first | exact Nat.le_refl _ | decide | omega) : G K Γ ω σ pc ll [.int v] := by
  obtain ⟨l, D, cy⟩ := K
  obtain ⟨p, e, R, s, m, args, below, meth, c, A, H0, Q⟩ := Γ
  obtain ⟨z, k9, n9, L⟩ := ω
  obtain ⟨⟨hx, hb, hml, hown, hts⟩, hrt, hlk, hK, hA, hR, hmn, hE⟩ := hC
  intro H locs ls hz hW hS hl
  obtain ⟨Qc, free, hQ, hF, hE⟩ := hE
  refine W.widen hk9 hn9 ?_
  intro T hT X
  obtain ⟨t, a1, b1⟩ := W.iret hx hb hrt (fun t ht hWm => hE _ H locs L σ t hW hS (hz ▸ hp) ht) (fun q hq => hF _ (hS.2.2 q hq)) hd hlk T hT X
  exact ⟨t, a1, hQ t b1⟩
theorem g_zret {v : Int32} {ty : FieldType} (hC : gC K Γ cc nL own mn d mc ms (some ty) Po) (hnw : narrow ty (.int v) = .int v) (hd : decode cc pc = .ok (.ireturn, 1)) (hp : Po (some (.int v)) ω.1 ω.2.2.2 σ) (hk9 : ω.2.1 ≤ mc := by first | exact Nat.le_refl _ | decide | omega) (hn9 : ω.2.2.1 ≤ ms := by first | exact Nat.le_refl _ | decide | omega) : G K Γ ω σ pc ll [.int v] := by
  obtain ⟨l, D, cy⟩ := K
  obtain ⟨p, e, R, s, m, args, below, meth, c, A, H0, Q⟩ := Γ
  obtain ⟨z, k9, n9, L⟩ := ω
  obtain ⟨⟨hx, hb, hml, hown, hts⟩, hrt, hlk, hK, hA, hR, hmn, hE⟩ := hC
  intro H locs ls hz hW hS hl
  obtain ⟨Qc, free, hQ, hF, hE⟩ := hE
  refine W.widen hk9 hn9 ?_
  intro T hT X
  obtain ⟨t, a1, b1⟩ := W.zret hx hb hrt hnw (fun t ht hWm => hE _ H locs L σ t hW hS (hz ▸ hp) ht) (fun q hq => hF _ (hS.2.2 q hq)) hd hlk T hT X
  exact ⟨t, a1, hQ t b1⟩
theorem g_lret {v : Int64} (hC : gC K Γ cc nL own mn d mc ms (some .long) Po)  (hd : decode cc pc = .ok (.lreturn, 1)) (hp : Po (some (.long v)) ω.1 ω.2.2.2 σ) (hk9 : ω.2.1 ≤ mc := by first | exact Nat.le_refl _ | decide | omega) (hn9 : ω.2.2.1 ≤ ms := by first | exact Nat.le_refl _ | decide | omega) : G K Γ ω σ pc ll [.long v] := by
  obtain ⟨l, D, cy⟩ := K
  obtain ⟨p, e, R, s, m, args, below, meth, c, A, H0, Q⟩ := Γ
  obtain ⟨z, k9, n9, L⟩ := ω
  obtain ⟨⟨hx, hb, hml, hown, hts⟩, hrt, hlk, hK, hA, hR, hmn, hE⟩ := hC
  intro H locs ls hz hW hS hl
  obtain ⟨Qc, free, hQ, hF, hE⟩ := hE
  refine W.widen hk9 hn9 ?_
  intro T hT X
  obtain ⟨t, a1, b1⟩ := W.lret hx hb hrt (fun t ht hWm => hE _ H locs L σ t hW hS (hz ▸ hp) ht) (fun q hq => hF _ (hS.2.2 q hq)) hd hlk T hT X
  exact ⟨t, a1, hQ t b1⟩
theorem g_dret {v : UInt64} (hC : gC K Γ cc nL own mn d mc ms (some .double) Po)  (hd : decode cc pc = .ok (.dreturn, 1)) (hp : Po (some (.double v)) ω.1 ω.2.2.2 σ) (hk9 : ω.2.1 ≤ mc := by first | exact Nat.le_refl _ | decide | omega) (hn9 : ω.2.2.1 ≤ ms := by first | exact Nat.le_refl _ | decide | omega) : G K Γ ω σ pc ll [.double v] := by
  obtain ⟨l, D, cy⟩ := K
  obtain ⟨p, e, R, s, m, args, below, meth, c, A, H0, Q⟩ := Γ
  obtain ⟨z, k9, n9, L⟩ := ω
  obtain ⟨⟨hx, hb, hml, hown, hts⟩, hrt, hlk, hK, hA, hR, hmn, hE⟩ := hC
  intro H locs ls hz hW hS hl
  obtain ⟨Qc, free, hQ, hF, hE⟩ := hE
  refine W.widen hk9 hn9 ?_
  intro T hT X
  obtain ⟨t, a1, b1⟩ := W.dret hx hb hrt (fun t ht hWm => hE _ H locs L σ t hW hS (hz ▸ hp) ht) (fun q hq => hF _ (hS.2.2 q hq)) hd hlk T hT X
  exact ⟨t, a1, hQ t b1⟩
theorem g_aret {v : Nat} {cn : String} (hC : gC K Γ cc nL own mn d mc ms (some (.object cn)) Po)  (hd : decode cc pc = .ok (.areturn, 1)) (hp : Po (some (.ref v)) ω.1 ω.2.2.2 σ) (hk9 : ω.2.1 ≤ mc := by first | exact Nat.le_refl _ | decide | omega) (hn9 : ω.2.2.1 ≤ ms := by first | exact Nat.le_refl _ | decide | omega) : G K Γ ω σ pc ll [.ref v] := by
  obtain ⟨l, D, cy⟩ := K
  obtain ⟨p, e, R, s, m, args, below, meth, c, A, H0, Q⟩ := Γ
  obtain ⟨z, k9, n9, L⟩ := ω
  obtain ⟨⟨hx, hb, hml, hown, hts⟩, hrt, hlk, hK, hA, hR, hmn, hE⟩ := hC
  intro H locs ls hz hW hS hl
  obtain ⟨Qc, free, hQ, hF, hE⟩ := hE
  refine W.widen hk9 hn9 ?_
  intro T hT X
  obtain ⟨t, a1, b1⟩ := W.aret hx hb hrt (Or.inl ⟨_, rfl⟩) (Or.inr ⟨_, rfl⟩) (fun t ht hWm => hE _ H locs L σ t hW hS (hz ▸ hp) ht) (fun q hq => hF _ (hS.2.2 q hq)) hd hlk T hT X
  exact ⟨t, a1, hQ t b1⟩
theorem g_vret (hC : gC K Γ cc nL own mn d mc ms none Po) (hd : decode cc pc = .ok (.return_, 1)) (hp : Po none ω.1 ω.2.2.2 σ) (hk9 : ω.2.1 ≤ mc := by first | exact Nat.le_refl _ | decide | omega) (hn9 : ω.2.2.1 ≤ ms := by first | exact Nat.le_refl _ | decide | omega) : G K Γ ω σ pc ll [] := by
  obtain ⟨l, D, cy⟩ := K
  obtain ⟨p, e, R, s, m, args, below, meth, c, A, H0, Q⟩ := Γ
  obtain ⟨z, k9, n9, L⟩ := ω
  obtain ⟨⟨hx, hb, hml, hown, hts⟩, hrt, hlk, hK, hA, hR, hmn, hE⟩ := hC
  intro H locs ls hz hW hS hl
  obtain ⟨Qc, free, hQ, hF, hE⟩ := hE
  refine W.widen hk9 hn9 ?_
  intro T hT X
  obtain ⟨t, a1, b1⟩ := W.vret hx hb hrt (fun t ht hWm => hE _ H locs L σ t hW hS (hz ▸ hp) ht) (fun q hq => hF _ (hS.2.2 q hq)) hd hlk T hT X
  exact ⟨t, a1, hQ t b1⟩
theorem G.le {l1 : List (Option Value)} {st : List Value} (h : G K Γ ω σ pc l1 st) (hl : g_le l1 ll) : G K Γ ω σ pc ll st := by
  obtain ⟨l, D, cy⟩ := K
  obtain ⟨p, e, R, s, m, args, below, meth, c, A, H0, Q⟩ := Γ
  obtain ⟨z, k9, n9, L⟩ := ω
  exact fun H locs ls hz hW hS hg => h H locs ls hz hW hS (hg.le hl)
theorem G.nmi {x : Int32} (k : ∀ y : Int32, y = x → G K Γ ω σ pc ll (.int y :: r)) : G K Γ ω σ pc ll (.int x :: r) := k x rfl
theorem G.nml {x : Int64} (k : ∀ y : Int64, y = x → G K Γ ω σ pc ll (.long y :: r)) : G K Γ ω σ pc ll (.long x :: r) := k x rfl
theorem G.eqi {x y : Int32} (e : x = y) (k : G K Γ ω σ pc ll (.int y :: r)) : G K Γ ω σ pc ll (.int x :: r) := e ▸ k
theorem G.eql {x y : Int64} (e : x = y) (k : G K Γ ω σ pc ll (.long y :: r)) : G K Γ ω σ pc ll (.long x :: r) := e ▸ k
theorem G.eqv {x y : Value} (e : x = y) (k : G K Γ ω σ pc ll (y :: r)) : G K Γ ω σ pc ll (x :: r) := e ▸ k
theorem G.eqs {σ1 : GS} {st : List Value} (e : σ = σ1) (k : G K Γ ω σ1 pc ll st) : G K Γ ω σ pc ll st := e ▸ k
/-- behind a call -/
theorem g_after {l : Launch} {D : va_G} {p : Program} {e : Env} {R : Room} {s : State} {m : MethodId} {args : Array Value} {below : List Frame} {meth : Method} {c : Code} {A : Nat → Prop} {H0 : Heap} {Q : State → Prop} {H : Heap} {locs : List Loc} {ls : Array Slot} {z k9 n9 mc2 ms2 : Nat} {L : List Nat} {st : List Value} {a : Array Value} {Po2 : GP}
    (hr : va_Run p l e R s m args below meth c H locs k9 n9 mc2 ms2 (F0 m pc ls st) r (gPost D (gFr L z) Po2 a) (gFr L z)) (hz : H.size = z) (hW : gW D A L σ H) (hS : va_S A H0 H locs) (hA : ∀ q, H0.size ≤ q → A q)
    (kk : ∀ (rv : Option Value) (z1 : Nat) (L1 : List Nat) (σ1 : GS) (H1 : Heap) (locs1 : List Loc), Po2 rv z1 L1 σ1 → H1.size = z1 → gW D A L1 σ1 H1 → va_S A H0 H1 locs1 → W p l e R s m args below meth c H1 locs1 (k9 + mc2) (n9 + ms2) Q (F0 m (pc + 3) ls (rv.toList ++ r))) : W p l e R s m args below meth c H locs k9 n9 Q (F0 m pc ls st) := by
  have hsub : ∀ q, gFr L z q → A q := fun q h => h.elim (fun h => hW.A h) (fun h => hA q (Nat.le_trans hS.1 (hz ▸ h)))
  intro T hT X
  obtain ⟨v, st₀, t, T1, Lc, h0, X1, hL, e1, e2, ⟨⟨rv, L1, σ1, hv, hp, hw⟩, hF⟩, st9⟩ := hr T hT X
  cases hv
  obtain ⟨k1, k2, k3⟩ := vx_keep h0 e1 hS (fun q _ h => hsub q h) hsub hL hF
  obtain ⟨t2, a1, b1⟩ := kk v _ L1 σ1 T1.heap (locs ++ Lc) hp (by rw [e1]) (e1 ▸ hw.weaken (fun a ha => by obtain ⟨q0, hq⟩ := g_pk ha (rfl : σ1 a = σ1 a); exact hsub a (hw.2.2 q0 _ hq))) k3 T1 rfl X1
  exact ⟨t2, st9 t2 a1, b1⟩
theorem g_callV (hC : gC K Γ cc nL own mn d mc ms rt Po) {index b n2 nL2 d2 mc2 ms2 : Nat} {y : MethodName} {b2 : ByteArray} {rt2 : Option FieldType} {As st : List Value} {Po2 : GP} {ci N : Nat} {C : String} {T : u_T} {fs : List Value} (hV : gVir own index C y b2 nL2 rt2 n2) (hM : gM K y b2 nL2 rt2 d2 mc2 ms2 (.ref b :: As) ω.1 ω.2.2.2 σ Po2) (hb0 : b ∈ ω.2.2.2) (hσ : σ b = .inr (ci, fs)) (hci : vwCl[ci]? = some (C, T, N)) (hdep : d2 + 1 ≤ d) (hnl : nL2 ≤ 40) (hAs : As.length = n2) (hst : st = As.reverse ++ .ref b :: r) (hcat : (r.map fun v => v.category).sum ≤ 8) (hroom : ω.2.1 + mc2 ≤ mc ∧ ω.2.2.1 + ms2 ≤ ms) (hd : decode cc pc = .ok (.invokevirtual index, 3)) (kk : ∀ (rv : Option Value) (z1 : Nat) (L1 : List Nat) (σ1 : GS), Po2 rv z1 L1 σ1 → G K Γ (z1, ω.2.1 + mc2, ω.2.2.1 + ms2, L1) σ1 (pc + 3) ll (rv.toList ++ r)) (hll : ll.length = nL := by rfl) : G K Γ ω σ pc ll st := by
  obtain ⟨l, D, cy⟩ := K
  obtain ⟨p, e, R, s, m, args, below, meth, c, A, H0, Q⟩ := Γ
  obtain ⟨z, k9, n9, L⟩ := ω
  obtain ⟨⟨hx, hb, hml, hown, hts⟩, hrt, hlk, hK, hA, hR, hmn, hE⟩ := hC
  intro H locs ls hz hW hS hl
  have hR2 : (gRm d2 mc2 ms2).frames + 1 ≤ R.frames ∧ 8 + (nL2 + 11) + (gRm d2 mc2 ms2).locals ≤ R.locals := ⟨Nat.le_trans hdep hR.1, by have := hR.2.1; show 8 + (nL2 + 11) + 64 * d2 ≤ _; omega⟩
  have hf9 : k9 + mc2 ≤ R.cells ∧ n9 + ms2 ≤ R.slots := ⟨Nat.le_trans hroom.1 hR.2.2.1, Nat.le_trans hroom.2 hR.2.2.2⟩
  obtain ⟨v1, v2, v3, v4, v5, v6⟩ := hV
  obtain ⟨q0, hq⟩ := g_pk hb0 hσ
  refine g_after (va_runV (C := C) (As := As) ⟨hx, hb, hml, hown, hts⟩ hM ⟨callB_of n2 hts (gGood v5 rfl) rfl rfl rfl (hts _ v4) (hts _ v1) v6 hR2, hts _ v2, hts _ v3⟩ ⟨fun a U g mk q => ⟨q.1, q.2.1, q.2.2.1, va_K.moved (u := U) (U := U.calling g mk a) (Vm.Alike.refl U.vm) q.2.2.2⟩, va_recv hK hW.1 hci hq, fun U hU hWm => ⟨rfl, by rw [hU]; exact hz, by rw [hU]; exact hW.weaken (fun _ _ => trivial), va_K.moved hWm.alike hK⟩⟩ rfl hAs (hl.1.trans hll) hst (lv_room hcat) hd hf9) hz hW hS hA (fun rv z1 L1 σ1 H1 locs1 hp hz1 hW1 hS1 => kk rv z1 L1 σ1 hp H1 locs1 ls hz1 hW1 hS1 hl)
theorem g_callS (hC : gC K Γ cc nL own mn d mc ms rt Po) {index b n2 nL2 d2 mc2 ms2 : Nat} {y : MethodName} {b2 : ByteArray} {rt2 : Option FieldType} {As st : List Value} {Po2 : GP} (hV : gSta own index y b2 nL2 rt2 n2) (hM : gM K y b2 nL2 rt2 d2 mc2 ms2 As ω.1 ω.2.2.2 σ Po2) (hdep : d2 + 1 ≤ d) (hnl : nL2 ≤ 40) (hAs : As.length = n2) (hst : st = As.reverse ++ r) (hcat : (r.map fun v => v.category).sum ≤ 8) (hroom : ω.2.1 + mc2 ≤ mc ∧ ω.2.2.1 + ms2 ≤ ms) (hd : decode cc pc = .ok (.invokestatic index, 3)) (kk : ∀ (rv : Option Value) (z1 : Nat) (L1 : List Nat) (σ1 : GS), Po2 rv z1 L1 σ1 → G K Γ (z1, ω.2.1 + mc2, ω.2.2.1 + ms2, L1) σ1 (pc + 3) ll (rv.toList ++ r)) (hll : ll.length = nL := by rfl) : G K Γ ω σ pc ll st := by
  obtain ⟨l, D, cy⟩ := K
  obtain ⟨p, e, R, s, m, args, below, meth, c, A, H0, Q⟩ := Γ
  obtain ⟨z, k9, n9, L⟩ := ω
  obtain ⟨⟨hx, hb, hml, hown, hts⟩, hrt, hlk, hK, hA, hR, hmn, hE⟩ := hC
  intro H locs ls hz hW hS hl
  have hR2 : (gRm d2 mc2 ms2).frames + 1 ≤ R.frames ∧ 8 + (nL2 + 11) + (gRm d2 mc2 ms2).locals ≤ R.locals := ⟨Nat.le_trans hdep hR.1, by have := hR.2.1; show 8 + (nL2 + 11) + 64 * d2 ≤ _; omega⟩
  have hf9 : k9 + mc2 ≤ R.cells ∧ n9 + ms2 ≤ R.slots := ⟨Nat.le_trans hroom.1 hR.2.2.1, Nat.le_trans hroom.2 hR.2.2.2⟩
  obtain ⟨v1, v2, v4, v5, v6⟩ := hV
  refine g_after (va_runS (As := As) ⟨hx, hb, hml, hown, hts⟩ hM ⟨callB_of n2 hts (gGood v5 rfl) rfl rfl rfl (hts _ v4) (hts _ v1) v6 hR2, hts _ v2⟩ ⟨fun a U g mk q => ⟨q.1, q.2.1, q.2.2.1, va_K.moved (u := U) (U := U.calling g mk a) (Vm.Alike.refl U.vm) q.2.2.2⟩, fun U hU hWm => ⟨rfl, by rw [hU]; exact hz, by rw [hU]; exact hW.weaken (fun _ _ => trivial), va_K.moved hWm.alike hK⟩⟩ rfl hAs (hl.1.trans hll) hst (lv_room hcat) hd hf9) hz hW hS hA (fun rv z1 L1 σ1 H1 locs1 hp hz1 hW1 hS1 => kk rv z1 L1 σ1 hp H1 locs1 ls hz1 hW1 hS1 hl)
theorem g_callI (hC : gC K Γ cc nL own mn d mc ms rt Po) {index b n2 nL2 d2 mc2 ms2 : Nat} {y : MethodName} {b2 : ByteArray} {rt2 : Option FieldType} {As st : List Value} {Po2 : GP} (hV : gIni own index y b2 nL2 n2) (hM : gM K y b2 nL2 none d2 mc2 ms2 (.ref b :: As) ω.1 ω.2.2.2 σ Po2) (hdep : d2 + 1 ≤ d) (hnl : nL2 ≤ 40) (hAs : As.length = n2) (hst : st = As.reverse ++ .ref b :: r) (hcat : (r.map fun v => v.category).sum ≤ 8) (hroom : ω.2.1 + mc2 ≤ mc ∧ ω.2.2.1 + ms2 ≤ ms) (hd : decode cc pc = .ok (.invokespecial index, 3)) (kk : ∀ (rv : Option Value) (z1 : Nat) (L1 : List Nat) (σ1 : GS), Po2 rv z1 L1 σ1 → G K Γ (z1, ω.2.1 + mc2, ω.2.2.1 + ms2, L1) σ1 (pc + 3) ll (rv.toList ++ r)) (hll : ll.length = nL := by rfl) : G K Γ ω σ pc ll st := by
  obtain ⟨l, D, cy⟩ := K
  obtain ⟨p, e, R, s, m, args, below, meth, c, A, H0, Q⟩ := Γ
  obtain ⟨z, k9, n9, L⟩ := ω
  obtain ⟨⟨hx, hb, hml, hown, hts⟩, hrt, hlk, hK, hA, hR, hmn, hE⟩ := hC
  intro H locs ls hz hW hS hl
  have hR2 : (gRm d2 mc2 ms2).frames + 1 ≤ R.frames ∧ 8 + (nL2 + 11) + (gRm d2 mc2 ms2).locals ≤ R.locals := ⟨Nat.le_trans hdep hR.1, by have := hR.2.1; show 8 + (nL2 + 11) + 64 * d2 ≤ _; omega⟩
  have hf9 : k9 + mc2 ≤ R.cells ∧ n9 + ms2 ≤ R.slots := ⟨Nat.le_trans hroom.1 hR.2.2.1, Nat.le_trans hroom.2 hR.2.2.2⟩
  obtain ⟨v1, v2, v4, v5, v6, v7⟩ := hV
  refine g_after (va_runI (As := As) ⟨hx, hb, hml, hown, hts⟩ hM ⟨callB_of n2 hts (gGood v5 rfl) rfl rfl rfl (hts _ v4) (hts _ v1) v6 hR2, v7, hts _ v2⟩ ⟨fun a U g mk q => ⟨q.1, q.2.1, q.2.2.1, va_K.moved (u := U) (U := U.calling g mk a) (Vm.Alike.refl U.vm) q.2.2.2⟩, fun U hU hWm => ⟨rfl, by rw [hU]; exact hz, by rw [hU]; exact hW.weaken (fun _ _ => trivial), va_K.moved hWm.alike hK⟩⟩ rfl hAs (hl.1.trans hll) hst (lv_room hcat) hd hf9) hz hW hS hA (fun rv z1 L1 σ1 H1 locs1 hp hz1 hW1 hS1 => kk rv z1 L1 σ1 hp H1 locs1 ls hz1 hW1 hS1 hl)
end GE
end
