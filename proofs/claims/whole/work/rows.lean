section
-- ===== PART A: goes FIRST, ahead of the names: the tables' words, and 'selects' of the private methods out of them =====
/-- a private method of a class that the tables say can be made, by its rows of tables_1 -/
def lw_okq (q : MethodName × Nat) : Prop := (q.1.cls ≠ "java/lang/invoke/MethodHandle" ∧ q.1.cls ≠ "java/lang/invoke/VarHandle") ∧ Cond.instantiable q.1.cls q.2 ∈ tables_1 ∧ Cond.privateMethod q.1 ∈ tables_1 ∧ Cond.instanceMethod q.1 ∈ tables_1
theorem lw_p0 : lw_okq (⟨"AnswerDoor$Reader", "take", "(II)I"⟩, 8) := ⟨⟨by decide +kernel, by decide +kernel⟩, List.mem_of_getElem? (i := 263) (by decide +kernel), List.mem_of_getElem? (i := 535) (by decide +kernel), List.mem_of_getElem? (i := 536) (by decide +kernel)⟩
theorem lw_p1 : lw_okq (⟨"AnswerDoor$Reader", "openNode", "(I)I"⟩, 8) := ⟨⟨by decide +kernel, by decide +kernel⟩, List.mem_of_getElem? (i := 263) (by decide +kernel), List.mem_of_getElem? (i := 539) (by decide +kernel), List.mem_of_getElem? (i := 540) (by decide +kernel)⟩
theorem lw_p2 : lw_okq (⟨"AnswerDoor$Reader", "closeNode", "(I)I"⟩, 8) := ⟨⟨by decide +kernel, by decide +kernel⟩, List.mem_of_getElem? (i := 263) (by decide +kernel), List.mem_of_getElem? (i := 543) (by decide +kernel), List.mem_of_getElem? (i := 544) (by decide +kernel)⟩
theorem lw_p3 : lw_okq (⟨"AnswerDoor$Reader", "addField", "(II)I"⟩, 8) := ⟨⟨by decide +kernel, by decide +kernel⟩, List.mem_of_getElem? (i := 263) (by decide +kernel), List.mem_of_getElem? (i := 548) (by decide +kernel), List.mem_of_getElem? (i := 549) (by decide +kernel)⟩
theorem lw_p4 : lw_okq (⟨"AnswerDoor$Tree", "priceOf", "(ILAnswerDoor$Store;)J"⟩, 8) := ⟨⟨by decide +kernel, by decide +kernel⟩, List.mem_of_getElem? (i := 216) (by decide +kernel), List.mem_of_getElem? (i := 556) (by decide +kernel), List.mem_of_getElem? (i := 557) (by decide +kernel)⟩
theorem lw_p5 : lw_okq (⟨"AnswerDoor$Round", "clear", "()V"⟩, 12) := ⟨⟨by decide +kernel, by decide +kernel⟩, List.mem_of_getElem? (i := 344) (by decide +kernel), List.mem_of_getElem? (i := 572) (by decide +kernel), List.mem_of_getElem? (i := 573) (by decide +kernel)⟩
theorem lw_p6 : lw_okq (⟨"AnswerDoor$Round", "need", "(III)V"⟩, 12) := ⟨⟨by decide +kernel, by decide +kernel⟩, List.mem_of_getElem? (i := 344) (by decide +kernel), List.mem_of_getElem? (i := 581) (by decide +kernel), List.mem_of_getElem? (i := 582) (by decide +kernel)⟩
theorem lw_p7 : lw_okq (⟨"AnswerDoor$Round", "meet", "(I)V"⟩, 12) := ⟨⟨by decide +kernel, by decide +kernel⟩, List.mem_of_getElem? (i := 344) (by decide +kernel), List.mem_of_getElem? (i := 585) (by decide +kernel), List.mem_of_getElem? (i := 586) (by decide +kernel)⟩
theorem lw_p8 : lw_okq (⟨"AnswerDoor$Round", "follow", "(III)V"⟩, 12) := ⟨⟨by decide +kernel, by decide +kernel⟩, List.mem_of_getElem? (i := 344) (by decide +kernel), List.mem_of_getElem? (i := 589) (by decide +kernel), List.mem_of_getElem? (i := 590) (by decide +kernel)⟩
theorem lw_p9 : lw_okq (⟨"AnswerDoor$Round", "makeCalls", "()V"⟩, 12) := ⟨⟨by decide +kernel, by decide +kernel⟩, List.mem_of_getElem? (i := 344) (by decide +kernel), List.mem_of_getElem? (i := 606) (by decide +kernel), List.mem_of_getElem? (i := 607) (by decide +kernel)⟩
theorem lw_p10 : lw_okq (⟨"AnswerDoor$Round", "turnTo", "(I)V"⟩, 12) := ⟨⟨by decide +kernel, by decide +kernel⟩, List.mem_of_getElem? (i := 344) (by decide +kernel), List.mem_of_getElem? (i := 610) (by decide +kernel), List.mem_of_getElem? (i := 611) (by decide +kernel)⟩
theorem lw_p11 : lw_okq (⟨"AnswerDoor$Round", "refuseAll", "(I)V"⟩, 12) := ⟨⟨by decide +kernel, by decide +kernel⟩, List.mem_of_getElem? (i := 344) (by decide +kernel), List.mem_of_getElem? (i := 618) (by decide +kernel), List.mem_of_getElem? (i := 619) (by decide +kernel)⟩
theorem lw_p12 : lw_okq (⟨"AnswerDoor$Round", "makeCall", "(II)V"⟩, 12) := ⟨⟨by decide +kernel, by decide +kernel⟩, List.mem_of_getElem? (i := 344) (by decide +kernel), List.mem_of_getElem? (i := 622) (by decide +kernel), List.mem_of_getElem? (i := 623) (by decide +kernel)⟩
theorem lw_p13 : lw_okq (⟨"AnswerDoor$Round", "isDone", "()Z"⟩, 12) := ⟨⟨by decide +kernel, by decide +kernel⟩, List.mem_of_getElem? (i := 344) (by decide +kernel), List.mem_of_getElem? (i := 634) (by decide +kernel), List.mem_of_getElem? (i := 635) (by decide +kernel)⟩
theorem lw_p14 : lw_okq (⟨"AnswerDoor$Round", "bringBack", "()V"⟩, 12) := ⟨⟨by decide +kernel, by decide +kernel⟩, List.mem_of_getElem? (i := 344) (by decide +kernel), List.mem_of_getElem? (i := 639) (by decide +kernel), List.mem_of_getElem? (i := 640) (by decide +kernel)⟩
theorem lw_p15 : lw_okq (⟨"AnswerDoor$Round", "takeBack", "(I)V"⟩, 12) := ⟨⟨by decide +kernel, by decide +kernel⟩, List.mem_of_getElem? (i := 344) (by decide +kernel), List.mem_of_getElem? (i := 643) (by decide +kernel), List.mem_of_getElem? (i := 644) (by decide +kernel)⟩
def lw_privs_1 : List (MethodName × Nat) := [(⟨"AnswerDoor$Reader", "take", "(II)I"⟩, 8), (⟨"AnswerDoor$Reader", "openNode", "(I)I"⟩, 8), (⟨"AnswerDoor$Reader", "closeNode", "(I)I"⟩, 8), (⟨"AnswerDoor$Reader", "addField", "(II)I"⟩, 8), (⟨"AnswerDoor$Tree", "priceOf", "(ILAnswerDoor$Store;)J"⟩, 8), (⟨"AnswerDoor$Round", "clear", "()V"⟩, 12), (⟨"AnswerDoor$Round", "need", "(III)V"⟩, 12), (⟨"AnswerDoor$Round", "meet", "(I)V"⟩, 12), (⟨"AnswerDoor$Round", "follow", "(III)V"⟩, 12), (⟨"AnswerDoor$Round", "makeCalls", "()V"⟩, 12), (⟨"AnswerDoor$Round", "turnTo", "(I)V"⟩, 12), (⟨"AnswerDoor$Round", "refuseAll", "(I)V"⟩, 12), (⟨"AnswerDoor$Round", "makeCall", "(II)V"⟩, 12), (⟨"AnswerDoor$Round", "isDone", "()Z"⟩, 12), (⟨"AnswerDoor$Round", "bringBack", "()V"⟩, 12), (⟨"AnswerDoor$Round", "takeBack", "(I)V"⟩, 12)]
theorem lw_r1 : ∀ q ∈ lw_privs_1, lw_okq q := List.forall_mem_cons.mpr ⟨lw_p0, List.forall_mem_cons.mpr ⟨lw_p1, List.forall_mem_cons.mpr ⟨lw_p2, List.forall_mem_cons.mpr ⟨lw_p3, List.forall_mem_cons.mpr ⟨lw_p4, List.forall_mem_cons.mpr ⟨lw_p5, List.forall_mem_cons.mpr ⟨lw_p6, List.forall_mem_cons.mpr ⟨lw_p7, List.forall_mem_cons.mpr ⟨lw_p8, List.forall_mem_cons.mpr ⟨lw_p9, List.forall_mem_cons.mpr ⟨lw_p10, List.forall_mem_cons.mpr ⟨lw_p11, List.forall_mem_cons.mpr ⟨lw_p12, List.forall_mem_cons.mpr ⟨lw_p13, List.forall_mem_cons.mpr ⟨lw_p14, List.forall_mem_cons.mpr ⟨lw_p15, fun _ h => absurd h List.not_mem_nil⟩⟩⟩⟩⟩⟩⟩⟩⟩⟩⟩⟩⟩⟩⟩⟩
theorem lw_p16 : lw_okq (⟨"AnswerDoor$Round", "learn", "(I)V"⟩, 12) := ⟨⟨by decide +kernel, by decide +kernel⟩, List.mem_of_getElem? (i := 344) (by decide +kernel), List.mem_of_getElem? (i := 670) (by decide +kernel), List.mem_of_getElem? (i := 671) (by decide +kernel)⟩
theorem lw_p17 : lw_okq (⟨"AnswerDoor$Round", "forgetTheRest", "()V"⟩, 12) := ⟨⟨by decide +kernel, by decide +kernel⟩, List.mem_of_getElem? (i := 344) (by decide +kernel), List.mem_of_getElem? (i := 678) (by decide +kernel), List.mem_of_getElem? (i := 679) (by decide +kernel)⟩
theorem lw_p18 : lw_okq (⟨"AnswerDoor$Teller", "tellThing", "(III)Z"⟩, 6) := ⟨⟨by decide +kernel, by decide +kernel⟩, List.mem_of_getElem? (i := 389) (by decide +kernel), List.mem_of_getElem? (i := 687) (by decide +kernel), List.mem_of_getElem? (i := 688) (by decide +kernel)⟩
theorem lw_p19 : lw_okq (⟨"AnswerDoor$Teller", "tellNull", "(I)Z"⟩, 6) := ⟨⟨by decide +kernel, by decide +kernel⟩, List.mem_of_getElem? (i := 389) (by decide +kernel), List.mem_of_getElem? (i := 691) (by decide +kernel), List.mem_of_getElem? (i := 692) (by decide +kernel)⟩
theorem lw_p20 : lw_okq (⟨"AnswerDoor$Teller", "put", "(I)V"⟩, 6) := ⟨⟨by decide +kernel, by decide +kernel⟩, List.mem_of_getElem? (i := 389) (by decide +kernel), List.mem_of_getElem? (i := 695) (by decide +kernel), List.mem_of_getElem? (i := 696) (by decide +kernel)⟩
theorem lw_p21 : lw_okq (⟨"AnswerDoor$Teller", "tellField", "(III)Z"⟩, 6) := ⟨⟨by decide +kernel, by decide +kernel⟩, List.mem_of_getElem? (i := 389) (by decide +kernel), List.mem_of_getElem? (i := 699) (by decide +kernel), List.mem_of_getElem? (i := 700) (by decide +kernel)⟩
theorem lw_p22 : lw_okq (⟨"AnswerDoorModel", "goesOn", "(I)V"⟩, 62) := ⟨⟨by decide +kernel, by decide +kernel⟩, List.mem_of_getElem? (i := 741) (by decide +kernel), List.mem_of_getElem? (i := 985) (by decide +kernel), List.mem_of_getElem? (i := 986) (by decide +kernel)⟩
theorem lw_p23 : lw_okq (⟨"AnswerDoorModel", "put", "(I)V"⟩, 62) := ⟨⟨by decide +kernel, by decide +kernel⟩, List.mem_of_getElem? (i := 741) (by decide +kernel), List.mem_of_getElem? (i := 993) (by decide +kernel), List.mem_of_getElem? (i := 994) (by decide +kernel)⟩
theorem lw_p24 : lw_okq (⟨"AnswerDoorModel", "reads", "(I)V"⟩, 62) := ⟨⟨by decide +kernel, by decide +kernel⟩, List.mem_of_getElem? (i := 741) (by decide +kernel), List.mem_of_getElem? (i := 1005) (by decide +kernel), List.mem_of_getElem? (i := 1006) (by decide +kernel)⟩
theorem lw_p25 : lw_okq (⟨"AnswerDoorModel", "next", "()I"⟩, 62) := ⟨⟨by decide +kernel, by decide +kernel⟩, List.mem_of_getElem? (i := 741) (by decide +kernel), List.mem_of_getElem? (i := 1009) (by decide +kernel), List.mem_of_getElem? (i := 1010) (by decide +kernel)⟩
theorem lw_p26 : lw_okq (⟨"AnswerDoorModel", "fails", "(II)V"⟩, 62) := ⟨⟨by decide +kernel, by decide +kernel⟩, List.mem_of_getElem? (i := 741) (by decide +kernel), List.mem_of_getElem? (i := 1013) (by decide +kernel), List.mem_of_getElem? (i := 1014) (by decide +kernel)⟩
theorem lw_p27 : lw_okq (⟨"AnswerDoorModel", "begins", "(IJI)V"⟩, 62) := ⟨⟨by decide +kernel, by decide +kernel⟩, List.mem_of_getElem? (i := 741) (by decide +kernel), List.mem_of_getElem? (i := 1017) (by decide +kernel), List.mem_of_getElem? (i := 1018) (by decide +kernel)⟩
theorem lw_p28 : lw_okq (⟨"AnswerDoorModel", "prices", "(J)I"⟩, 62) := ⟨⟨by decide +kernel, by decide +kernel⟩, List.mem_of_getElem? (i := 741) (by decide +kernel), List.mem_of_getElem? (i := 1021) (by decide +kernel), List.mem_of_getElem? (i := 1022) (by decide +kernel)⟩
theorem lw_p29 : lw_okq (⟨"AnswerDoorModel", "needs", "(II)V"⟩, 62) := ⟨⟨by decide +kernel, by decide +kernel⟩, List.mem_of_getElem? (i := 741) (by decide +kernel), List.mem_of_getElem? (i := 1031) (by decide +kernel), List.mem_of_getElem? (i := 1032) (by decide +kernel)⟩
theorem lw_p30 : lw_okq (⟨"AnswerDoorModel", "nulls", "(II)V"⟩, 62) := ⟨⟨by decide +kernel, by decide +kernel⟩, List.mem_of_getElem? (i := 741) (by decide +kernel), List.mem_of_getElem? (i := 1035) (by decide +kernel), List.mem_of_getElem? (i := 1036) (by decide +kernel)⟩
theorem lw_p31 : lw_okq (⟨"AnswerDoorModel", "goesOn", "(II)V"⟩, 62) := ⟨⟨by decide +kernel, by decide +kernel⟩, List.mem_of_getElem? (i := 741) (by decide +kernel), List.mem_of_getElem? (i := 1039) (by decide +kernel), List.mem_of_getElem? (i := 1040) (by decide +kernel)⟩
def lw_privs_2 : List (MethodName × Nat) := [(⟨"AnswerDoor$Round", "learn", "(I)V"⟩, 12), (⟨"AnswerDoor$Round", "forgetTheRest", "()V"⟩, 12), (⟨"AnswerDoor$Teller", "tellThing", "(III)Z"⟩, 6), (⟨"AnswerDoor$Teller", "tellNull", "(I)Z"⟩, 6), (⟨"AnswerDoor$Teller", "put", "(I)V"⟩, 6), (⟨"AnswerDoor$Teller", "tellField", "(III)Z"⟩, 6), (⟨"AnswerDoorModel", "goesOn", "(I)V"⟩, 62), (⟨"AnswerDoorModel", "put", "(I)V"⟩, 62), (⟨"AnswerDoorModel", "reads", "(I)V"⟩, 62), (⟨"AnswerDoorModel", "next", "()I"⟩, 62), (⟨"AnswerDoorModel", "fails", "(II)V"⟩, 62), (⟨"AnswerDoorModel", "begins", "(IJI)V"⟩, 62), (⟨"AnswerDoorModel", "prices", "(J)I"⟩, 62), (⟨"AnswerDoorModel", "needs", "(II)V"⟩, 62), (⟨"AnswerDoorModel", "nulls", "(II)V"⟩, 62), (⟨"AnswerDoorModel", "goesOn", "(II)V"⟩, 62)]
theorem lw_r2 : ∀ q ∈ lw_privs_2, lw_okq q := List.forall_mem_cons.mpr ⟨lw_p16, List.forall_mem_cons.mpr ⟨lw_p17, List.forall_mem_cons.mpr ⟨lw_p18, List.forall_mem_cons.mpr ⟨lw_p19, List.forall_mem_cons.mpr ⟨lw_p20, List.forall_mem_cons.mpr ⟨lw_p21, List.forall_mem_cons.mpr ⟨lw_p22, List.forall_mem_cons.mpr ⟨lw_p23, List.forall_mem_cons.mpr ⟨lw_p24, List.forall_mem_cons.mpr ⟨lw_p25, List.forall_mem_cons.mpr ⟨lw_p26, List.forall_mem_cons.mpr ⟨lw_p27, List.forall_mem_cons.mpr ⟨lw_p28, List.forall_mem_cons.mpr ⟨lw_p29, List.forall_mem_cons.mpr ⟨lw_p30, List.forall_mem_cons.mpr ⟨lw_p31, fun _ h => absurd h List.not_mem_nil⟩⟩⟩⟩⟩⟩⟩⟩⟩⟩⟩⟩⟩⟩⟩⟩
theorem lw_p32 : lw_okq (⟨"AnswerDoorModel", "many", "(II)I"⟩, 62) := ⟨⟨by decide +kernel, by decide +kernel⟩, List.mem_of_getElem? (i := 741) (by decide +kernel), List.mem_of_getElem? (i := 1043) (by decide +kernel), List.mem_of_getElem? (i := 1044) (by decide +kernel)⟩
theorem lw_p33 : lw_okq (⟨"AnswerDoorModel", "rowKey", "(III)I"⟩, 62) := ⟨⟨by decide +kernel, by decide +kernel⟩, List.mem_of_getElem? (i := 741) (by decide +kernel), List.mem_of_getElem? (i := 1047) (by decide +kernel), List.mem_of_getElem? (i := 1048) (by decide +kernel)⟩
theorem lw_p34 : lw_okq (⟨"AnswerDoorModel", "comeBack", "()V"⟩, 62) := ⟨⟨by decide +kernel, by decide +kernel⟩, List.mem_of_getElem? (i := 741) (by decide +kernel), List.mem_of_getElem? (i := 1051) (by decide +kernel), List.mem_of_getElem? (i := 1052) (by decide +kernel)⟩
theorem lw_p35 : lw_okq (⟨"AnswerDoorModel", "comesBack", "(I)V"⟩, 62) := ⟨⟨by decide +kernel, by decide +kernel⟩, List.mem_of_getElem? (i := 741) (by decide +kernel), List.mem_of_getElem? (i := 1055) (by decide +kernel), List.mem_of_getElem? (i := 1056) (by decide +kernel)⟩
theorem lw_p36 : lw_okq (⟨"AnswerDoorModel", "isDown", "(II)Z"⟩, 62) := ⟨⟨by decide +kernel, by decide +kernel⟩, List.mem_of_getElem? (i := 741) (by decide +kernel), List.mem_of_getElem? (i := 1059) (by decide +kernel), List.mem_of_getElem? (i := 1060) (by decide +kernel)⟩
theorem lw_p37 : lw_okq (⟨"AnswerDoorModel", "opens", "(I)V"⟩, 62) := ⟨⟨by decide +kernel, by decide +kernel⟩, List.mem_of_getElem? (i := 741) (by decide +kernel), List.mem_of_getElem? (i := 1063) (by decide +kernel), List.mem_of_getElem? (i := 1064) (by decide +kernel)⟩
theorem lw_p38 : lw_okq (⟨"AnswerDoorModel", "makes", "(I)V"⟩, 62) := ⟨⟨by decide +kernel, by decide +kernel⟩, List.mem_of_getElem? (i := 741) (by decide +kernel), List.mem_of_getElem? (i := 1067) (by decide +kernel), List.mem_of_getElem? (i := 1068) (by decide +kernel)⟩
theorem lw_p39 : lw_okq (⟨"AnswerDoorModel", "first", "(I)I"⟩, 62) := ⟨⟨by decide +kernel, by decide +kernel⟩, List.mem_of_getElem? (i := 741) (by decide +kernel), List.mem_of_getElem? (i := 1071) (by decide +kernel), List.mem_of_getElem? (i := 1072) (by decide +kernel)⟩
theorem lw_p40 : lw_okq (⟨"AnswerDoorModel", "calls", "(II)V"⟩, 62) := ⟨⟨by decide +kernel, by decide +kernel⟩, List.mem_of_getElem? (i := 741) (by decide +kernel), List.mem_of_getElem? (i := 1075) (by decide +kernel), List.mem_of_getElem? (i := 1076) (by decide +kernel)⟩
theorem lw_p41 : lw_okq (⟨"AnswerDoorModel", "ends", "()V"⟩, 62) := ⟨⟨by decide +kernel, by decide +kernel⟩, List.mem_of_getElem? (i := 741) (by decide +kernel), List.mem_of_getElem? (i := 1079) (by decide +kernel), List.mem_of_getElem? (i := 1080) (by decide +kernel)⟩
theorem lw_p42 : lw_okq (⟨"AnswerDoorModel", "isOver", "()Z"⟩, 62) := ⟨⟨by decide +kernel, by decide +kernel⟩, List.mem_of_getElem? (i := 741) (by decide +kernel), List.mem_of_getElem? (i := 1083) (by decide +kernel), List.mem_of_getElem? (i := 1084) (by decide +kernel)⟩
theorem lw_p43 : lw_okq (⟨"AnswerDoorModel", "answers", "(II)V"⟩, 62) := ⟨⟨by decide +kernel, by decide +kernel⟩, List.mem_of_getElem? (i := 741) (by decide +kernel), List.mem_of_getElem? (i := 1087) (by decide +kernel), List.mem_of_getElem? (i := 1088) (by decide +kernel)⟩
theorem lw_p44 : lw_okq (⟨"AnswerDoorModel", "saysNull", "(I)V"⟩, 62) := ⟨⟨by decide +kernel, by decide +kernel⟩, List.mem_of_getElem? (i := 741) (by decide +kernel), List.mem_of_getElem? (i := 1091) (by decide +kernel), List.mem_of_getElem? (i := 1092) (by decide +kernel)⟩
theorem lw_p45 : lw_okq (⟨"AnswerDoorModel", "says", "(I)V"⟩, 62) := ⟨⟨by decide +kernel, by decide +kernel⟩, List.mem_of_getElem? (i := 741) (by decide +kernel), List.mem_of_getElem? (i := 1095) (by decide +kernel), List.mem_of_getElem? (i := 1096) (by decide +kernel)⟩
theorem lw_p46 : lw_okq (⟨"AnswerDoorModel", "isNull", "(II)Z"⟩, 62) := ⟨⟨by decide +kernel, by decide +kernel⟩, List.mem_of_getElem? (i := 741) (by decide +kernel), List.mem_of_getElem? (i := 1099) (by decide +kernel), List.mem_of_getElem? (i := 1100) (by decide +kernel)⟩
def lw_privs_3 : List (MethodName × Nat) := [(⟨"AnswerDoorModel", "many", "(II)I"⟩, 62), (⟨"AnswerDoorModel", "rowKey", "(III)I"⟩, 62), (⟨"AnswerDoorModel", "comeBack", "()V"⟩, 62), (⟨"AnswerDoorModel", "comesBack", "(I)V"⟩, 62), (⟨"AnswerDoorModel", "isDown", "(II)Z"⟩, 62), (⟨"AnswerDoorModel", "opens", "(I)V"⟩, 62), (⟨"AnswerDoorModel", "makes", "(I)V"⟩, 62), (⟨"AnswerDoorModel", "first", "(I)I"⟩, 62), (⟨"AnswerDoorModel", "calls", "(II)V"⟩, 62), (⟨"AnswerDoorModel", "ends", "()V"⟩, 62), (⟨"AnswerDoorModel", "isOver", "()Z"⟩, 62), (⟨"AnswerDoorModel", "answers", "(II)V"⟩, 62), (⟨"AnswerDoorModel", "saysNull", "(I)V"⟩, 62), (⟨"AnswerDoorModel", "says", "(I)V"⟩, 62), (⟨"AnswerDoorModel", "isNull", "(II)Z"⟩, 62)]
theorem lw_r3 : ∀ q ∈ lw_privs_3, lw_okq q := List.forall_mem_cons.mpr ⟨lw_p32, List.forall_mem_cons.mpr ⟨lw_p33, List.forall_mem_cons.mpr ⟨lw_p34, List.forall_mem_cons.mpr ⟨lw_p35, List.forall_mem_cons.mpr ⟨lw_p36, List.forall_mem_cons.mpr ⟨lw_p37, List.forall_mem_cons.mpr ⟨lw_p38, List.forall_mem_cons.mpr ⟨lw_p39, List.forall_mem_cons.mpr ⟨lw_p40, List.forall_mem_cons.mpr ⟨lw_p41, List.forall_mem_cons.mpr ⟨lw_p42, List.forall_mem_cons.mpr ⟨lw_p43, List.forall_mem_cons.mpr ⟨lw_p44, List.forall_mem_cons.mpr ⟨lw_p45, List.forall_mem_cons.mpr ⟨lw_p46, fun _ h => absurd h List.not_mem_nil⟩⟩⟩⟩⟩⟩⟩⟩⟩⟩⟩⟩⟩⟩⟩
def lw_privs : List (MethodName × Nat) := lw_privs_1 ++ (lw_privs_2 ++ (lw_privs_3))
def lw_tbl : List Cond := k2_sels lw_privs ++ tables_1
theorem lw_privs_ok : ∀ q ∈ lw_privs, lw_okq q := by
  show ∀ q ∈ lw_privs_1 ++ (lw_privs_2 ++ (lw_privs_3)), lw_okq q
  exact List.forall_mem_append.mpr ⟨lw_r1, List.forall_mem_append.mpr ⟨lw_r2, lw_r3⟩⟩

-- ===== names: classes by number, their fields, their methods =====
def RN : Nat → String := fun c => match c with
  | 0 => "AnswerDoor$Calls"
  | 1 => "AnswerDoor$Clock"
  | 2 => "AnswerDoor$Helper"
  | 3 => "AnswerDoor$Helpers"
  | 4 => "AnswerDoor$Reader"
  | 5 => "AnswerDoor$Round"
  | 6 => "AnswerDoor$Store"
  | 7 => "AnswerDoor$Tape"
  | 8 => "AnswerDoor$Teller"
  | 9 => "AnswerDoor$Tree"
  | 10 => "AnswerDoor"
  | 11 => "AnswerDoorModel"
  | 12 => "AnswerDoorLaw"
  | 13 => "java/lang/Math"
  | _ => "java/util/Arrays"
abbrev FD : Type := String × String × String × Bool
def fd_0 : List FD := [("AnswerDoor$Calls", "helperOf", "[I", true), ("AnswerDoor$Calls", "typeOf", "[I", true), ("AnswerDoor$Calls", "tick", "[I", true), ("AnswerDoor$Calls", "size", "[I", true), ("AnswerDoor$Calls", "fate", "[I", true), ("AnswerDoor$Calls", "made", "I", false), ("AnswerDoor$Calls", "firstOnWay", "I", false), ("AnswerDoor$Calls", "start", "[I", true), ("AnswerDoor$Calls", "keys", "[I", true), ("AnswerDoor$Calls", "keysInAll", "I", false)]
def fd_1 : List FD := [("AnswerDoor$Clock", "rights", "[I", true), ("AnswerDoor$Clock", "full", "[I", true), ("AnswerDoor$Clock", "fill", "[I", true), ("AnswerDoor$Clock", "has", "[I", true), ("AnswerDoor$Clock", "now", "I", false)]
def fd_2 : List FD := [("AnswerDoor$Helper", "delay", "I", false), ("AnswerDoor$Helper", "batch", "I", false), ("AnswerDoor$Helper", "rate", "I", false), ("AnswerDoor$Helper", "fails", "I", false), ("AnswerDoor$Helper", "wait", "I", false), ("AnswerDoor$Helper", "closed", "Z", false), ("AnswerDoor$Helper", "failed", "I", false), ("AnswerDoor$Helper", "openTo", "I", false), ("AnswerDoor$Helper", "tryCall", "I", false)]
def fd_3 : List FD := [("AnswerDoor$Helpers", "each", "[LAnswerDoor$Helper;", true), ("AnswerDoor$Helpers", "spells", "I", false), ("AnswerDoor$Helpers", "spellOf", "[I", true), ("AnswerDoor$Helpers", "spellFrom", "[I", true), ("AnswerDoor$Helpers", "spellTo", "[I", true)]
def fd_4 : List FD := [("AnswerDoor$Reader", "tree", "LAnswerDoor$Tree;", true), ("AnswerDoor$Reader", "store", "LAnswerDoor$Store;", true), ("AnswerDoor$Reader", "openNodes", "[I", true), ("AnswerDoor$Reader", "level", "I", false), ("AnswerDoor$Reader", "wants", "I", false), ("AnswerDoor$Reader", "nextType", "I", false), ("AnswerDoor$Reader", "nextTimes", "I", false), ("AnswerDoor$Reader", "nextSlot", "I", false)]
def fd_5 : List FD := [("AnswerDoor$Round", "fate", "[I", true), ("AnswerDoor$Round", "asked", "I", false), ("AnswerDoor$Round", "clock", "LAnswerDoor$Clock;", true), ("AnswerDoor$Round", "helpers", "LAnswerDoor$Helpers;", true), ("AnswerDoor$Round", "store", "LAnswerDoor$Store;", true), ("AnswerDoor$Round", "tree", "LAnswerDoor$Tree;", true), ("AnswerDoor$Round", "calls", "LAnswerDoor$Calls;", true), ("AnswerDoor$Round", "neededBy", "[I", true), ("AnswerDoor$Round", "queue", "[I", true), ("AnswerDoor$Round", "firstWaiting", "I", false), ("AnswerDoor$Round", "waiting", "[I", true), ("AnswerDoor$Round", "rights", "I", false)]
def fd_6 : List FD := [("AnswerDoor$Store", "helperOf", "[I", true), ("AnswerDoor$Store", "price", "[I", true), ("AnswerDoor$Store", "life", "[I", true), ("AnswerDoor$Store", "kind", "[I", true), ("AnswerDoor$Store", "leadsTo", "[I", true), ("AnswerDoor$Store", "most", "[I", true), ("AnswerDoor$Store", "must", "[Z", true), ("AnswerDoor$Store", "there", "[Z", true), ("AnswerDoor$Store", "keptTo", "[I", true), ("AnswerDoor$Store", "numbers", "[I", true), ("AnswerDoor$Store", "refs", "[I", true), ("AnswerDoor$Store", "rowSizes", "[I", true), ("AnswerDoor$Store", "rows", "[I", true)]
def fd_7 : List FD := [("AnswerDoor$Tape", "bytes", "[I", true), ("AnswerDoor$Tape", "length", "I", false)]
def fd_8 : List FD := [("AnswerDoor$Teller", "told", "[I", true), ("AnswerDoor$Teller", "length", "I", false), ("AnswerDoor$Teller", "store", "LAnswerDoor$Store;", true), ("AnswerDoor$Teller", "tree", "LAnswerDoor$Tree;", true), ("AnswerDoor$Teller", "fate", "[I", true), ("AnswerDoor$Teller", "hasNull", "Z", false)]
def fd_9 : List FD := [("AnswerDoor$Tree", "type", "[I", true), ("AnswerDoor$Tree", "place", "[I", true), ("AnswerDoor$Tree", "times", "[I", true), ("AnswerDoor$Tree", "level", "[I", true), ("AnswerDoor$Tree", "width", "[I", true), ("AnswerDoor$Tree", "fields", "[I", true), ("AnswerDoor$Tree", "children", "[I", true), ("AnswerDoor$Tree", "nodes", "I", false)]
def fd_10 : List FD := [("AnswerDoor", "clock", "LAnswerDoor$Clock;", true), ("AnswerDoor", "helpers", "LAnswerDoor$Helpers;", true), ("AnswerDoor", "store", "LAnswerDoor$Store;", true), ("AnswerDoor", "tape", "LAnswerDoor$Tape;", true), ("AnswerDoor", "tree", "LAnswerDoor$Tree;", true), ("AnswerDoor", "reader", "LAnswerDoor$Reader;", true), ("AnswerDoor", "calls", "LAnswerDoor$Calls;", true), ("AnswerDoor", "round", "LAnswerDoor$Round;", true), ("AnswerDoor", "teller", "LAnswerDoor$Teller;", true), ("AnswerDoor", "dearPlace", "I", false)]
def fd_11 : List FD := [("AnswerDoorModel", "thrown", "I", false), ("AnswerDoorModel", "now", "I", false), ("AnswerDoorModel", "delay", "[I", true), ("AnswerDoorModel", "batch", "[I", true), ("AnswerDoorModel", "rate", "[I", true), ("AnswerDoorModel", "fails", "[I", true), ("AnswerDoorModel", "wait", "[I", true), ("AnswerDoorModel", "failed", "[I", true), ("AnswerDoorModel", "behind", "[I", true), ("AnswerDoorModel", "tried", "[I", true), ("AnswerDoorModel", "spells", "I", false), ("AnswerDoorModel", "downHelper", "[I", true), ("AnswerDoorModel", "downFrom", "[I", true), ("AnswerDoorModel", "downTo", "[I", true), ("AnswerDoorModel", "helperOf", "[I", true), ("AnswerDoorModel", "price", "[I", true), ("AnswerDoorModel", "life", "[I", true), ("AnswerDoorModel", "kind", "[I", true), ("AnswerDoorModel", "of", "[I", true), ("AnswerDoorModel", "most", "[I", true), ("AnswerDoorModel", "must", "[Z", true), ("AnswerDoorModel", "isThere", "[Z", true), ("AnswerDoorModel", "number", "[I", true), ("AnswerDoorModel", "leads", "[I", true), ("AnswerDoorModel", "rows", "[I", true), ("AnswerDoorModel", "rowKeys", "[I", true), ("AnswerDoorModel", "until", "[I", true), ("AnswerDoorModel", "rights", "[I", true), ("AnswerDoorModel", "full", "[I", true), ("AnswerDoorModel", "fill", "[I", true), ("AnswerDoorModel", "bucket", "[I", true), ("AnswerDoorModel", "tape", "[B", true), ("AnswerDoorModel", "taped", "I", false), ("AnswerDoorModel", "at", "I", false), ("AnswerDoorModel", "fault", "I", false), ("AnswerDoorModel", "nodes", "I", false), ("AnswerDoorModel", "nodeType", "[I", true), ("AnswerDoorModel", "place", "[I", true), ("AnswerDoorModel", "wide", "[I", true), ("AnswerDoorModel", "digit", "[I", true), ("AnswerDoorModel", "child", "[I", true), ("AnswerDoorModel", "times", "[J", true), ("AnswerDoorModel", "open", "[I", true), ("AnswerDoorModel", "costs", "J", false), ("AnswerDoorModel", "state", "[I", true), ("AnswerDoorModel", "reason", "[I", true), ("AnswerDoorModel", "isNeeded", "[Z", true), ("AnswerDoorModel", "waits", "I", false), ("AnswerDoorModel", "queue", "[I", true), ("AnswerDoorModel", "asker", "I", false), ("AnswerDoorModel", "askedFor", "I", false), ("AnswerDoorModel", "calls", "I", false), ("AnswerDoorModel", "callHelper", "[I", true), ("AnswerDoorModel", "callType", "[I", true), ("AnswerDoorModel", "callTick", "[I", true), ("AnswerDoorModel", "callKeys", "[I", true), ("AnswerDoorModel", "callEnd", "[I", true), ("AnswerDoorModel", "callKey", "[I", true), ("AnswerDoorModel", "dear", "I", false), ("AnswerDoorModel", "numbers", "I", false), ("AnswerDoorModel", "hasNull", "Z", false), ("AnswerDoorModel", "answer", "[I", true)]
def FDs : List (List FD) := [fd_0, fd_1, fd_2, fd_3, fd_4, fd_5, fd_6, fd_7, fd_8, fd_9, fd_10, fd_11]
def TN (c k : Nat) : FD := (FDs.getD c []).getD k ("", "", "I", false)
def NNs : List Nat := [10, 5, 9, 5, 8, 12, 13, 2, 6, 8, 10, 62]
def NN (c : Nat) : Nat := NNs.getD c 0
-- what a field holds: 0 an int (boolean, byte too), 1 a long, 2 a reference
def TKs : List (List Nat) := [[2, 2, 2, 2, 2, 0, 0, 2, 2, 0], [2, 2, 2, 2, 0], [0, 0, 0, 0, 0, 0, 0, 0, 0], [2, 0, 2, 2, 2], [2, 2, 2, 0, 0, 0, 0, 0], [2, 0, 2, 2, 2, 2, 2, 2, 2, 0, 2, 0], [2, 2, 2, 2, 2, 2, 2, 2, 2, 2, 2, 2, 2], [2, 0], [2, 0, 2, 2, 2, 0], [2, 2, 2, 2, 2, 2, 2, 0], [2, 2, 2, 2, 2, 2, 2, 2, 2, 0], [0, 0, 2, 2, 2, 2, 2, 2, 2, 2, 0, 2, 2, 2, 2, 2, 2, 2, 2, 2, 2, 2, 2, 2, 2, 2, 2, 2, 2, 2, 2, 2, 0, 0, 0, 0, 2, 2, 2, 2, 2, 2, 2, 1, 2, 2, 2, 0, 2, 0, 0, 0, 2, 2, 2, 2, 2, 2, 0, 0, 0, 2]]
def tyK (c k : Nat) : Nat := (TKs.getD c []).getD k 0
def tyN (c k : Nat) : FieldType := (parseFieldDescriptor (TN c k).2.2.1).getD .int
def clsL : List vw_C := (List.range 12).map (fun c => (RN c, TN c, NN c))
theorem clsL_at {c : Nat} (h : c < 12) : clsL[c]? = some (RN c, TN c, NN c) := by
  unfold clsL
  rw [List.getElem?_map, List.getElem?_range h]
  rfl
theorem tyN_ok : ∀ c, c < 12 → ∀ k, k < NN c → parseFieldDescriptor (TN c k).2.2.1 = some (tyN c k) := by decide +kernel
theorem nmN : ∀ c, c < 12 → ∀ a, a < NN c → ∀ b, b < NN c → a ≠ b → (TN c a).2.1 ≠ (TN c b).2.1 := by decide +kernel
theorem inN : ∀ c, c < 12 → ∀ w ∈ u_ws (RN c) (TN c) (NN c), w ∈ lw_tbl := by decide +kernel
theorem tyK_ok : ∀ c, c < 12 → ∀ k, k < NN c → tyK c k = (match tyN c k with | .long => 1 | .object _ => 2 | .array _ => 2 | .float => 9 | .double => 9 | _ => 0) := by decide +kernel
end
section
abbrev Q4 : Type := Nat × Nat × Nat × Nat
-- (own class, index, class of the field, its number)
def FLT_0 : List Q4 := [(1, 9, 1, 0), (10, 171, 1, 0), (1, 15, 1, 1), (10, 174, 1, 1), (1, 18, 1, 2), (10, 177, 1, 2), (1, 21, 1, 3), (10, 180, 1, 3), (1, 29, 1, 4), (5, 129, 1, 4), (10, 189, 1, 4), (2, 9, 2, 0), (10, 94, 2, 0), (5, 145, 2, 0), (2, 15, 2, 1), (10, 99, 2, 1), (5, 208, 2, 1), (2, 18, 2, 2), (10, 102, 2, 2), (5, 205, 2, 2), (2, 21, 2, 3), (10, 105, 2, 3), (2, 24, 2, 4), (10, 108, 2, 4), (2, 27, 2, 5), (5, 201, 2, 5), (10, 243, 2, 5), (2, 31, 2, 6), (10, 250, 2, 6), (2, 34, 2, 7), (10, 253, 2, 7), (2, 37, 2, 8), (5, 214, 2, 8), (3, 11, 3, 0), (10, 90, 3, 0), (5, 138, 3, 0), (3, 28, 3, 1), (10, 115, 3, 1), (3, 17, 3, 2), (3, 21, 3, 3)]
def FLT_1 : List Q4 := [(3, 24, 3, 4), (6, 9, 6, 0), (10, 122, 6, 0), (5, 132, 6, 0), (6, 15, 6, 1), (9, 49, 6, 1), (10, 125, 6, 1), (6, 18, 6, 2), (10, 128, 6, 2), (6, 21, 6, 3), (8, 69, 6, 3), (10, 134, 6, 3), (4, 90, 6, 3), (6, 24, 6, 4), (10, 137, 6, 4), (4, 95, 6, 4), (6, 27, 6, 5), (10, 140, 6, 5), (4, 98, 6, 5), (6, 30, 6, 6), (8, 56, 6, 6), (10, 143, 6, 6), (6, 34, 6, 7), (10, 151, 6, 7), (5, 175, 6, 7), (6, 37, 6, 8), (10, 131, 6, 8), (5, 126, 6, 8), (6, 40, 6, 9), (8, 72, 6, 9), (10, 159, 6, 9), (6, 43, 6, 10), (10, 162, 6, 10), (6, 46, 6, 11), (10, 165, 6, 11), (6, 49, 6, 12), (10, 168, 6, 12), (7, 9, 7, 0), (4, 49, 7, 0), (7, 15, 7, 1)]
def FLT_2 : List Q4 := [(4, 44, 7, 1), (10, 196, 7, 1), (9, 9, 9, 0), (4, 70, 9, 0), (9, 15, 9, 1), (4, 76, 9, 1), (9, 18, 9, 2), (4, 73, 9, 2), (9, 21, 9, 3), (4, 82, 9, 3), (5, 188, 9, 3), (9, 24, 9, 4), (8, 48, 9, 4), (4, 79, 9, 4), (5, 105, 9, 4), (9, 27, 9, 5), (8, 62, 9, 5), (4, 87, 9, 5), (5, 110, 9, 5), (9, 30, 9, 6), (8, 78, 9, 6), (4, 84, 9, 6), (5, 119, 9, 6), (4, 23, 9, 7), (9, 33, 9, 7), (5, 185, 9, 7), (4, 15, 4, 0), (4, 19, 4, 1), (4, 9, 4, 2), (4, 29, 4, 3), (4, 32, 4, 4), (4, 35, 4, 5), (4, 38, 4, 6), (4, 41, 4, 7), (0, 9, 0, 0), (5, 144, 0, 0), (10, 229, 0, 0), (0, 15, 0, 1), (5, 169, 0, 1), (10, 230, 0, 1)]
def FLT_3 : List Q4 := [(0, 18, 0, 2), (5, 135, 0, 2), (10, 233, 0, 2), (0, 21, 0, 3), (5, 166, 0, 3), (10, 236, 0, 3), (0, 24, 0, 4), (5, 150, 0, 4), (10, 239, 0, 4), (0, 33, 0, 5), (5, 96, 0, 5), (10, 226, 0, 5), (0, 37, 0, 6), (5, 93, 0, 6), (0, 27, 0, 7), (0, 30, 0, 8), (0, 40, 0, 9), (5, 9, 5, 0), (10, 71, 5, 0), (5, 84, 5, 1), (10, 256, 5, 1), (5, 24, 5, 2), (5, 28, 5, 3), (5, 32, 5, 4), (5, 36, 5, 5), (5, 40, 5, 6), (5, 15, 5, 7), (5, 18, 5, 8), (5, 87, 5, 9), (5, 21, 5, 10), (5, 47, 5, 11), (8, 11, 8, 0), (10, 223, 8, 0), (8, 26, 8, 1), (10, 222, 8, 1), (8, 15, 8, 2), (8, 19, 8, 3), (8, 23, 8, 4), (8, 30, 8, 5), (10, 12, 10, 0)]
def FLT_4 : List Q4 := [(10, 19, 10, 1), (10, 26, 10, 2), (10, 33, 10, 3), (10, 40, 10, 4), (10, 49, 10, 5), (10, 56, 10, 6), (10, 65, 10, 7), (10, 78, 10, 8), (10, 82, 10, 9), (11, 176, 11, 1), (11, 9, 11, 2), (11, 13, 11, 3), (11, 16, 11, 4), (11, 19, 11, 5), (11, 22, 11, 6), (11, 25, 11, 7), (11, 28, 11, 8), (11, 31, 11, 9), (11, 166, 11, 10), (11, 34, 11, 11), (11, 37, 11, 12), (11, 40, 11, 13), (11, 43, 11, 14), (11, 46, 11, 15), (11, 49, 11, 16), (11, 52, 11, 17), (11, 55, 11, 18), (11, 58, 11, 19), (11, 61, 11, 20), (11, 65, 11, 21), (11, 68, 11, 22), (11, 71, 11, 23), (11, 74, 11, 24), (11, 77, 11, 25), (11, 80, 11, 26), (11, 83, 11, 27), (11, 86, 11, 28), (11, 89, 11, 29), (11, 92, 11, 30), (11, 95, 11, 31)]
def FLT_5 : List Q4 := [(11, 183, 11, 32), (11, 189, 11, 33), (11, 192, 11, 34), (11, 195, 11, 35), (11, 99, 11, 36), (11, 102, 11, 37), (11, 105, 11, 38), (11, 108, 11, 39), (11, 111, 11, 40), (11, 114, 11, 41), (11, 118, 11, 42), (11, 209, 11, 43), (11, 121, 11, 44), (11, 124, 11, 45), (11, 127, 11, 46), (11, 229, 11, 47), (11, 130, 11, 48), (11, 223, 11, 49), (11, 232, 11, 50), (11, 254, 11, 51), (11, 133, 11, 52), (11, 136, 11, 53), (11, 139, 11, 54), (11, 142, 11, 55), (11, 145, 11, 56), (11, 148, 11, 57), (11, 151, 11, 58), (11, 279, 11, 59), (11, 282, 11, 60), (11, 156, 11, 61)]
def FLT : List Q4 := FLT_0 ++ FLT_1 ++ FLT_2 ++ FLT_3 ++ FLT_4 ++ FLT_5
theorem in_fm {ws : List Jvm.Cond} {ps : List Nat} (h : ws = ps.filterMap (fun i => lw_tbl[i]?)) {w : Jvm.Cond} (hw : w ∈ ws) : w ∈ lw_tbl := by rw [h] at hw; obtain ⟨i, -, hi⟩ := List.mem_filterMap.mp hw; exact List.mem_of_getElem? hi
def flW (q : Q4) : Jvm.Cond := Jvm.Cond.fieldLink (RN q.1) q.2.1 (TN q.2.2.1 q.2.2.2).1 (TN q.2.2.1 q.2.2.2).2.1 (TN q.2.2.1 q.2.2.2).2.2.1
theorem FLT_w0 : FLT_0.map flW = ([79, 80, 81, 82, 83, 84, 85, 86, 87, 88, 89, 115, 116, 117, 118, 119, 120, 121, 122, 123, 124, 125, 126, 127, 128, 129, 130, 131, 132, 133, 134, 135, 136, 156, 157, 158, 159, 160, 161, 162] : List Nat).filterMap (fun i => lw_tbl[i]?) := by decide +kernel
theorem FLT_w1 : FLT_1.map flW = ([163, 182, 183, 184, 185, 186, 187, 188, 189, 190, 191, 192, 193, 194, 195, 196, 197, 198, 199, 200, 201, 202, 203, 204, 205, 206, 207, 208, 209, 210, 211, 212, 213, 214, 215, 216, 217, 252, 253, 254] : List Nat).filterMap (fun i => lw_tbl[i]?) := by decide +kernel
theorem FLT_w2 : FLT_2.map flW = ([255, 256, 268, 269, 270, 271, 272, 273, 274, 275, 276, 277, 278, 279, 280, 281, 282, 283, 284, 285, 286, 287, 288, 289, 290, 291, 315, 316, 317, 318, 319, 320, 321, 322, 346, 347, 348, 349, 350, 351] : List Nat).filterMap (fun i => lw_tbl[i]?) := by decide +kernel
theorem FLT_w3 : FLT_3.map flW = ([352, 353, 354, 355, 356, 357, 358, 359, 360, 361, 362, 363, 364, 365, 366, 367, 368, 396, 397, 398, 399, 400, 401, 402, 403, 404, 405, 406, 407, 408, 409, 441, 442, 443, 444, 445, 446, 447, 448, 462] : List Nat).filterMap (fun i => lw_tbl[i]?) := by decide +kernel
theorem FLT_w4 : FLT_4.map flW = ([463, 464, 465, 466, 467, 468, 469, 470, 471, 794, 795, 796, 797, 798, 799, 800, 801, 802, 803, 804, 805, 806, 807, 808, 809, 810, 811, 812, 813, 814, 815, 816, 817, 818, 819, 820, 821, 822, 823, 824] : List Nat).filterMap (fun i => lw_tbl[i]?) := by decide +kernel
theorem FLT_w5 : FLT_5.map flW = ([825, 826, 827, 828, 829, 830, 831, 832, 833, 834, 835, 836, 837, 838, 839, 840, 841, 842, 843, 844, 845, 846, 847, 848, 849, 850, 851, 852, 853, 854] : List Nat).filterMap (fun i => lw_tbl[i]?) := by decide +kernel
theorem FLT_ok : ∀ q ∈ FLT, Jvm.Cond.fieldLink (RN q.1) q.2.1 (TN q.2.2.1 q.2.2.2).1 (TN q.2.2.1 q.2.2.2).2.1 (TN q.2.2.1 q.2.2.2).2.2.1 ∈ lw_tbl := by
  intro q hq
  simp only [FLT, List.mem_append] at hq
  rcases hq with ((((h | h) | h) | h) | h) | h
  · exact in_fm FLT_w0 (List.mem_map.mpr ⟨q, h, rfl⟩)
  · exact in_fm FLT_w1 (List.mem_map.mpr ⟨q, h, rfl⟩)
  · exact in_fm FLT_w2 (List.mem_map.mpr ⟨q, h, rfl⟩)
  · exact in_fm FLT_w3 (List.mem_map.mpr ⟨q, h, rfl⟩)
  · exact in_fm FLT_w4 (List.mem_map.mpr ⟨q, h, rfl⟩)
  · exact in_fm FLT_w5 (List.mem_map.mpr ⟨q, h, rfl⟩)
theorem FLT_in : ∀ q ∈ FLT, q.2.2.1 < 12 ∧ q.2.2.2 < NN q.2.2.1 := by decide +kernel
-- a method: name, bytes, locals, what it returns, its class, how many arguments (the receiver counts)
abbrev MD : Type := MethodName × ByteArray × Nat × Option FieldType × Nat × Nat
def MTs_0 : List MD := [(⟨RN 0, "<init>", "()V"⟩, prog_2_method_1_code, 1, none, 0, 1), (⟨RN 0, "clear", "()V"⟩, prog_2_method_2_code, 1, none, 0, 1), (⟨RN 0, "begin", "(III)V"⟩, prog_2_method_3_code, 4, none, 0, 4), (⟨RN 0, "addKey", "(I)V"⟩, prog_2_method_4_code, 2, none, 0, 2), (⟨RN 0, "finish", "(II)V"⟩, prog_2_method_6_code, 3, none, 0, 3), (⟨RN 0, "keyAt", "(II)I"⟩, prog_2_method_5_code, 3, (some .int), 0, 3), (⟨RN 1, "<init>", "()V"⟩, prog_3_method_1_code, 1, none, 1, 1), (⟨RN 1, "goBy", "(I)V"⟩, prog_3_method_2_code, 3, none, 1, 2), (⟨RN 2, "<init>", "()V"⟩, prog_4_method_1_code, 1, none, 2, 1), (⟨RN 2, "close", "()V"⟩, prog_4_method_2_code, 1, none, 2, 1), (⟨RN 2, "isOpen", "(I)Z"⟩, prog_4_method_4_code, 2, (some .boolean), 2, 2), (⟨RN 2, "cameBack", "(IZI)V"⟩, prog_4_method_5_code, 5, none, 2, 4), (⟨RN 2, "open", "(I)V"⟩, prog_4_method_3_code, 2, none, 2, 2), (⟨RN 3, "<init>", "()V"⟩, prog_5_method_1_code, 2, none, 3, 1), (⟨RN 3, "addSpell", "(III)I"⟩, prog_5_method_2_code, 4, (some .int), 3, 4), (⟨RN 3, "isDown", "(II)Z"⟩, prog_5_method_3_code, 4, (some .boolean), 3, 3), (⟨RN 4, "<init>", "(LAnswerDoor$Tree;LAnswerDoor$Store;)V"⟩, prog_6_method_1_code, 3, none, 4, 3), (⟨RN 4, "read", "(LAnswerDoor$Tape;I)I"⟩, prog_6_method_2_code, 5, (some .int), 4, 3), (⟨RN 4, "take", "(II)I"⟩, prog_6_method_3_code, 4, (some .int), 4, 3), (⟨RN 4, "openNode", "(I)I"⟩, prog_6_method_4_code, 3, (some .int), 4, 2)]
def MTs_1 : List MD := [(⟨RN 4, "closeNode", "(I)I"⟩, prog_6_method_5_code, 2, (some .int), 4, 2), (⟨RN 4, "addField", "(II)I"⟩, prog_6_method_6_code, 6, (some .int), 4, 3), (⟨RN 5, "<init>", "(LAnswerDoor$Clock;LAnswerDoor$Helpers;LAnswerDoor$Store;LAnswerDoor$Tree;LAnswerDoor$Calls;)V"⟩, prog_7_method_1_code, 6, none, 5, 6), (⟨RN 5, "run", "(III)V"⟩, prog_7_method_2_code, 5, none, 5, 4), (⟨RN 5, "clear", "()V"⟩, prog_7_method_4_code, 1, none, 5, 1), (⟨RN 5, "need", "(III)V"⟩, prog_7_method_6_code, 5, none, 5, 4), (⟨RN 5, "meet", "(I)V"⟩, prog_7_method_8_code, 3, none, 5, 2), (⟨RN 5, "follow", "(III)V"⟩, prog_7_method_7_code, 8, none, 5, 4), (⟨RN 5, "makeCalls", "()V"⟩, prog_7_method_12_code, 2, none, 5, 1), (⟨RN 5, "turnTo", "(I)V"⟩, prog_7_method_13_code, 4, none, 5, 2), (⟨RN 5, "refuseAll", "(I)V"⟩, prog_7_method_14_code, 4, none, 5, 2), (⟨RN 5, "makeCall", "(II)V"⟩, prog_7_method_15_code, 8, none, 5, 3), (⟨RN 5, "isDone", "()Z"⟩, prog_7_method_5_code, 1, (some .boolean), 5, 1), (⟨RN 5, "bringBack", "()V"⟩, prog_7_method_9_code, 4, none, 5, 1), (⟨RN 5, "takeBack", "(I)V"⟩, prog_7_method_10_code, 6, none, 5, 2), (⟨RN 5, "learn", "(I)V"⟩, prog_7_method_11_code, 4, none, 5, 2), (⟨RN 5, "forgetTheRest", "()V"⟩, prog_7_method_16_code, 3, none, 5, 1), (⟨RN 5, "nulls", "()I"⟩, prog_7_method_3_code, 3, (some .int), 5, 1), (⟨RN 6, "<init>", "()V"⟩, prog_8_method_1_code, 1, none, 6, 1), (⟨RN 6, "links", "(II)I"⟩, prog_8_method_4_code, 5, (some .int), 6, 3)]
def MTs_2 : List MD := [(⟨RN 6, "fieldPlace", "(II)I"⟩, prog_8_method_3_code, 3, (some .int), 6, 3), (⟨RN 6, "linked", "(III)I"⟩, prog_8_method_5_code, 7, (some .int), 6, 4), (⟨RN 6, "keep", "(II)V"⟩, prog_8_method_2_code, 4, none, 6, 3), (⟨RN 7, "<init>", "()V"⟩, prog_9_method_1_code, 1, none, 7, 1), (⟨RN 7, "addWord", "(I)V"⟩, prog_9_method_2_code, 3, none, 7, 2), (⟨RN 8, "<init>", "(LAnswerDoor$Store;LAnswerDoor$Tree;[I)V"⟩, prog_10_method_1_code, 4, none, 8, 4), (⟨RN 8, "tell", "(I)Z"⟩, prog_10_method_2_code, 2, (some .boolean), 8, 2), (⟨RN 8, "tellThing", "(III)Z"⟩, prog_10_method_3_code, 8, (some .boolean), 8, 4), (⟨RN 8, "tellNull", "(I)Z"⟩, prog_10_method_5_code, 2, (some .boolean), 8, 2), (⟨RN 8, "put", "(I)V"⟩, prog_10_method_6_code, 2, none, 8, 2), (⟨RN 8, "tellField", "(III)Z"⟩, prog_10_method_4_code, 10, (some .boolean), 8, 4), (⟨RN 9, "<init>", "()V"⟩, prog_11_method_1_code, 1, none, 9, 1), (⟨RN 9, "priceInAll", "(LAnswerDoor$Store;)I"⟩, prog_11_method_2_code, 5, (some .int), 9, 2), (⟨RN 9, "priceOf", "(ILAnswerDoor$Store;)J"⟩, prog_11_method_4_code, 3, (some .long), 9, 3), (⟨RN 9, "placeAbove", "(ILAnswerDoor$Store;)I"⟩, prog_11_method_3_code, 6, (some .int), 9, 3), (⟨RN 10, "<init>", "()V"⟩, prog_1_method_1_code, 1, none, 10, 1), (⟨RN 10, "helper", "(IIIIII)Z"⟩, prog_1_method_2_code, 8, (some .boolean), 10, 7), (⟨RN 10, "within", "(III)Z"⟩, prog_1_method_22_code, 3, (some .boolean), 10, 3), (⟨RN 10, "down", "(III)I"⟩, prog_1_method_3_code, 4, (some .int), 10, 4), (⟨RN 10, "type", "(IIII)Z"⟩, prog_1_method_4_code, 6, (some .boolean), 10, 5)]
def MTs_3 : List MD := [(⟨RN 10, "field", "(IIIIIZ)Z"⟩, prog_1_method_5_code, 8, (some .boolean), 10, 7), (⟨RN 10, "thing", "(IIZ)Z"⟩, prog_1_method_6_code, 5, (some .boolean), 10, 4), (⟨RN 10, "isThing", "(II)Z"⟩, prog_1_method_23_code, 2, (some .boolean), 10, 2), (⟨RN 10, "number", "(IIII)Z"⟩, prog_1_method_7_code, 6, (some .boolean), 10, 5), (⟨RN 10, "isCell", "(III)Z"⟩, prog_1_method_24_code, 3, (some .boolean), 10, 3), (⟨RN 10, "key", "(IIII)Z"⟩, prog_1_method_8_code, 6, (some .boolean), 10, 5), (⟨RN 10, "row", "(IIIII)Z"⟩, prog_1_method_9_code, 7, (some .boolean), 10, 6), (⟨RN 10, "asker", "(IIII)Z"⟩, prog_1_method_10_code, 5, (some .boolean), 10, 5), (⟨RN 10, "pass", "(I)I"⟩, prog_1_method_11_code, 2, (some .int), 10, 2), (⟨RN 10, "feed", "(IIIII)I"⟩, prog_1_method_12_code, 6, (some .int), 10, 6), (⟨RN 10, "end", "(I)I"⟩, prog_1_method_13_code, 2, (some .int), 10, 2), (⟨RN 10, "ask", "(IIII)I"⟩, prog_1_method_14_code, 8, (some .int), 10, 5), (⟨RN 10, "cost", "(I)I"⟩, prog_1_method_15_code, 3, (some .int), 10, 2), (⟨RN 10, "dear", "()I"⟩, prog_1_method_16_code, 1, (some .int), 10, 1), (⟨RN 10, "answer", "(I)I"⟩, prog_1_method_17_code, 2, (some .int), 10, 2), (⟨RN 10, "call", "(II)I"⟩, prog_1_method_18_code, 3, (some .int), 10, 3), (⟨RN 10, "breaker", "(II)I"⟩, prog_1_method_19_code, 4, (some .int), 10, 3), (⟨RN 10, "kept", "(II)I"⟩, prog_1_method_20_code, 4, (some .int), 10, 3), (⟨RN 10, "count", "(I)I"⟩, prog_1_method_21_code, 2, (some .int), 10, 2), (⟨RN 11, "<init>", "()V"⟩, prog_13_method_1_code, 2, none, 11, 1)]
def MTs_4 : List MD := [(⟨RN 11, "helper", "(IIIIII)Z"⟩, prog_13_method_4_code, 7, (some .boolean), 11, 7), (⟨RN 11, "in", "(III)Z"⟩, prog_13_method_3_code, 3, (some .boolean), 11, 3), (⟨RN 11, "down", "(III)I"⟩, prog_13_method_5_code, 4, (some .int), 11, 4), (⟨RN 11, "type", "(IIII)Z"⟩, prog_13_method_7_code, 6, (some .boolean), 11, 5), (⟨RN 11, "field", "(IIIIIZ)Z"⟩, prog_13_method_8_code, 7, (some .boolean), 11, 7), (⟨RN 11, "thing", "(IIZ)Z"⟩, prog_13_method_10_code, 4, (some .boolean), 11, 4), (⟨RN 11, "isThing", "(II)Z"⟩, prog_13_method_9_code, 2, (some .boolean), 11, 2), (⟨RN 11, "number", "(IIII)Z"⟩, prog_13_method_11_code, 5, (some .boolean), 11, 5), (⟨RN 11, "key", "(IIII)Z"⟩, prog_13_method_12_code, 5, (some .boolean), 11, 5), (⟨RN 11, "row", "(IIIII)Z"⟩, prog_13_method_13_code, 6, (some .boolean), 11, 6), (⟨RN 11, "asker", "(IIII)Z"⟩, prog_13_method_14_code, 5, (some .boolean), 11, 5), (⟨RN 11, "pass", "(I)I"⟩, prog_13_method_16_code, 2, (some .int), 11, 2), (⟨RN 11, "goesOn", "(I)V"⟩, prog_13_method_15_code, 5, none, 11, 2), (⟨RN 11, "feed", "(IIIII)I"⟩, prog_13_method_17_code, 6, (some .int), 11, 6), (⟨RN 11, "put", "(I)V"⟩, prog_13_method_18_code, 3, none, 11, 2), (⟨RN 11, "end", "(I)I"⟩, prog_13_method_19_code, 2, (some .int), 11, 2), (⟨RN 11, "cost", "(I)I"⟩, prog_13_method_25_code, 2, (some .int), 11, 2), (⟨RN 11, "reads", "(I)V"⟩, prog_13_method_23_code, 7, none, 11, 2), (⟨RN 11, "next", "()I"⟩, prog_13_method_20_code, 1, (some .int), 11, 1), (⟨RN 11, "fails", "(II)V"⟩, prog_13_method_21_code, 3, none, 11, 3)]
def MTs_5 : List MD := [(⟨RN 11, "begins", "(IJI)V"⟩, prog_13_method_22_code, 5, none, 11, 4), (⟨RN 11, "prices", "(J)I"⟩, prog_13_method_24_code, 5, (some .int), 11, 2), (⟨RN 11, "ask", "(IIII)I"⟩, prog_13_method_39_code, 9, (some .int), 11, 5), (⟨RN 11, "needs", "(II)V"⟩, prog_13_method_27_code, 3, none, 11, 3), (⟨RN 11, "nulls", "(II)V"⟩, prog_13_method_26_code, 3, none, 11, 3), (⟨RN 11, "goesOn", "(II)V"⟩, prog_13_method_30_code, 8, none, 11, 3), (⟨RN 11, "many", "(II)I"⟩, prog_13_method_28_code, 5, (some .int), 11, 3), (⟨RN 11, "rowKey", "(III)I"⟩, prog_13_method_29_code, 4, (some .int), 11, 4), (⟨RN 11, "comeBack", "()V"⟩, prog_13_method_37_code, 3, none, 11, 1), (⟨RN 11, "comesBack", "(I)V"⟩, prog_13_method_32_code, 7, none, 11, 2), (⟨RN 11, "isDown", "(II)Z"⟩, prog_13_method_6_code, 5, (some .boolean), 11, 3), (⟨RN 11, "opens", "(I)V"⟩, prog_13_method_31_code, 2, none, 11, 2), (⟨RN 11, "makes", "(I)V"⟩, prog_13_method_35_code, 4, none, 11, 2), (⟨RN 11, "first", "(I)I"⟩, prog_13_method_33_code, 3, (some .int), 11, 2), (⟨RN 11, "calls", "(II)V"⟩, prog_13_method_34_code, 6, none, 11, 3), (⟨RN 11, "ends", "()V"⟩, prog_13_method_38_code, 2, none, 11, 1), (⟨RN 11, "isOver", "()Z"⟩, prog_13_method_36_code, 3, (some .boolean), 11, 1), (⟨RN 11, "answers", "(II)V"⟩, prog_13_method_43_code, 8, none, 11, 3), (⟨RN 11, "saysNull", "(I)V"⟩, prog_13_method_41_code, 2, none, 11, 2), (⟨RN 11, "says", "(I)V"⟩, prog_13_method_40_code, 2, none, 11, 2)]
def MTs_6 : List MD := [(⟨RN 11, "isNull", "(II)Z"⟩, prog_13_method_42_code, 9, (some .boolean), 11, 3), (⟨RN 11, "dear", "()I"⟩, prog_13_method_44_code, 1, (some .int), 11, 1), (⟨RN 11, "answer", "(I)I"⟩, prog_13_method_45_code, 2, (some .int), 11, 2), (⟨RN 11, "call", "(II)I"⟩, prog_13_method_46_code, 3, (some .int), 11, 3), (⟨RN 11, "breaker", "(II)I"⟩, prog_13_method_47_code, 3, (some .int), 11, 3), (⟨RN 11, "kept", "(II)I"⟩, prog_13_method_48_code, 3, (some .int), 11, 3), (⟨RN 11, "count", "(I)I"⟩, prog_13_method_49_code, 4, (some .int), 11, 2), (⟨RN 12, "law", "([I)Z"⟩, code, 4, (some .boolean), 12, 1), (⟨RN 13, "min", "(II)I"⟩, prog_14_method_69_code, 2, (some .int), 13, 2), (⟨RN 13, "min", "(JJ)J"⟩, prog_14_method_70_code, 4, (some .long), 13, 2), (⟨RN 14, "fill", "([II)V"⟩, prog_15_method_103_code, 4, none, 14, 2)]
def MTs : List MD := MTs_0 ++ MTs_1 ++ MTs_2 ++ MTs_3 ++ MTs_4 ++ MTs_5 ++ MTs_6
def MTc : List MD := MTs.filter (fun e => !(e.2.2.2.2.1 == 12))
def MTw : List Jvm.Cond := MTc.map (fun e => Jvm.Cond.code e.1 e.2.1 e.2.2.1 e.2.2.2.1)
set_option maxRecDepth 100000 in
theorem MTw_eq : MTw = ([344, 626, 675, 679, 701, 714, 74, 559, 113, 503, 663, 705, 710, 106, 512, 696, 313, 580, 584, 588, 592, 597, 394, 617, 621, 630, 634, 638, 655, 659, 667, 671, 683, 688, 692, 719, 727, 785, 179, 642, 646, 651, 723, 250, 568, 439, 732, 736, 740, 744, 748, 266, 601, 605, 613, 66, 496, 499, 507, 516, 520, 524, 527, 531, 534, 540, 544, 548, 555, 564, 572, 576, 755, 759, 763, 767, 772, 777, 781, 791, 985, 988, 992, 997, 1001, 1005, 1008, 1012, 1018, 1022, 1026, 1030, 1034, 1038, 1042, 1046, 1050, 1054, 1058, 1062, 1066, 1070, 1076, 1080, 1084, 1088, 1092, 1096, 1100, 1104, 1108, 1112, 1116, 1120, 1124, 1128, 1132, 1136, 1140, 1144, 1148, 1152, 1156, 1160, 1164, 1168, 1172, 551, 609, 78] : List Nat).filterMap (fun i => lw_tbl[i]?) := rfl
theorem MT_code {e : MD} (h : e ∈ MTs) (hn : e.2.2.2.2.1 ≠ 12) : Jvm.Cond.code e.1 e.2.1 e.2.2.1 e.2.2.2.1 ∈ lw_tbl := by
  have h1 : e ∈ MTc := List.mem_filter.mpr ⟨h, by simp [hn]⟩
  have h2 : Jvm.Cond.code e.1 e.2.1 e.2.2.1 e.2.2.2.1 ∈ MTw := List.mem_map.mpr ⟨e, h1, rfl⟩
  rw [MTw_eq] at h2
  obtain ⟨i, -, hi⟩ := List.mem_filterMap.mp h2
  exact List.mem_of_getElem? hi
theorem MT_cls : ∀ e ∈ MTs, e.1.cls = RN e.2.2.2.2.1 := by decide +kernel
theorem MT_nL : ∀ e ∈ MTs, e.2.2.1 ≤ 20 := by decide +kernel
theorem MT_own : ∀ e ∈ MTs, e.2.2.2.2.1 ≤ 14 := by decide +kernel
theorem RN_plain : ∀ c, c ≤ 14 → c ≠ 13 → plainName (RN c) = true ∧ RN c ≠ "java/lang/invoke/MethodHandle" ∧ RN c ≠ "java/lang/invoke/VarHandle" := by decide +kernel
theorem RN_init : ∀ c, c ≤ 14 → Jvm.Cond.initialized (RN c) ∈ lw_tbl := by decide +kernel
-- (own class, index, method): how a call is linked
def MLT_0 : List (Nat × Nat × Nat) := [(12, 9, 55), (10, 11, 6), (1, 24, 130), (10, 18, 13), (10, 25, 38), (6, 52, 130), (10, 46, 16), (10, 62, 22), (10, 75, 45), (12, 13, 56), (10, 86, 57), (10, 111, 9), (12, 18, 58), (10, 118, 14), (12, 23, 59), (12, 28, 60), (12, 33, 61), (10, 147, 62), (12, 38, 63), (10, 154, 64), (12, 42, 65), (12, 46, 66), (12, 51, 67), (12, 55, 68), (10, 192, 7), (12, 60, 69), (10, 199, 44), (12, 65, 70), (12, 69, 71), (10, 202, 17), (4, 52, 18), (4, 56, 19), (4, 60, 20), (4, 67, 21), (10, 206, 52), (9, 37, 53), (10, 210, 54), (10, 214, 23), (5, 44, 24), (5, 78, 130)]
def MLT_1 : List (Nat × Nat × Nat) := [(5, 90, 1), (5, 51, 25), (5, 99, 26), (5, 102, 27), (5, 113, 39), (6, 58, 40), (5, 122, 41), (5, 55, 28), (5, 191, 29), (5, 194, 10), (5, 198, 30), (5, 211, 31), (5, 217, 2), (5, 220, 3), (5, 58, 32), (5, 62, 7), (5, 68, 33), (5, 151, 34), (5, 154, 15), (5, 158, 4), (5, 162, 11), (2, 40, 9), (2, 43, 12), (5, 172, 5), (5, 179, 35), (5, 182, 42), (5, 71, 36), (5, 223, 12), (10, 218, 46), (8, 34, 47), (8, 40, 48), (8, 44, 49), (8, 53, 50), (8, 65, 40), (8, 75, 39), (8, 81, 41), (12, 74, 72), (12, 78, 73), (12, 83, 74), (12, 87, 75)]
def MLT_2 : List (Nat × Nat × Nat) := [(10, 240, 5), (12, 92, 76), (10, 247, 10), (12, 96, 77), (12, 100, 78), (10, 259, 37), (12, 12, 79), (12, 17, 80), (11, 162, 81), (12, 22, 82), (12, 27, 83), (12, 32, 84), (12, 37, 85), (11, 170, 86), (12, 41, 87), (12, 45, 88), (12, 50, 89), (12, 54, 90), (12, 59, 91), (11, 179, 92), (12, 64, 93), (11, 186, 94), (12, 68, 95), (12, 77, 96), (11, 213, 97), (11, 201, 98), (11, 198, 99), (11, 205, 100), (11, 216, 101), (12, 73, 102), (11, 237, 103), (11, 226, 104), (11, 235, 105), (11, 240, 106), (11, 244, 107), (11, 266, 108), (11, 263, 109), (11, 248, 110), (11, 251, 111), (11, 269, 112)]
def MLT_3 : List (Nat × Nat × Nat) := [(11, 257, 113), (11, 261, 114), (11, 272, 115), (11, 275, 116), (11, 286, 117), (11, 295, 118), (11, 289, 119), (11, 292, 120), (12, 82, 121), (12, 86, 122), (12, 91, 123), (12, 95, 124), (12, 99, 125), (12, 103, 126)]
def MLT : List (Nat × Nat × Nat) := MLT_0 ++ MLT_1 ++ MLT_2 ++ MLT_3
def MNT_0 : List (Nat × Nat × Nat) := [(3, 27, 8), (10, 32, 43), (10, 39, 51), (10, 55, 0), (4, 63, 57), (3, 32, 57), (0, 43, 57), (5, 74, 57)]
def MNT : List (Nat × Nat × Nat) := MNT_0
def MMT_0 : List (Nat × Nat × Nat) := [(10, 183, 0), (1, 33, 0), (9, 43, 1), (6, 62, 0)]
def MMT : List (Nat × Nat × Nat) := MMT_0
def OIT_0 : List (Nat × Nat) := [(10, 3), (1, 3), (3, 3), (2, 3), (6, 3), (7, 3), (9, 3), (4, 3), (0, 3), (5, 3), (8, 3), (11, 3)]
def OIT : List (Nat × Nat) := OIT_0
def CLT_0 : List (Nat × Nat × Nat) := [(12, 7, 10), (10, 9, 1), (10, 16, 3), (3, 9, 2), (10, 23, 6), (10, 30, 7), (10, 37, 9), (10, 44, 4), (10, 53, 0), (10, 60, 5), (10, 69, 8), (12, 10, 11)]
def CLT : List (Nat × Nat × Nat) := CLT_0
def KIT_0 : List (Nat × Nat × Int32) := [(10, 114, 100000), (10, 157, -99999), (10, 158, 99999), (11, 155, 60000), (11, 169, 100000), (11, 174, -99999), (11, 175, 99999), (11, 222, 2000000000)]
def KIT : List (Nat × Nat × Int32) := KIT_0
def KLT_0 : List (Nat × Nat × Int32) := [(9, 41, 2000000000), (11, 220, 2000000000)]
def KLT : List (Nat × Nat × Int32) := KLT_0
def mD : MD := (⟨"", "", ""⟩, code, 0, none, 0, 0)
def mt (m : Nat) : MD := MTs.getD m mD
theorem MLT_ok : ∀ q ∈ MLT, Jvm.Cond.methodLink (RN q.1) q.2.1 (mt q.2.2).1 ∈ lw_tbl := by decide +kernel
theorem MNT_ok : ∀ q ∈ MNT, Jvm.Cond.methodLinkNest (RN q.1) q.2.1 (mt q.2.2).1 "AnswerDoor" ∈ lw_tbl := by decide +kernel
theorem MMT_ok : ∀ q ∈ MMT, Jvm.Cond.methodLink (RN q.1) q.2.1 (if q.2.2 = 0 then Lib.Math.min.name else Lib.MathLoose.min_long.x) ∈ lw_tbl := by decide +kernel
theorem MM_st : Jvm.Cond.static Lib.Math.min.name ∈ lw_tbl ∧ Jvm.Cond.static Lib.MathLoose.min_long.x ∈ lw_tbl ∧ Jvm.Cond.initialized "java/lang/Math" ∈ lw_tbl := by decide +kernel
set_option maxRecDepth 100000 in
theorem MM_c0 : Jvm.Cond.code Lib.Math.min.name Lib.Math.min.code 2 (some .int) ∈ lw_tbl := List.mem_of_getElem? (i := 551) rfl
set_option maxRecDepth 100000 in
theorem MM_c1 : Jvm.Cond.code Lib.MathLoose.min_long.x Lib.MathLoose.min_long.code 4 (some .long) ∈ lw_tbl := List.mem_of_getElem? (i := 609) rfl
theorem OIT_ok : ∀ q ∈ OIT, Jvm.Cond.methodLink (RN q.1) q.2 objectInit ∈ lw_tbl := by decide +kernel
theorem CLT_ok : ∀ q ∈ CLT, Jvm.Cond.classLink (RN q.1) q.2.1 (RN q.2.2) ∈ lw_tbl ∧ q.2.2 < 12 := by decide +kernel
theorem KIT_ok : ∀ q ∈ KIT, Jvm.Cond.constant (RN q.1) q.2.1 q.2.2 ∈ lw_tbl := by decide +kernel
theorem KLT_ok : ∀ q ∈ KLT, Jvm.Cond.constantLong (RN q.1) q.2.1 q.2.2.toInt64 ∈ lw_tbl := by decide +kernel
theorem INS_ok : ∀ c, c < 12 → Jvm.Cond.instantiable (RN c) (NN c) ∈ lw_tbl := by decide +kernel
def SMs : List Nat := [57, 62, 64, 81, 86, 130]
def VMs : List Nat := [1, 2, 3, 4, 5, 7, 9, 10, 11, 12, 14, 15, 17, 18, 19, 20, 21, 23, 24, 25, 26, 27, 28, 29, 30, 31, 32, 33, 34, 35, 36, 37, 39, 40, 41, 42, 44, 46, 47, 48, 49, 50, 52, 53, 54, 56, 58, 59, 60, 61, 63, 65, 66, 67, 68, 69, 70, 71, 72, 73, 74, 75, 76, 77, 78, 80, 82, 83, 84, 85, 87, 88, 89, 90, 91, 92, 93, 94, 95, 96, 97, 98, 99, 100, 101, 102, 103, 104, 105, 106, 107, 108, 109, 110, 111, 112, 113, 114, 115, 116, 117, 118, 119, 120, 121, 122, 123, 124, 125, 126]
def IMs : List Nat := [0, 6, 8, 13, 16, 22, 38, 43, 45, 51, 55, 79]
theorem SM_ok : ∀ m ∈ SMs, Jvm.Cond.static (mt m).1 ∈ lw_tbl := by decide +kernel
theorem VM_w1 : VMs.map (fun m => Jvm.Cond.instanceMethod (mt m).1) = ([624, 673, 677, 699, 712, 557, 501, 661, 703, 708, 510, 694, 578, 583, 587, 591, 596, 615, 620, 629, 633, 637, 654, 658, 666, 670, 682, 687, 691, 718, 726, 783, 640, 644, 649, 721, 566, 730, 735, 739, 743, 747, 599, 604, 611, 494, 505, 514, 518, 522, 529, 538, 542, 546, 553, 562, 570, 574, 753, 757, 761, 765, 770, 775, 779, 983, 990, 995, 999, 1003, 1010, 1016, 1020, 1024, 1028, 1033, 1036, 1041, 1044, 1048, 1053, 1057, 1061, 1065, 1069, 1074, 1079, 1083, 1087, 1091, 1095, 1099, 1103, 1107, 1111, 1115, 1119, 1123, 1127, 1131, 1135, 1139, 1143, 1147, 1150, 1154, 1158, 1162, 1166, 1170] : List Nat).filterMap (fun i => lw_tbl[i]?) := by decide +kernel
theorem VM_w2 : VMs.map (fun m => Jvm.Cond.selects (RN (mt m).2.2.2.2.1) (mt m).1 (mt m).1) = ([625, 674, 678, 700, 713, 558, 502, 662, 704, 709, 511, 695, 579, 0, 1, 2, 3, 616, 5, 6, 7, 8, 9, 10, 11, 12, 13, 14, 15, 16, 17, 784, 641, 645, 650, 722, 567, 731, 18, 19, 20, 21, 600, 4, 612, 495, 506, 515, 519, 523, 530, 539, 543, 547, 554, 563, 571, 575, 754, 758, 762, 766, 771, 776, 780, 984, 991, 996, 1000, 1004, 1011, 1017, 1021, 1025, 1029, 22, 1037, 23, 1045, 1049, 24, 25, 26, 27, 28, 1075, 29, 30, 31, 32, 33, 34, 35, 36, 37, 38, 39, 40, 41, 42, 43, 44, 45, 46, 1151, 1155, 1159, 1163, 1167, 1171] : List Nat).filterMap (fun i => lw_tbl[i]?) := by decide +kernel
theorem VM_ok : ∀ m ∈ VMs, Jvm.Cond.instanceMethod (mt m).1 ∈ lw_tbl ∧ Jvm.Cond.selects (RN (mt m).2.2.2.2.1) (mt m).1 (mt m).1 ∈ lw_tbl := fun m h => ⟨in_fm VM_w1 (List.mem_map.mpr ⟨m, h, rfl⟩), in_fm VM_w2 (List.mem_map.mpr ⟨m, h, rfl⟩)⟩
theorem IM_ok : ∀ m ∈ IMs, Jvm.Cond.instanceMethod (mt m).1 ∈ lw_tbl ∧ (mt m).1.name = "<init>" ∧ (mt m).2.2.2.1 = none := by decide +kernel
theorem OI_ok : Jvm.Cond.instanceMethod objectInit ∈ lw_tbl := by decide +kernel
theorem SM_na : ∀ m ∈ SMs, (parseMethodDescriptor (mt m).1.desc).map (fun d => d.parameters.length) = some (mt m).2.2.2.2.2 := by decide +kernel
theorem VM_na : ∀ m ∈ VMs ++ IMs, (parseMethodDescriptor (mt m).1.desc).map (fun d => d.parameters.length) = some ((mt m).2.2.2.2.2 - 1) ∧ 0 < (mt m).2.2.2.2.2 := by decide +kernel
theorem OI_code : Jvm.Cond.code objectInit ⟨#[0xb1]⟩ 1 none ∈ lw_tbl := List.mem_of_getElem? (i := 69) rfl
theorem AR_ok : Jvm.Cond.arrayClass .byte ∈ lw_tbl ∧ Jvm.Cond.arrayClass .int ∈ lw_tbl ∧ Jvm.Cond.arrayClass .long ∈ lw_tbl ∧ Jvm.Cond.arrayClass .boolean ∈ lw_tbl ∧ Jvm.Cond.arrayOver (.object (RN 2)) ∈ lw_tbl := by decide +kernel
def GT : List Jvm.Cond := lw_tbl.filter goodWord
theorem GT_in {w : Jvm.Cond} (h : w ∈ lw_tbl) (hg : goodWord w = true) : w ∈ GT := List.mem_filter.mpr ⟨h, hg⟩
end
section
/-! ===== a small machine over a world of numbered cells: what it does, the bytecode does (part 04) ===== -/
/-- an instruction with what its links say: instruction, length, a, b, kind, a number -/
abbrev RI : Type := Instr × Nat × Nat × Nat × Nat × Int32
/-- the world: each cell's kind (0 to 11 an object of that class, 12 byte[], 13 int[], 14 long[], 15 boolean[], 16 Helper[]) and size; ints, longs, references by cell and place -/
abbrev Sto : Type := List (Nat × Nat) × (Nat → Nat → Int32) × (Nat → Nat → Int64) × (Nat → Nat → Option Nat)
def up2 {α : Type} (f : Nat → Nat → α) (k i : Nat) (v : α) : Nat → Nat → α := va_up f k (va_up (f k) i v)
abbrev CF : Type := Nat × List (Nat × Value) × List Value × Sto × Nat × Nat
def lget : List (Nat × Value) → Nat → Option Value
  | [], _ => none
  | (j, v) :: t, i => match Nat.beq j i with
    | true => some v
    | false => lget t i
def lput1 (lv : List (Nat × Value)) (i : Nat) (v : Value) : List (Nat × Value) := (i, v) :: lv.filter (fun q => !(q.1 == i) && !(q.1 + 1 == i && q.2.category == 2))
def lput2 (lv : List (Nat × Value)) (i : Nat) (v : Value) : List (Nat × Value) := (i, v) :: lv.filter (fun q => !(q.1 == i) && (!(q.1 == i + 1) && !(q.1 + 1 == i && q.2.category == 2)))
def cats (st : List Value) : Nat := (st.map fun v => v.category).sum
/-- the condition of a branch, as the kit's rows have it -/
def cmpC (c : Jvm.ClassFile.Cond) (x y : Int32) : Prop := match c with
  | .eq => x = y
  | .ne => ¬ x = y
  | .lt => x < y
  | .ge => y ≤ x
  | .gt => y < x
  | .le => x ≤ y
/-- where a switch goes -/
def swT (ins : Instr) (pc : Nat) (x : Int) : Option Int := match ins with
  | .tableswitch d lo hi offs => if x < lo ∨ hi < x then some ((pc : Int) + d) else (offs[(x - lo).toNat]?).map (fun o => (pc : Int) + o)
  | .lookupswitch d ps => some ((pc : Int) + Op.lookupswitch.offset ps.toList d x)
  | _ => none
def fvG (S : Sto) (kd k f : Nat) : Value := match kd with
  | 0 => .int (S.2.1 k f)
  | 1 => .long (S.2.2.1 k f)
  | _ => va_rf (S.2.2.2 k f)
def okO (S : Sto) (k c : Nat) : Prop := S.1[k]? = some (c, NN c)
def okA (S : Sto) (k c : Nat) (i : Int32) : Prop := ∃ n, S.1[k]? = some (c, n) ∧ vp_in i n
def zfit (c f : Nat) (x : Int32) : Prop := narrow (tyN c f) (.int x) = .int x ∧ fits (tyN c f) (.int x) = true
def setI (S : Sto) (k i : Nat) (x : Int32) : Sto := (S.1, up2 S.2.1 k i x, S.2.2.1, S.2.2.2)
def setL (S : Sto) (k i : Nat) (x : Int64) : Sto := (S.1, S.2.1, up2 S.2.2.1 k i x, S.2.2.2)
def setR (S : Sto) (k i : Nat) (x : Option Nat) : Sto := (S.1, S.2.1, S.2.2.1, up2 S.2.2.2 k i x)
/-- a new cell of kind c and size n -/
def newC (S : Sto) (c n : Nat) : Sto := (S.1 ++ [(c, n)], va_up S.2.1 S.1.length (fun _ => 0), va_up S.2.2.1 S.1.length (fun _ => 0), va_up S.2.2.2 S.1.length (fun _ => none))
/-- one instruction that goes on to the next: what comes, and what must hold for it -/
def sx (nL : Nat) (Z : Option (Nat × (Nat → Int32))) (cp : Nat × Nat) (q : RI) (pc : Nat) (lv : List (Nat × Value)) (st : List Value) (S : Sto) (kc ks : Nat) : Option (CF × Prop) :=
  let v := q.2.2.2.2.2
  let a := q.2.2.1
  let b := q.2.2.2.1
  match q.1 with
  | .iconst _ => some ((pc + 1, lv, .int v :: st, S, kc, ks), True)
  | .bipush _ => some ((pc + 2, lv, .int v :: st, S, kc, ks), True)
  | .sipush _ => some ((pc + 3, lv, .int v :: st, S, kc, ks), True)
  | .ldc _ => some ((pc + 2, lv, .int v :: st, S, kc, ks), True)
  | .lconst _ => some ((pc + 1, lv, .long v.toInt64 :: st, S, kc, ks), True)
  | .ldc2_w _ => some ((pc + 3, lv, .long v.toInt64 :: st, S, kc, ks), True)
  | .iload_n k => match lget lv k with
    | some (.int x) => some ((pc + 1, lv, .int x :: st, S, kc, ks), True)
    | _ => none
  | .iload k => match lget lv k with
    | some (.int x) => some ((pc + 2, lv, .int x :: st, S, kc, ks), True)
    | _ => none
  | .lload_n k => match lget lv k with
    | some (.long x) => some ((pc + 1, lv, .long x :: st, S, kc, ks), True)
    | _ => none
  | .aload_n k => match lget lv k with
    | some (.ref x) => some ((pc + 1, lv, .ref x :: st, S, kc, ks), True)
    | some (.retAddr x) => some ((pc + 1, lv, .retAddr x :: st, S, kc, ks), True)
    | _ => none
  | .aload k => match lget lv k with
    | some (.ref x) => some ((pc + 2, lv, .ref x :: st, S, kc, ks), True)
    | _ => none
  | .istore_n k => match st with
    | .int x :: r => some ((pc + 1, lput1 lv k (.int x), r, S, kc, ks), (k : Nat) < nL)
    | _ => none
  | .istore k => match st with
    | .int x :: r => some ((pc + 2, lput1 lv k (.int x), r, S, kc, ks), k < nL)
    | _ => none
  | .lstore_n k => match st with
    | .long x :: r => some ((pc + 1, lput2 lv k (.long x), r, S, kc, ks), (k : Nat) + 1 < nL)
    | _ => none
  | .astore_n k => match st with
    | .ref x :: r => some ((pc + 1, lput1 lv k (.ref x), r, S, kc, ks), (k : Nat) < nL)
    | _ => none
  | .astore k => match st with
    | .ref x :: r => some ((pc + 2, lput1 lv k (.ref x), r, S, kc, ks), k < nL)
    | _ => none
  | .iinc i _ => match lget lv i with
    | some (.int x) => some ((pc + 3, lput1 lv i (.int (x + v)), st, S, kc, ks), i < nL)
    | _ => none
  | .iadd => match st with
    | .int y :: .int x :: r => some ((pc + 1, lv, .int (x + y) :: r, S, kc, ks), True)
    | _ => none
  | .isub => match st with
    | .int y :: .int x :: r => some ((pc + 1, lv, .int (x - y) :: r, S, kc, ks), True)
    | _ => none
  | .imul => match st with
    | .int y :: .int x :: r => some ((pc + 1, lv, .int (x * y) :: r, S, kc, ks), True)
    | _ => none
  | .iand => match st with
    | .int y :: .int x :: r => some ((pc + 1, lv, .int (x &&& y) :: r, S, kc, ks), True)
    | _ => none
  | .ior => match st with
    | .int y :: .int x :: r => some ((pc + 1, lv, .int (x ||| y) :: r, S, kc, ks), True)
    | _ => none
  | .ishl => match st with
    | .int y :: .int x :: r => some ((pc + 1, lv, .int (x <<< (y &&& 31)) :: r, S, kc, ks), True)
    | _ => none
  | .ishr => match st with
    | .int y :: .int x :: r => some ((pc + 1, lv, .int (x >>> (y &&& 31)) :: r, S, kc, ks), True)
    | _ => none
  | .iushr => match st with
    | .int y :: .int x :: r => some ((pc + 1, lv, .int (x.toUInt32 >>> (y.toUInt32 &&& Int32.toUInt32 31)).toInt32 :: r, S, kc, ks), True)
    | _ => none
  | .idiv => match st with
    | .int y :: .int x :: r => some ((pc + 1, lv, .int (x / y) :: r, S, kc, ks), ¬ y = 0)
    | _ => none
  | .irem => match st with
    | .int y :: .int x :: r => some ((pc + 1, lv, .int (x - x / y * y) :: r, S, kc, ks), ¬ y = 0)
    | _ => none
  | .ladd => match st with
    | .long y :: .long x :: r => some ((pc + 1, lv, .long (x + y) :: r, S, kc, ks), True)
    | _ => none
  | .lmul => match st with
    | .long y :: .long x :: r => some ((pc + 1, lv, .long (x * y) :: r, S, kc, ks), True)
    | _ => none
  | .lcmp => match st with
    | .long y :: .long x :: r => some ((pc + 1, lv, .int (lg_cmp x y) :: r, S, kc, ks), True)
    | _ => none
  | .i2l => match st with
    | .int x :: r => some ((pc + 1, lv, .long x.toInt64 :: r, S, kc, ks), True)
    | _ => none
  | .l2i => match st with
    | .long x :: r => some ((pc + 1, lv, .int x.toInt32 :: r, S, kc, ks), True)
    | _ => none
  | .i2b => match st with
    | .int x :: r => some ((pc + 1, lv, .int x.toInt8.toInt32 :: r, S, kc, ks), True)
    | _ => none
  | .dup => match st with
    | x :: r => some ((pc + 1, lv, x :: x :: r, S, kc, ks), x.category = 1)
    | _ => none
  | .dup2 => match st with
    | x :: y :: r => some ((pc + 1, lv, x :: y :: x :: y :: r, S, kc, ks), x.category = 1 ∧ y.category = 1)
    | _ => none
  | .pop => match st with
    | x :: r => some ((pc + 1, lv, r, S, kc, ks), x.category = 1)
    | _ => none
  | .getfield _ => match st with
    | .ref k :: r => some ((pc + 3, lv, fvG S q.2.2.2.2.1 k b :: r, S, kc, ks), okO S k a)
    | _ => none
  | .putfield _ => match q.2.2.2.2.1, st with
    | 0, .int x :: .ref k :: r => some ((pc + 3, lv, r, setI S k b x, kc, ks), okO S k a ∧ zfit a b x)
    | 1, .long x :: .ref k :: r => some ((pc + 3, lv, r, setL S k b x, kc, ks), okO S k a)
    | 2, .ref x :: .ref k :: r => some ((pc + 3, lv, r, setR S k b (some x), kc, ks), okO S k a)
    | _, _ => none
  | .iaload => match a, st with
    | 0, .int i :: .ref k :: r => some ((pc + 1, lv, .int (S.2.1 k i.toNatClampNeg) :: r, S, kc, ks), okA S k 13 i)
    | 1, .int i :: .retAddr _ :: r => match Z with
      | some (n, xs) => some ((pc + 1, lv, .int (xs i.toNatClampNeg) :: r, S, kc, ks), vp_in i n)
      | none => none
    | _, _ => none
  | .baload => match st with
    | .int i :: .ref k :: r => some ((pc + 1, lv, .int (S.2.1 k i.toNatClampNeg) :: r, S, kc, ks), okA S k a i)
    | _ => none
  | .laload => match st with
    | .int i :: .ref k :: r => some ((pc + 1, lv, .long (S.2.2.1 k i.toNatClampNeg) :: r, S, kc, ks), okA S k 14 i)
    | _ => none
  | .aaload => match st with
    | .int i :: .ref k :: r => some ((pc + 1, lv, va_rf (S.2.2.2 k i.toNatClampNeg) :: r, S, kc, ks), okA S k 16 i)
    | _ => none
  | .iastore => match st with
    | .int x :: .int i :: .ref k :: r => some ((pc + 1, lv, r, setI S k i.toNatClampNeg x, kc, ks), okA S k 13 i)
    | _ => none
  | .bastore => match a, st with
    | 12, .int x :: .int i :: .ref k :: r => some ((pc + 1, lv, r, setI S k i.toNatClampNeg (vp_nar .byte x), kc, ks), okA S k 12 i)
    | 15, .int x :: .int i :: .ref k :: r => some ((pc + 1, lv, r, setI S k i.toNatClampNeg (vp_nar .boolean x), kc, ks), okA S k 15 i)
    | _, _ => none
  | .lastore => match st with
    | .long x :: .int i :: .ref k :: r => some ((pc + 1, lv, r, setL S k i.toNatClampNeg x, kc, ks), okA S k 14 i)
    | _ => none
  | .aastore => match st with
    | .ref x :: .int i :: .ref k :: r => some ((pc + 1, lv, r, setR S k i.toNatClampNeg (some x), kc, ks), okA S k 16 i ∧ okO S x 2)
    | _ => none
  | .arraylength => match a, st with
    | 0, .ref k :: r => match S.1[k]? with
      | some (c, n) => some ((pc + 1, lv, .int (Int32.ofNat n) :: r, S, kc, ks), c = 13)
      | none => none
    | 1, .retAddr _ :: r => match Z with
      | some (n, _) => some ((pc + 1, lv, .int (Int32.ofNat n) :: r, S, kc, ks), True)
      | none => none
    | _, _ => none
  | .new _ => some ((pc + 3, lv, .ref S.1.length :: st, newC S a (NN a), kc + 1, ks + NN a), kc + 1 ≤ cp.1 ∧ ks + NN a ≤ cp.2)
  | .newarray _ => match st with
    | .int n :: r => some ((pc + 2, lv, .ref S.1.length :: r, newC S a n.toNatClampNeg, kc + 1, ks + n.toNatClampNeg), ¬ n < 0 ∧ n.toNatClampNeg ≤ 60000000 ∧ kc + 1 ≤ cp.1 ∧ ks + n.toNatClampNeg ≤ cp.2)
    | _ => none
  | .anewarray _ => match st with
    | .int n :: r => some ((pc + 3, lv, .ref S.1.length :: r, newC S 16 n.toNatClampNeg, kc + 1, ks + n.toNatClampNeg), ¬ n < 0 ∧ n.toNatClampNeg ≤ 60000000 ∧ kc + 1 ≤ cp.1 ∧ ks + n.toNatClampNeg ≤ cp.2)
    | _ => none
  | .invokestatic _ => match b, st with
    | 2, .int y :: .int x :: r => some ((pc + 3, lv, .int (if y < x then y else x) :: r, S, kc, ks), cats r ≤ 8)
    | 3, .long y :: .long x :: r => some ((pc + 3, lv, .long (if y < x then y else x) :: r, S, kc, ks), cats r ≤ 8)
    | _, _ => none
  | .invokespecial _ => match b, st with
    | 4, .ref _ :: r => some ((pc + 3, lv, r, S, kc, ks), cats r ≤ 8)
    | _, _ => none
  | _ => none
/-- what the tables must say of an instruction (own: the class, ini: a constructor), and where a jump goes -/
def lnkB (own : Nat) (ini : Bool) (pc : Nat) (q : RI) : Bool :=
  let v := q.2.2.2.2.2
  let a := q.2.2.1
  let b := q.2.2.2.1
  let d := q.2.2.2.2.1
  match q.1 with
  | .iconst n => decide (Int32.ofInt n = v) && decide (q.2.1 = 1)
  | .bipush n => decide ((Int8.ofInt n).toInt32 = v) && decide (q.2.1 = 2)
  | .sipush n => decide ((Int16.ofInt n).toInt32 = v) && decide (q.2.1 = 3)
  | .lconst n => decide (Int64.ofNat (n : Nat) = v.toInt64) && decide (q.2.1 = 1)
  | .ldc i => decide ((own, i, v) ∈ KIT) && decide (q.2.1 = 2)
  | .ldc2_w i => decide ((own, i, v) ∈ KLT) && decide (q.2.1 = 3)
  | .iinc _ n => decide (Int32.ofInt n = v) && decide (q.2.1 = 3)
  | .getfield i => decide ((own, i, a, b) ∈ FLT) && decide (tyK a b = d) && decide (q.2.1 = 3)
  | .putfield i => decide ((own, i, a, b) ∈ FLT) && decide (tyK a b = d) && decide (q.2.1 = 3) && (!(TN a b).2.2.2 || (ini && decide (own = a)))
  | .baload => (decide (a = 12) || decide (a = 15)) && decide (q.2.1 = 1)
  | .if_icmp _ o => decide ((pc : Int) + o = (a : Int)) && decide (q.2.1 = 3)
  | .ifCond _ o => decide ((pc : Int) + o = (a : Int)) && decide (q.2.1 = 3)
  | .goto o => decide ((pc : Int) + o = (a : Int)) && decide (q.2.1 = 3)
  | .lookupswitch _ ps => (ps.toList.zip (ps.toList.drop 1)).all (fun (x, y) => x.1 < y.1)
  | .new i => decide ((own, i, a) ∈ CLT) && decide (q.2.1 = 3)
  | .newarray t => decide (q.2.1 = 2) && (match t with
    | .byte => decide (a = 12)
    | .int => decide (a = 13)
    | .long => decide (a = 14)
    | .boolean => decide (a = 15)
    | _ => false)
  | .anewarray i => decide ((own, i, 2) ∈ CLT) && decide (q.2.1 = 3)
  | .invokestatic i => decide (q.2.1 = 3) && (match b with
    | 0 => decide ((own, i, a) ∈ MLT) && decide (a ∈ SMs)
    | 1 => decide ((own, i, a) ∈ MNT) && decide (a ∈ SMs)
    | 2 => decide ((own, i, 0) ∈ MMT)
    | 3 => decide ((own, i, 1) ∈ MMT)
    | _ => false)
  | .invokevirtual i => decide (q.2.1 = 3) && decide ((own, i, a) ∈ MLT) && decide (a ∈ VMs) && decide (b = 0)
  | .invokespecial i => decide (q.2.1 = 3) && (match b with
    | 0 => decide ((own, i, a) ∈ MLT) && decide (a ∈ IMs)
    | 1 => decide ((own, i, a) ∈ MNT) && decide (a ∈ IMs)
    | 4 => decide ((own, i) ∈ OIT)
    | _ => false)
  | .iload _ => decide (q.2.1 = 2)
  | .aload _ => decide (q.2.1 = 2)
  | .istore _ => decide (q.2.1 = 2)
  | .astore _ => decide (q.2.1 = 2)
  | .tableswitch .. => true
  | _ => decide (q.2.1 = 1)
/-- what may be said of a method's run: from these arguments and this world it ends, within so many new cells and slots, with an answer and a world of which Post holds -/
abbrev EX : Type := Nat → List Value → Sto → Nat → Nat → (Option Value → Sto → Prop) → Prop
abbrev PP : Type := Nat → List (Nat × Value) → List Value → Sto → Nat → Nat → Prop
/-- one step of the machine, P being what holds behind it -/
def RuleI (E : EX) (nL : Nat) (rt : Option FieldType) (Z : Option (Nat × (Nat → Int32))) (cp : Nat × Nat) (Post : Option Value → Sto → Prop) (P : PP) (q : RI) (pc : Nat) (lv : List (Nat × Value)) (st : List Value) (S : Sto) (kc ks : Nat) : Prop :=
  match q.1 with
  | .if_icmp cd _ => ∃ x y r, st = .int y :: .int x :: r ∧ (cmpC cd x y → P q.2.2.1 lv r S kc ks) ∧ (¬ cmpC cd x y → P (pc + 3) lv r S kc ks)
  | .ifCond cd _ => ∃ x r, st = .int x :: r ∧ (cmpC cd x 0 → P q.2.2.1 lv r S kc ks) ∧ (¬ cmpC cd x 0 → P (pc + 3) lv r S kc ks)
  | .goto _ => P q.2.2.1 lv st S kc ks
  | .tableswitch d lo hi offs => ∃ (x : Int32) (r : List Value) (t : Nat), st = .int x :: r ∧ swT (.tableswitch d lo hi offs) pc x.toInt = some (t : Int) ∧ P t lv r S kc ks
  | .lookupswitch d ps => ∃ (x : Int32) (r : List Value) (t : Nat), st = .int x :: r ∧ swT (.lookupswitch d ps) pc x.toInt = some (t : Int) ∧ P t lv r S kc ks
  | .ireturn => ∃ v ty, st = [.int v] ∧ rt = some ty ∧ narrow ty (.int v) = .int v ∧ Post (some (.int v)) S
  | .lreturn => ∃ v, st = [.long v] ∧ rt = some .long ∧ Post (some (.long v)) S
  | .return_ => st = [] ∧ rt = none ∧ Post none S
  | .invokevirtual _ => ∃ k As rest mc ms, st = As.reverse ++ .ref k :: rest ∧ As.length + 1 = (mt q.2.2.1).2.2.2.2.2 ∧ okO S k (mt q.2.2.1).2.2.2.2.1 ∧ cats rest ≤ 8 ∧ kc + mc ≤ cp.1 ∧ ks + ms ≤ cp.2 ∧ E q.2.2.1 (.ref k :: As) S mc ms (fun r S1 => P (pc + 3) lv (r.toList ++ rest) S1 (kc + mc) (ks + ms))
  | i => (∃ (c' : CF) (O : Prop), sx nL Z cp q pc lv st S kc ks = some (c', O) ∧ O ∧ P c'.1 c'.2.1 c'.2.2.1 c'.2.2.2.1 c'.2.2.2.2.1 c'.2.2.2.2.2) ∨
      (match i with
        | .invokestatic _ => q.2.2.2.1 ≤ 1 ∧ ∃ As rest mc ms, st = As.reverse ++ rest ∧ As.length = (mt q.2.2.1).2.2.2.2.2 ∧ cats rest ≤ 8 ∧ kc + mc ≤ cp.1 ∧ ks + ms ≤ cp.2 ∧ E q.2.2.1 As S mc ms (fun r S1 => P (pc + 3) lv (r.toList ++ rest) S1 (kc + mc) (ks + ms))
        | .invokespecial _ => q.2.2.2.1 ≤ 1 ∧ ∃ k As rest mc ms, st = As.reverse ++ .ref k :: rest ∧ As.length + 1 = (mt q.2.2.1).2.2.2.2.2 ∧ cats rest ≤ 8 ∧ kc + mc ≤ cp.1 ∧ ks + ms ≤ cp.2 ∧ E q.2.2.1 (.ref k :: As) S mc ms (fun r S1 => P (pc + 3) lv (r.toList ++ rest) S1 (kc + mc) (ks + ms))
        | _ => False)
def Clo (E : EX) (cc : ByteArray) (own : Nat) (ini : Bool) (nL : Nat) (rt : Option FieldType) (Z : Option (Nat × (Nat → Int32))) (cp : Nat × Nat) (Post : Option Value → Sto → Prop) (P : PP) : Prop :=
  ∀ pc lv st S kc ks, (∃ q : RI, decode cc pc = .ok (q.1, q.2.1) ∧ lnkB own ini pc q = true ∧ RuleI E nL rt Z cp Post P q pc lv st S kc ks) → P pc lv st S kc ks
/-- from here the method's frame ends well -/
def Runs (E : EX) (cc : ByteArray) (own : Nat) (ini : Bool) (nL : Nat) (rt : Option FieldType) (Z : Option (Nat × (Nat → Int32))) (cp : Nat × Nat) (Post : Option Value → Sto → Prop) : PP :=
  fun pc lv st S kc ks => ∀ P : PP, Clo E cc own ini nL rt Z cp Post P → P pc lv st S kc ks
def isIni (m : Nat) : Bool := decide (m ∈ IMs)
/-- a call of method m, calls nested at most d deep in it -/
def Ex : Nat → EX
  | 0 => fun _ _ _ _ _ _ => False
  | d + 1 => fun m As S mc ms Post => m ∈ SMs ++ (VMs ++ IMs) ∧ cats As ≤ (mt m).2.2.1 ∧ Runs (Ex d) (mt m).2.1 (mt m).2.2.2.2.1 (isIni m) (mt m).2.2.1 (mt m).2.2.2.1 none (mc, ms) Post 0 (lv_args 0 As) [] S 0 0
/-! ===== what may be weakened ===== -/
theorem RuleI.mono {E : EX} {nL : Nat} {rt : Option FieldType} {Z : Option (Nat × (Nat → Int32))} {cp : Nat × Nat} {Post Post' : Option Value → Sto → Prop} {P P' : PP} {q : RI} {pc : Nat} {lv : List (Nat × Value)} {st : List Value} {S : Sto} {kc ks : Nat}
    (hE : ∀ m As S mc ms (A B : Option Value → Sto → Prop), (∀ r S', A r S' → B r S') → E m As S mc ms A → E m As S mc ms B) (hQ : ∀ r S', Post r S' → Post' r S') (hP : ∀ pc lv st S kc ks, P pc lv st S kc ks → P' pc lv st S kc ks)
    (h : RuleI E nL rt Z cp Post P q pc lv st S kc ks) : RuleI E nL rt Z cp Post' P' q pc lv st S kc ks := by
  obtain ⟨i, q2⟩ := q
  cases i
  case if_icmp cd o =>
    obtain ⟨x, y, r, h1, h2, h3⟩ := h
    exact ⟨x, y, r, h1, fun c => hP _ _ _ _ _ _ (h2 c), fun c => hP _ _ _ _ _ _ (h3 c)⟩
  case ifCond cd o =>
    obtain ⟨x, r, h1, h2, h3⟩ := h
    exact ⟨x, r, h1, fun c => hP _ _ _ _ _ _ (h2 c), fun c => hP _ _ _ _ _ _ (h3 c)⟩
  case goto o => exact hP _ _ _ _ _ _ h
  case tableswitch =>
    obtain ⟨x, r, t, h1, h2, h3⟩ := h
    exact ⟨x, r, t, h1, h2, hP _ _ _ _ _ _ h3⟩
  case lookupswitch =>
    obtain ⟨x, r, t, h1, h2, h3⟩ := h
    exact ⟨x, r, t, h1, h2, hP _ _ _ _ _ _ h3⟩
  case ireturn =>
    obtain ⟨v, ty, h1, h2, h3, h4⟩ := h
    exact ⟨v, ty, h1, h2, h3, hQ _ _ h4⟩
  case lreturn =>
    obtain ⟨v, h1, h2, h3⟩ := h
    exact ⟨v, h1, h2, hQ _ _ h3⟩
  case return_ => exact ⟨h.1, h.2.1, hQ _ _ h.2.2⟩
  case invokevirtual =>
    obtain ⟨k, As, rest, mc, ms, h1, h2, h3, h4, h5, h6, h7⟩ := h
    exact ⟨k, As, rest, mc, ms, h1, h2, h3, h4, h5, h6, hE _ _ _ _ _ _ _ (fun r S' => hP _ _ _ _ _ _) h7⟩
  case invokestatic =>
    rcases h with ⟨c', O, h1, h2, h3⟩ | h
    · exact Or.inl ⟨c', O, h1, h2, hP _ _ _ _ _ _ h3⟩
    · obtain ⟨h0, As, rest, mc, ms, h1, h2, h4, h5, h6, h7⟩ := h
      exact Or.inr ⟨h0, As, rest, mc, ms, h1, h2, h4, h5, h6, hE _ _ _ _ _ _ _ (fun r S' => hP _ _ _ _ _ _) h7⟩
  case invokespecial =>
    rcases h with ⟨c', O, h1, h2, h3⟩ | h
    · exact Or.inl ⟨c', O, h1, h2, hP _ _ _ _ _ _ h3⟩
    · obtain ⟨h0, k, As, rest, mc, ms, h1, h2, h4, h5, h6, h7⟩ := h
      exact Or.inr ⟨h0, k, As, rest, mc, ms, h1, h2, h4, h5, h6, hE _ _ _ _ _ _ _ (fun r S' => hP _ _ _ _ _ _) h7⟩
  all_goals
    rcases h with ⟨c', O, h1, h2, h3⟩ | h
    · exact Or.inl ⟨c', O, h1, h2, hP _ _ _ _ _ _ h3⟩
    · exact False.elim h
theorem Runs.mono {E : EX} {cc : ByteArray} {own : Nat} {ini : Bool} {nL : Nat} {rt : Option FieldType} {Z : Option (Nat × (Nat → Int32))} {cp : Nat × Nat} {Post Post' : Option Value → Sto → Prop}
    (hE : ∀ m As S mc ms (A B : Option Value → Sto → Prop), (∀ r S', A r S' → B r S') → E m As S mc ms A → E m As S mc ms B) (hQ : ∀ r S', Post r S' → Post' r S') {pc lv st S kc ks} (h : Runs E cc own ini nL rt Z cp Post pc lv st S kc ks) : Runs E cc own ini nL rt Z cp Post' pc lv st S kc ks := by
  intro P hP
  refine h P ?_
  intro pc lv st S kc ks hq
  obtain ⟨q, h1, h2, h3⟩ := hq
  exact hP _ _ _ _ _ _ ⟨q, h1, h2, h3.mono hE hQ (fun _ _ _ _ _ _ h => h)⟩
theorem Ex.mono : ∀ (d : Nat) (m : Nat) (As : List Value) (S : Sto) (mc ms : Nat) (A B : Option Value → Sto → Prop), (∀ r S', A r S' → B r S') → Ex d m As S mc ms A → Ex d m As S mc ms B
  | 0 => fun _ _ _ _ _ _ _ _ h => h
  | d + 1 => fun m As S mc ms A B hAB h => ⟨h.1, h.2.1, h.2.2.mono (Ex.mono d) hAB⟩
/-- a step -/
theorem Runs.step {d : Nat} {cc : ByteArray} {own : Nat} {ini : Bool} {nL : Nat} {rt : Option FieldType} {Z : Option (Nat × (Nat → Int32))} {cp : Nat × Nat} {Post : Option Value → Sto → Prop} {pc lv st S kc ks} (q : RI) (h1 : decode cc pc = .ok (q.1, q.2.1)) (h2 : lnkB own ini pc q = true)
    (h : RuleI (Ex d) nL rt Z cp Post (Runs (Ex d) cc own ini nL rt Z cp Post) q pc lv st S kc ks) : Runs (Ex d) cc own ini nL rt Z cp Post pc lv st S kc ks := by
  intro P hP
  exact hP _ _ _ _ _ _ ⟨q, h1, h2, h.mono (Ex.mono d) (fun _ _ h => h) (fun pc lv st S kc ks h => h P hP)⟩
end
section
/-! ===== the small machine's world in the heap: cell k lies at base + k ===== -/
def cv (base b : Nat) (v : Value) : Value := match v with
  | .ref k => .ref (base + k)
  | .retAddr _ => .ref b
  | v => v
def arrC (base : Nat) (S : Sto) (k c : Nat) : (Nat → Int32) ⊕ (Nat → Int64) ⊕ (Nat → UInt32) ⊕ (Nat → UInt64) ⊕ (Nat → Option Nat) :=
  if c = 14 then .inr (.inl (S.2.2.1 k)) else if c = 16 then .inr (.inr (.inr (.inr (fun i => (S.2.2.2 k i).map (base + ·))))) else .inl (S.2.1 k)
def cellOK (D : va_G) (cy : Nat → ClassId) (base b : Nat) (S : Sto) (k c n : Nat) (H : Heap) : Prop :=
  if c < 12 then n = NN c ∧ t_OB (base + k) (D.1 c) (NN c) (D.2 c) H (fun j => cv base b (fvG S (tyK c j) k j)) else H[base + k]? = some (vp_cell (cy c) (n, arrC base S k c))
def gW (D : va_G) (cy : Nat → ClassId) (base b : Nat) (S : Sto) (H : Heap) : Prop := H.size = base + S.1.length ∧ ∀ k c n, S.1[k]? = some (c, n) → cellOK D cy base b S k c n H
def tysOf (cy : Nat → ClassId) : List (ClassId × FieldType) := [(cy 12, .byte), (cy 13, .int), (cy 14, .long), (cy 15, .boolean), (cy 16, .object (RN 2))]
theorem cellOK.kept {D : va_G} {cy : Nat → ClassId} {base b : Nat} {S S' : Sto} {k c n : Nat} {H H' : Heap} (h : cellOK D cy base b S k c n H) (h1 : S'.2.1 k = S.2.1 k) (h2 : S'.2.2.1 k = S.2.2.1 k) (h3 : S'.2.2.2 k = S.2.2.2 k) (hq : H'[base + k]? = H[base + k]?) : cellOK D cy base b S' k c n H' := by
  unfold cellOK at h ⊢
  split at h
  · next hc =>
    rw [if_pos hc]
    refine ⟨h.1, (h.2.kept hq).to (fun j _ => ?_)⟩
    simp only [fvG, h1, h2, h3]
  · next hc =>
    rw [if_neg hc, hq, h]
    simp only [arrC, h1, h2, h3]
theorem gW.upd {D : va_G} {cy : Nat → ClassId} {base b : Nat} {S S' : Sto} {k : Nat} {H H' : Heap} (hG : gW D cy base b S H) (h1 : S'.1 = S.1) (ho : ∀ k', k' ≠ k → S'.2.1 k' = S.2.1 k' ∧ S'.2.2.1 k' = S.2.2.1 k' ∧ S'.2.2.2 k' = S.2.2.2 k') (z : H'.size = H.size) (oq : ∀ q : Nat, q ≠ base + k → H'[q]? = H[q]?)
    (hc : ∀ c n, S.1[k]? = some (c, n) → cellOK D cy base b S' k c n H') : gW D cy base b S' H' := by
  refine ⟨by rw [z, h1]; exact hG.1, fun k' c n hk => ?_⟩
  rw [h1] at hk
  by_cases e : k' = k
  · subst e
    exact hc c n hk
  · obtain ⟨o1, o2, o3⟩ := ho k' e
    exact (hG.2 k' c n hk).kept o1 o2 o3 (oq _ (by omega))
theorem gW.new {D : va_G} {cy : Nat → ClassId} {base b : Nat} {S : Sto} {c n : Nat} {H H' : Heap} (hG : gW D cy base b S H) (z : H'.size = H.size + 1) (oq : ∀ q : Nat, q < H.size → H'[q]? = H[q]?) (hc : cellOK D cy base b (newC S c n) S.1.length c n H') : gW D cy base b (newC S c n) H' := by
  refine ⟨by rw [z, hG.1]; simp [newC]; omega, fun k' c' n' hk => ?_⟩
  have hk : (S.1 ++ [(c, n)])[k']? = some (c', n') := hk
  by_cases e : k' < S.1.length
  · rw [List.getElem?_append_left e] at hk
    have hne : k' ≠ S.1.length := Nat.ne_of_lt e
    exact (hG.2 k' c' n' hk).kept (by simp [newC, va_up, hne]) (by simp [newC, va_up, hne]) (by simp [newC, va_up, hne]) (oq _ (by rw [hG.1]; omega))
  · rw [List.getElem?_append_right (by omega)] at hk
    have hz : k' - S.1.length < 1 := (List.getElem?_eq_some_iff.mp hk).1
    rw [show k' - S.1.length = 0 by omega] at hk
    cases hk
    rw [show k' = S.1.length by omega]
    exact hc
theorem inGT {c : Nat} (hc : c < 12) : ∀ w ∈ u_ws (RN c) (TN c) (NN c), w ∈ GT := by
  intro w hw
  refine GT_in (inN c hc w hw) ?_
  obtain ⟨k, -, rfl⟩ := List.mem_map.mp hw
  unfold u_lay
  split <;> rfl
theorem cat_cv (base b : Nat) (v : Value) : (cv base b v).category = (match v with | .retAddr _ => 1 | v => v.category) := by cases v <;> rfl
theorem cat_cv' (base b : Nat) (v : Value) : (cv base b v).category = v.category := by cases v <;> rfl
def cvp (base b : Nat) (q : Nat × Value) : Nat × Value := (q.1, cv base b q.2)
theorem lget_mem : ∀ {lv : List (Nat × Value)} {i : Nat} {v : Value}, lget lv i = some v → (i, v) ∈ lv
  | [], _, _, h => by cases h
  | (j, w) :: t, i, v, h => by
    unfold lget at h
    split at h
    · next e =>
      cases h
      rw [Nat.eq_of_beq_eq_true e]
      exact List.mem_cons_self
    · exact List.mem_cons_of_mem _ (lget_mem h)
theorem lget_at {base b nL : Nat} {ls : Array Slot} {lv : List (Nat × Value)} (hl : lv_has ls nL (lv.map (cvp base b))) {i : Nat} {v : Value} (h : lget lv i = some v) : ls[i]? = some (.val (cv base b v)) := hl.2.2 _ (List.mem_map.mpr ⟨_, lget_mem h, rfl⟩)
theorem lput1_map (base b : Nat) (lv : List (Nat × Value)) (i : Nat) (v : Value) : (i, cv base b v) :: (lv.map (cvp base b)).filter (fun q => !(q.1 == i) && !(q.1 + 1 == i && q.2.category == 2)) = (lput1 lv i v).map (cvp base b) := by
  unfold lput1
  rw [List.map_cons, List.filter_map]
  congr 2
  refine List.filter_congr fun q _ => ?_
  simp [cvp, cat_cv']
theorem lput2_map (base b : Nat) (lv : List (Nat × Value)) (i : Nat) (v : Value) : (i, cv base b v) :: (lv.map (cvp base b)).filter (fun q => !(q.1 == i) && (!(q.1 == i + 1) && !(q.1 + 1 == i && q.2.category == 2))) = (lput2 lv i v).map (cvp base b) := by
  unfold lput2
  rw [List.map_cons, List.filter_map]
  congr 2
  refine List.filter_congr fun q _ => ?_
  simp [cvp, cat_cv']
theorem cats_cv (base b : Nat) (st : List Value) : ((st.map (cv base b)).map fun v => v.category).sum = cats st := by
  unfold cats
  rw [List.map_map]
  congr 1
  refine List.map_congr_left fun v _ => ?_
  exact cat_cv' base b v
theorem va_P_one {D : va_G} {cl : List vw_C} {a : Nat} {x : va_E} {H : Heap} (h : va_at D cl (a, x) H) : va_P D cl [(a, x)] H := by
  intro k q hk
  have hz : k < 1 := (List.getElem?_eq_some_iff.mp hk).1
  rw [show k = 0 by omega] at hk
  cases hk
  exact h
theorem tyK1 {c f : Nat} (hc : c < 12) (hf : f < NN c) (h : tyK c f = 1) : tyN c f = .long := by
  have h1 := tyK_ok c hc f hf
  rw [h] at h1
  split at h1 <;> first | assumption | (exact absurd h1 (by decide))
theorem tyK2 {c f : Nat} (hc : c < 12) (hf : f < NN c) (h : tyK c f = 2) (a : Nat) : narrow (tyN c f) (.ref a) = .ref a ∧ fits (tyN c f) (.ref a) = true := by
  have h1 := tyK_ok c hc f hf
  rw [h] at h1
  split at h1
  · exact absurd h1 (by decide)
  · next e => rw [e]; exact ⟨rfl, rfl⟩
  · next e => rw [e]; exact ⟨rfl, rfl⟩
  · exact absurd h1 (by decide)
  · exact absurd h1 (by decide)
  · exact absurd h1 (by decide)
theorem tyK_def {c f : Nat} (hc : c < 12) (hf : f < NN c) (base b : Nat) (S : Sto) (k : Nat) (h1 : S.2.1 k f = 0) (h2 : S.2.2.1 k f = 0) (h3 : S.2.2.2 k f = none) : defaultValue (tyN c f) = cv base b (fvG S (tyK c f) k f) := by
  have h := tyK_ok c hc f hf
  rw [h]
  cases e : tyN c f <;> simp [fvG, h1, h2, h3, defaultValue, cv, va_rf]
  · rw [e] at h
    exact absurd h (by have : ∀ c, c < 12 → ∀ k, k < NN c → tyN c k ≠ .double := by decide +kernel
                       exact fun _ => this c hc f hf e)
  · rw [e] at h
    exact absurd h (by have : ∀ c, c < 12 → ∀ k, k < NN c → tyN c k ≠ .float := by decide +kernel
                       exact fun _ => this c hc f hf e)
section GROWS
variable {p : Program} {l : Launch} {e : Env} {R : Room} {s : State} {m : MethodId} {args : Array Value} {below : List Frame} {meth : Method} {c : Code} {H : Heap} {locs : List Loc} {cells slots : Nat} {Q : State → Prop}
variable {cc : ByteArray} {pc : Nat} {ls : Array Slot} {rest : List Value} {D : va_G} {cy : Nat → ClassId} {base b : Nat} {S : Sto} {own : Nat}
theorem g_get (hx : p.tables.exec = Jvm.exec) (hb : c.code = cc) (hts : ∀ w ∈ GT, w.before args s = true) (hown : s.vm.findClass (RN own) = some m.cls) (hK : va_K D clsL (tysOf cy) s) (hG : gW D cy base b S H) {k a f idx : Nat} (hk : okO S k a) (ha : (own, idx, a, f) ∈ FLT) (hdg : decode cc pc = .ok (.getfield idx, 3))
    (kk : W p l e R s m args below meth c H locs cells slots Q (F0 m (pc + 3) ls (cv base b (fvG S (tyK a f) k f) :: rest))) : W p l e R s m args below meth c H locs cells slots Q (F0 m pc ls (.ref (base + k) :: rest)) := by
  obtain ⟨ha1, hf⟩ := FLT_in _ ha
  have h := hG.2 k _ _ hk
  unfold cellOK at h
  rw [if_pos ha1] at h
  obtain ⟨-, cell, q1, q2, q3, q4⟩ := h
  obtain ⟨hS, hfc, kC, hkC, hkind⟩ := hK.1 a _ (clsL_at ha1)
  obtain ⟨cf, kf, fi, fd, hi, hsl⟩ := hS f hf
  refine W.getf hx hb hown (hts _ (GT_in (FLT_ok _ ha) rfl)) hi (u_facts hfc hkC (u_lays hts (inGT ha1) hf) hi).1 q1 (by rw [q3]; exact fun h => by cases h) (v := cv base b (fvG S (tyK a f) k f)) ?_ rfl rfl hdg kk
  rw [hsl]
  exact q4 f hf
theorem g_put (hx : p.tables.exec = Jvm.exec) (hb : c.code = cc) (hts : ∀ w ∈ GT, w.before args s = true) (hown : s.vm.findClass (RN own) = some m.cls) (hK : va_K D clsL (tysOf cy) s) (hG : gW D cy base b S H) (hS0 : va_S (fun q => base ≤ q) s.heap H locs) {k a f idx : Nat} (hk : okO S k a) (ha : (own, idx, a, f) ∈ FLT)
    (hfin : (TN a f).2.2.2 = false ∨ (meth.name = "<init>" ∧ own = a)) {v : Value} (hn : narrow (tyN a f) (cv base b v) = cv base b v) (hfit : fits (tyN a f) (cv base b v) = true) {S' : Sto} (h1 : S'.1 = S.1) (ho : ∀ k', k' ≠ k → S'.2.1 k' = S.2.1 k' ∧ S'.2.2.1 k' = S.2.2.1 k' ∧ S'.2.2.2 k' = S.2.2.2 k')
    (hv : ∀ j, j < NN a → fvG S' (tyK a j) k j = if j = f then v else fvG S (tyK a j) k j) (hdg : decode cc pc = .ok (.putfield idx, 3))
    (kk : ∀ (H1 : Heap) (locs1 : List Loc), gW D cy base b S' H1 → va_S (fun q => base ≤ q) s.heap H1 locs1 → W p l e R s m args below meth c H1 locs1 cells slots Q (F0 m (pc + 3) ls rest)) : W p l e R s m args below meth c H locs cells slots Q (F0 m pc ls (cv base b v :: .ref (base + k) :: rest)) := by
  obtain ⟨ha1, hf⟩ := FLT_in _ ha
  have h := hG.2 k _ _ hk
  unfold cellOK at h
  rw [if_pos ha1] at h
  obtain ⟨-, cell, q1, q2, q3, q4⟩ := h
  have hap := va_apart (D := D) (cl := clsL) (own := RN own) hts (inGT ha1) (tyN a) (tyN_ok a ha1) (nmN a ha1) hK (clsL_at ha1)
  obtain ⟨hS, hfc, kC, hkC, hkind⟩ := hK.1 a _ (clsL_at ha1)
  obtain ⟨cf, kf, fi, fd, hi, hsl⟩ := hS f hf
  have hlay := hts _ (inGT ha1 _ (u_in_lay hf))
  have hst := (u_facts hfc hkC (u_lays hts (inGT ha1) hf) hi).1
  have fin : ∀ (H' : Heap), H'[base + k]? = some (cell.setSlot fd.slot (cv base b v)) → H'.size = H.size → (∀ q, q ≠ base + k → H'[q]? = H[q]?) → W p l e R s m args below meth c H' (locs ++ [⟨base + k, fd.slot⟩]) cells slots Q (F0 m (pc + 3) ls rest) := by
    intro H' e1 e2 e3
    refine kk H' _ (hG.upd h1 ho e2 e3 (fun c' n' hc' => ?_)) (hS0.put e2 e3 (Nat.le_add_right _ _))
    cases hk.symm.trans hc'
    unfold cellOK
    rw [if_pos ha1]
    rw [hsl] at e1
    refine ⟨rfl, t_OB.to ⟨_, e1, q2, q3, t_set q4 hap hf (cv base b v)⟩ (fun j hj => ?_)⟩
    rw [hv j hj]
    by_cases ej : j = f
    · simp [updV, ej]
    · simp [updV, ej]
  by_cases hfi : (TN a f).2.2.2 = true
  · rcases hfin with q | ⟨hin, hoa⟩
    · rw [hfi] at q; cases q
    · subst hoa
      unfold u_lay at hlay
      rw [if_pos hfi] at hlay
      have hcf : m.cls = cf := by
        obtain ⟨_, _, c', _, _, _, -, -, hf', -, -, -, hown2, -⟩ := Cond.laysFinal_spec hlay
        have e1 : c' = cf := by have := hi.symm.trans hf'; simp at this; exact this.1.symm
        have hd : (TN own f).1 = RN own := (by decide +kernel : ∀ c, c < 12 → ∀ k, k < NN c → (TN c k).1 = RN c) own ha1 f hf
        rw [hd] at hown2
        rw [← e1]; exact Option.some.inj (hown.symm.trans hown2)
      have h6 := u_fits hfc hkC hkind (Or.inr hlay) hi (tyN_ok own ha1 f hf) hn hfit
      exact W.putFinK hx hb hown (hts _ (GT_in (FLT_ok _ ha) rfl)) hi hst hcf hin (by rw [q2]; exact h6) q1 q3 (by rw [hsl]; exact k2_hasslot (q4 f hf)) rfl rfl hdg fin
  · unfold u_lay at hlay
    rw [if_neg hfi] at hlay
    have h6 := u_store hfc hkC hkind hlay hi (tyN_ok a ha1 f hf) hn hfit
    exact W.putK hx hb (f := fd) ⟨hown, hts _ (GT_in (FLT_ok _ ha) rfl), ⟨_, _, _, hi⟩, hst⟩ (by rw [q2]; exact h6) q1 q3 (by rw [hsl]; exact k2_hasslot (q4 f hf)) rfl rfl hdg fin
end GROWS
end
section
/-! ===== arrays, new cells and calls over the small machine's world ===== -/
theorem up2_ne {α : Type} (f : Nat → Nat → α) (k i : Nat) (v : α) {k' : Nat} (h : k' ≠ k) : up2 f k i v k' = f k' := by simp [up2, va_up, h]
theorem up2_row {α : Type} (f : Nat → Nat → α) (k i : Nat) (v : α) : up2 f k i v k = va_up (f k) i v := by simp [up2, va_up]
theorem setI_ho (S : Sto) (k i : Nat) (x : Int32) : ∀ k', k' ≠ k → (setI S k i x).2.1 k' = S.2.1 k' ∧ (setI S k i x).2.2.1 k' = S.2.2.1 k' ∧ (setI S k i x).2.2.2 k' = S.2.2.2 k' := fun _ h => ⟨up2_ne _ _ _ _ h, rfl, rfl⟩
theorem setL_ho (S : Sto) (k i : Nat) (x : Int64) : ∀ k', k' ≠ k → (setL S k i x).2.1 k' = S.2.1 k' ∧ (setL S k i x).2.2.1 k' = S.2.2.1 k' ∧ (setL S k i x).2.2.2 k' = S.2.2.2 k' := fun _ h => ⟨rfl, up2_ne _ _ _ _ h, rfl⟩
theorem setR_ho (S : Sto) (k i : Nat) (x : Option Nat) : ∀ k', k' ≠ k → (setR S k i x).2.1 k' = S.2.1 k' ∧ (setR S k i x).2.2.1 k' = S.2.2.1 k' ∧ (setR S k i x).2.2.2 k' = S.2.2.2 k' := fun _ h => ⟨rfl, rfl, up2_ne _ _ _ _ h⟩
section GARR
variable {p : Program} {l : Launch} {e : Env} {R : Room} {s : State} {m : MethodId} {args : Array Value} {below : List Frame} {meth : Method} {c : Code} {H : Heap} {locs : List Loc} {cells slots : Nat} {Q : State → Prop}
variable {cc : ByteArray} {pc : Nat} {ls : Array Slot} {rest : List Value} {D : va_G} {cy : Nat → ClassId} {base b : Nat} {S : Sto} {own : Nat}
theorem g_at {k c n : Nat} (hG : gW D cy base b S H) (hk : S.1[k]? = some (c, n)) (hc : ¬ c < 12) : H[base + k]? = some (vp_cell (cy c) (n, arrC base S k c)) := by
  have h := hG.2 k _ _ hk
  unfold cellOK at h
  rwa [if_neg hc] at h
theorem g_iald (hx : p.tables.exec = Jvm.exec) (hb : c.code = cc) (hK : va_K D clsL (tysOf cy) s) (hG : gW D cy base b S H) {k : Nat} {i : Int32} (hk : okA S k 13 i) (hdg : decode cc pc = .ok (.iaload, 1))
    (kk : W p l e R s m args below meth c H locs cells slots Q (F0 m (pc + 1) ls (.int (S.2.1 k i.toNatClampNeg) :: rest))) : W p l e R s m args below meth c H locs cells slots Q (F0 m pc ls (.int i :: .ref (base + k) :: rest)) := by
  obtain ⟨n, h1, h2⟩ := hk
  exact va_iald hx hb hK (va_P_one (x := .inl (cy 13, n, .inl (S.2.1 k))) (g_at hG h1 (by decide))) 0 1 rfl rfl h2 hdg kk
theorem g_bald (hx : p.tables.exec = Jvm.exec) (hb : c.code = cc) (hK : va_K D clsL (tysOf cy) s) (hG : gW D cy base b S H) {k a : Nat} {i : Int32} (ha : a = 12 ∨ a = 15) (hk : okA S k a i) (hdg : decode cc pc = .ok (.baload, 1))
    (kk : W p l e R s m args below meth c H locs cells slots Q (F0 m (pc + 1) ls (.int (S.2.1 k i.toNatClampNeg) :: rest))) : W p l e R s m args below meth c H locs cells slots Q (F0 m pc ls (.int i :: .ref (base + k) :: rest)) := by
  obtain ⟨n, h1, h2⟩ := hk
  rcases ha with rfl | rfl
  · exact va_bald hx hb hK (va_P_one (x := .inl (cy 12, n, .inl (S.2.1 k))) (g_at hG h1 (by decide))) 0 0 rfl rfl h2 hdg kk
  · exact va_zald hx hb hK (va_P_one (x := .inl (cy 15, n, .inl (S.2.1 k))) (g_at hG h1 (by decide))) 0 3 rfl rfl h2 hdg kk
theorem g_lald (hx : p.tables.exec = Jvm.exec) (hb : c.code = cc) (hK : va_K D clsL (tysOf cy) s) (hG : gW D cy base b S H) {k : Nat} {i : Int32} (hk : okA S k 14 i) (hdg : decode cc pc = .ok (.laload, 1))
    (kk : W p l e R s m args below meth c H locs cells slots Q (F0 m (pc + 1) ls (.long (S.2.2.1 k i.toNatClampNeg) :: rest))) : W p l e R s m args below meth c H locs cells slots Q (F0 m pc ls (.int i :: .ref (base + k) :: rest)) := by
  obtain ⟨n, h1, h2⟩ := hk
  exact va_lald hx hb hK (va_P_one (x := .inl (cy 14, n, .inr (.inl (S.2.2.1 k)))) (g_at hG h1 (by decide))) 0 2 rfl rfl h2 hdg kk
theorem g_aald (hx : p.tables.exec = Jvm.exec) (hb : c.code = cc) (hK : va_K D clsL (tysOf cy) s) (hG : gW D cy base b S H) {k : Nat} {i : Int32} (hk : okA S k 16 i) (hdg : decode cc pc = .ok (.aaload, 1))
    (kk : W p l e R s m args below meth c H locs cells slots Q (F0 m (pc + 1) ls (cv base b (va_rf (S.2.2.2 k i.toNatClampNeg)) :: rest))) : W p l e R s m args below meth c H locs cells slots Q (F0 m pc ls (.int i :: .ref (base + k) :: rest)) := by
  obtain ⟨n, h1, h2⟩ := hk
  refine va_aldq hx hb hK (va_P_one (x := .inl (cy 16, n, .inr (.inr (.inr (.inr (fun i => (S.2.2.2 k i).map (base + ·))))))) (g_at hG h1 (by decide))) 0 4 rfl rfl h2 hdg ?_
  have e : va_rf ((S.2.2.2 k i.toNatClampNeg).map (base + ·)) = cv base b (va_rf (S.2.2.2 k i.toNatClampNeg)) := by
    cases S.2.2.2 k i.toNatClampNeg <;> rfl
  rw [← e] at kk
  exact kk
theorem g_alen (hx : p.tables.exec = Jvm.exec) (hb : c.code = cc) (hK : va_K D clsL (tysOf cy) s) (hG : gW D cy base b S H) {k n : Nat} (hk : S.1[k]? = some (13, n)) (hdg : decode cc pc = .ok (.arraylength, 1))
    (kk : W p l e R s m args below meth c H locs cells slots Q (F0 m (pc + 1) ls (.int (Int32.ofNat n) :: rest))) : W p l e R s m args below meth c H locs cells slots Q (F0 m pc ls (.ref (base + k) :: rest)) :=
  va_alen hx hb hK (va_P_one (x := .inl (cy 13, n, .inl (S.2.1 k))) (g_at hG hk (by decide))) 0 1 rfl rfl rfl hdg kk
theorem g_iast (hx : p.tables.exec = Jvm.exec) (hb : c.code = cc) (hK : va_K D clsL (tysOf cy) s) (hG : gW D cy base b S H) (hS0 : va_S (fun q => base ≤ q) s.heap H locs) {k : Nat} {i x : Int32} (hk : okA S k 13 i) (hdg : decode cc pc = .ok (.iastore, 1))
    (kk : ∀ (H1 : Heap) (locs1 : List Loc), gW D cy base b (setI S k i.toNatClampNeg x) H1 → va_S (fun q => base ≤ q) s.heap H1 locs1 → W p l e R s m args below meth c H1 locs1 cells slots Q (F0 m (pc + 1) ls rest)) : W p l e R s m args below meth c H locs cells slots Q (F0 m pc ls (.int x :: .int i :: .ref (base + k) :: rest)) := by
  obtain ⟨n, h1, h2⟩ := hk
  have h : H[base + k]? = some (vp_cell (cy 13) (n, .inl (S.2.1 k))) := g_at hG h1 (by decide)
  refine W.iast hx hb h ((hK.2 1 _ rfl).1 n (fun j => .int (S.2.1 k j))) (fun q => by cases q) (by show ¬ (i < 0 ∨ (arrV _ _ _).slots.size ≤ _); rw [arrV_size]; exact h2) rfl rfl hdg fun H1 e1 z oq => ?_
  refine kk H1 _ (hG.upd rfl (setI_ho S k _ x) z oq (fun c' n' hc' => ?_)) (hS0.put z oq (Nat.le_add_right _ _))
  cases h1.symm.trans hc'
  show H1[base + k]? = some (vp_cell (cy 13) (n, .inl (up2 S.2.1 k i.toNatClampNeg x k)))
  rw [e1, vp_cell_i, vp_cell_i, arrV_store, up2_row]
  congr 2
  funext q
  by_cases hq : q = i.toNatClampNeg
  · subst hq
    simp [updV, va_up]
  · simp [updV, va_up, hq]
theorem g_bast (hx : p.tables.exec = Jvm.exec) (hb : c.code = cc) (hK : va_K D clsL (tysOf cy) s) (hG : gW D cy base b S H) (hS0 : va_S (fun q => base ≤ q) s.heap H locs) {k : Nat} {i x : Int32} (hk : okA S k 12 i) (hdg : decode cc pc = .ok (.bastore, 1))
    (kk : ∀ (H1 : Heap) (locs1 : List Loc), gW D cy base b (setI S k i.toNatClampNeg (vp_nar .byte x)) H1 → va_S (fun q => base ≤ q) s.heap H1 locs1 → W p l e R s m args below meth c H1 locs1 cells slots Q (F0 m (pc + 1) ls rest)) : W p l e R s m args below meth c H locs cells slots Q (F0 m pc ls (.int x :: .int i :: .ref (base + k) :: rest)) := by
  obtain ⟨n, h1, h2⟩ := hk
  have h : H[base + k]? = some (vp_cell (cy 12) (n, .inl (S.2.1 k))) := g_at hG h1 (by decide)
  refine W.bast hx hb h ((hK.2 0 _ rfl).1 n (fun j => .int (S.2.1 k j))) (fun q => by cases q) (by show ¬ (i < 0 ∨ (arrV _ _ _).slots.size ≤ _); rw [arrV_size]; exact h2) rfl rfl hdg fun H1 e1 z oq => ?_
  refine kk H1 _ (hG.upd rfl (setI_ho S k _ _) z oq (fun c' n' hc' => ?_)) (hS0.put z oq (Nat.le_add_right _ _))
  cases h1.symm.trans hc'
  show H1[base + k]? = some (vp_cell (cy 12) (n, .inl (up2 S.2.1 k i.toNatClampNeg (vp_nar .byte x) k)))
  rw [e1, vp_cell_i, vp_cell_i, arrV_store, up2_row]
  congr 2
  funext q
  by_cases hq : q = i.toNatClampNeg
  · subst hq
    simp [updV, va_up, vp_nar]
    try rfl
  · simp [updV, va_up, hq]
theorem g_zast (hx : p.tables.exec = Jvm.exec) (hb : c.code = cc) (hK : va_K D clsL (tysOf cy) s) (hG : gW D cy base b S H) (hS0 : va_S (fun q => base ≤ q) s.heap H locs) {k : Nat} {i x : Int32} (hk : okA S k 15 i) (hdg : decode cc pc = .ok (.bastore, 1))
    (kk : ∀ (H1 : Heap) (locs1 : List Loc), gW D cy base b (setI S k i.toNatClampNeg (vp_nar .boolean x)) H1 → va_S (fun q => base ≤ q) s.heap H1 locs1 → W p l e R s m args below meth c H1 locs1 cells slots Q (F0 m (pc + 1) ls rest)) : W p l e R s m args below meth c H locs cells slots Q (F0 m pc ls (.int x :: .int i :: .ref (base + k) :: rest)) := by
  obtain ⟨n, h1, h2⟩ := hk
  have h : H[base + k]? = some (vp_cell (cy 15) (n, .inl (S.2.1 k))) := g_at hG h1 (by decide)
  refine W.zast hx hb h ((hK.2 3 _ rfl).1 n (fun j => .int (S.2.1 k j))) (fun q => by cases q) (by show ¬ (i < 0 ∨ (arrV _ _ _).slots.size ≤ _); rw [arrV_size]; exact h2) rfl rfl hdg fun H1 e1 z oq => ?_
  refine kk H1 _ (hG.upd rfl (setI_ho S k _ _) z oq (fun c' n' hc' => ?_)) (hS0.put z oq (Nat.le_add_right _ _))
  cases h1.symm.trans hc'
  show H1[base + k]? = some (vp_cell (cy 15) (n, .inl (up2 S.2.1 k i.toNatClampNeg (vp_nar .boolean x) k)))
  rw [e1, vp_cell_i, vp_cell_i, arrV_store, up2_row]
  congr 2
  funext q
  by_cases hq : q = i.toNatClampNeg
  · subst hq
    simp [updV, va_up, vp_nar]
    try rfl
  · simp [updV, va_up, hq]
theorem g_last (hx : p.tables.exec = Jvm.exec) (hb : c.code = cc) (hK : va_K D clsL (tysOf cy) s) (hG : gW D cy base b S H) (hS0 : va_S (fun q => base ≤ q) s.heap H locs) {k : Nat} {i : Int32} {x : Int64} (hk : okA S k 14 i) (hdg : decode cc pc = .ok (.lastore, 1))
    (kk : ∀ (H1 : Heap) (locs1 : List Loc), gW D cy base b (setL S k i.toNatClampNeg x) H1 → va_S (fun q => base ≤ q) s.heap H1 locs1 → W p l e R s m args below meth c H1 locs1 cells slots Q (F0 m (pc + 1) ls rest)) : W p l e R s m args below meth c H locs cells slots Q (F0 m pc ls (.long x :: .int i :: .ref (base + k) :: rest)) := by
  obtain ⟨n, h1, h2⟩ := hk
  have h : H[base + k]? = some (vp_cell (cy 14) (n, .inr (.inl (S.2.2.1 k)))) := g_at hG h1 (by decide)
  refine W.last hx hb h ((hK.2 2 _ rfl).1 n (fun j => .long (S.2.2.1 k j))) (fun q => by cases q) (by show ¬ (i < 0 ∨ (arrV _ _ _).slots.size ≤ _); rw [arrV_size]; exact h2) rfl rfl hdg fun H1 e1 z oq => ?_
  refine kk H1 _ (hG.upd rfl (setL_ho S k _ x) z oq (fun c' n' hc' => ?_)) (hS0.put z oq (Nat.le_add_right _ _))
  cases h1.symm.trans hc'
  show H1[base + k]? = some (vp_cell (cy 14) (n, .inr (.inl (up2 S.2.2.1 k i.toNatClampNeg x k))))
  rw [e1, vp_cell_l, vp_cell_l, arrV_store, up2_row]
  congr 2
  funext q
  by_cases hq : q = i.toNatClampNeg
  · subst hq
    simp [updV, va_up]
  · simp [updV, va_up, hq]
theorem g_aast (hx : p.tables.exec = Jvm.exec) (hb : c.code = cc) (hK : va_K D clsL (tysOf cy) s) (hG : gW D cy base b S H) (hS0 : va_S (fun q => base ≤ q) s.heap H locs) {k x : Nat} {i : Int32} (hk : okA S k 16 i) (hv : okO S x 2) (hdg : decode cc pc = .ok (.aastore, 1))
    (kk : ∀ (H1 : Heap) (locs1 : List Loc), gW D cy base b (setR S k i.toNatClampNeg (some x)) H1 → va_S (fun q => base ≤ q) s.heap H1 locs1 → W p l e R s m args below meth c H1 locs1 cells slots Q (F0 m (pc + 1) ls rest)) : W p l e R s m args below meth c H locs cells slots Q (F0 m pc ls (.ref (base + x) :: .int i :: .ref (base + k) :: rest)) := by
  obtain ⟨n, h1, h2⟩ := hk
  have h : H[base + k]? = some (vp_cell (cy 16) (n, .inr (.inr (.inr (.inr (fun i => (S.2.2.2 k i).map (base + ·))))))) := g_at hG h1 (by decide)
  have hlt : i.toNatClampNeg < n := Nat.not_le.mp fun q => h2 (Or.inr q)
  have h0 : ¬ i < 0 := fun q => h2 (Or.inl q)
  have hx2 := hG.2 x _ _ hv
  unfold cellOK at hx2
  rw [if_pos (by decide)] at hx2
  obtain ⟨-, cellV, g1, g2, g3, -⟩ := hx2
  have hcls := (hK.1 2 _ (clsL_at (by decide))).2
  obtain ⟨kA, comp, k1, k2, k3, -⟩ := (hK.2 4 _ rfl).2
  have hcomp : comp = D.1 2 := Option.some.inj (k3.symm.trans hcls.1)
  subst hcomp
  obtain ⟨kC, hkC, -⟩ := hcls.2
  refine W.aast hx hb h (fun q h => by cases h) (fun h => by cases h) k1 k2 rfl hkC ⟨h0, by show _ < (arrV _ _ _).slots.size; rw [arrV_size]; exact hlt⟩ g1 (fun q h => by rw [g3] at h; cases h) (by rw [g2]; exact hkC) (by rw [g2]; exact va_assign hcls) rfl rfl hdg fun H1 e1 z oq => ?_
  refine kk H1 _ (hG.upd rfl (setR_ho S k _ _) z oq (fun c' n' hc' => ?_)) (hS0.put z oq (Nat.le_add_right _ _))
  cases h1.symm.trans hc'
  show H1[base + k]? = some (vp_cell (cy 16) (n, .inr (.inr (.inr (.inr (fun j => (up2 S.2.2.2 k i.toNatClampNeg (some x) k j).map (base + ·)))))))
  rw [e1, vp_cell_q, vp_cell_q, arrV_store, up2_row]
  congr 2
  funext q
  by_cases hq : q = i.toNatClampNeg
  · subst hq
    simp [updV, va_up, va_rf]
  · simp [updV, va_up, hq]
theorem g_new (hx : p.tables.exec = Jvm.exec) (hb : c.code = cc) (hts : ∀ w ∈ GT, w.before args s = true) (hown : s.vm.findClass (RN own) = some m.cls) (hK : va_K D clsL (tysOf cy) s) (hG : gW D cy base b S H) (hS0 : va_S (fun q => base ≤ q) s.heap H locs) {a idx : Nat} (hc : (own, idx, a) ∈ CLT)
    (hcells : cells + 1 ≤ R.cells) (hslots : slots + NN a ≤ R.slots) (hdg : decode cc pc = .ok (.new idx, 3))
    (kk : ∀ (H1 : Heap), gW D cy base b (newC S a (NN a)) H1 → va_S (fun q => base ≤ q) s.heap H1 locs → W p l e R s m args below meth c H1 locs (cells + 1) (slots + NN a) Q (F0 m (pc + 3) ls (.ref (base + S.1.length) :: rest))) : W p l e R s m args below meth c H locs cells slots Q (F0 m pc ls rest) := by
  obtain ⟨hl, ha⟩ := CLT_ok _ hc
  have ha : a < 12 := ha
  have hKn := hK.1 a _ (clsL_at ha)
  refine W.newcK hx hb hown (hts _ (GT_in hl rfl)) (hts _ (GT_in (INS_ok a ha) rfl)) (hts _ (GT_in (RN_init a (by omega)) rfl)) rfl hdg hcells hslots hKn.2.1 hG.1 fun H1 kC hkC e1 z1 o1 => ?_
  have o1 : ∀ q : Nat, q < H.size → H1[q]? = H[q]? := fun q hq => o1 q (by rw [← hG.1]; exact hq)
  have z1 : H1.size = H.size + 1 := by rw [z1, hG.1]
  refine kk H1 (hG.new z1 o1 ?_) ⟨Nat.le_trans hS0.1 (by omega), fun q h1 h2 => (o1 q (Nat.lt_of_lt_of_le h1 hS0.1)).trans (hS0.2.1 q h1 h2), hS0.2.2⟩
  unfold cellOK
  rw [if_pos ha]
  refine ⟨rfl, (u_born (tyN a) hts (inGT ha) hKn hkC e1 (tyN_ok a ha)).to (fun j hj => ?_)⟩
  exact tyK_def ha hj base b (newC S a (NN a)) _ (by simp [newC, va_up]) (by simp [newC, va_up]) (by simp [newC, va_up])
theorem g_newa (hx : p.tables.exec = Jvm.exec) (hb : c.code = cc) (hts : ∀ w ∈ GT, w.before args s = true) (hK : va_K D clsL (tysOf cy) s) (hG : gW D cy base b S H) (hS0 : va_S (fun q => base ≤ q) s.heap H locs) {a : Nat} {t : ArrayType}
    (ha : (match t with | .byte => decide (a = 12) | .int => decide (a = 13) | .long => decide (a = 14) | .boolean => decide (a = 15) | _ => false) = true) {n : Int32} (hn : ¬ n < 0) (hbig : n.toNatClampNeg ≤ 60000000) (hcells : cells + 1 ≤ R.cells) (hslots : slots + n.toNatClampNeg ≤ R.slots) (hdg : decode cc pc = .ok (.newarray t, 2))
    (kk : ∀ (H1 : Heap), gW D cy base b (newC S a n.toNatClampNeg) H1 → va_S (fun q => base ≤ q) s.heap H1 locs → W p l e R s m args below meth c H1 locs (cells + 1) (slots + n.toNatClampNeg) Q (F0 m (pc + 2) ls (.ref (base + S.1.length) :: rest))) : W p l e R s m args below meth c H locs cells slots Q (F0 m pc ls (.int n :: rest)) := by
  have go : ∀ (hw : (Cond.arrayClass (newarray.typeOf t)).before args s = true) (h8 : componentBytes (newarray.typeOf t) ≤ 8) (hcy : ∀ cA, s.vm.findClass ("[" ++ (newarray.typeOf t).toString) = some cA → cA = cy a) (hnew : ∀ N : Nat, vp_cell (cy a) (N, arrC base (newC S a N) S.1.length a) = arrV (cy a) N (fun _ => defaultValue (newarray.typeOf t))) (h12 : ¬ a < 12),
      W p l e R s m args below meth c H locs cells slots Q (F0 m pc ls (.int n :: rest)) := by
    intro hw h8 hcy hnew h12
    refine va_newaK hx hb hw rfl hdg rfl hn rfl (Nat.le_trans (Nat.mul_le_mul hbig h8) (by decide)) hcells hslots hG.1 fun H1 cA e1 z1 o1 hAr hNm => ?_
    have o1 : ∀ q : Nat, q < H.size → H1[q]? = H[q]? := fun q hq => o1 q (by rw [← hG.1]; exact hq)
    have z1 : H1.size = H.size + 1 := by rw [z1, hG.1]
    refine kk H1 (hG.new z1 o1 ?_) ⟨Nat.le_trans hS0.1 (by omega), fun q h1 h2 => (o1 q (Nat.lt_of_lt_of_le h1 hS0.1)).trans (hS0.2.1 q h1 h2), hS0.2.2⟩
    unfold cellOK
    rw [if_neg h12, hnew, e1, hcy cA hNm]
  obtain ⟨w1, w2, w3, w4, w5⟩ := AR_ok
  cases t <;> simp only [decide_eq_true_eq, Bool.false_eq_true] at ha
  · subst ha
    exact go (hts _ (GT_in w4 rfl)) (by decide) (fun cA h => Option.some.inj (h.symm.trans (hK.2 3 _ rfl).2)) (fun N => by show vp_cell (cy 15) (N, .inl ((newC S 15 N).2.1 S.1.length)) = _; rw [vp_cell_i]; simp [newC, va_up, newarray.typeOf, defaultValue]) (by decide)
  · subst ha
    exact go (hts _ (GT_in w1 rfl)) (by decide) (fun cA h => Option.some.inj (h.symm.trans (hK.2 0 _ rfl).2)) (fun N => by show vp_cell (cy 12) (N, .inl ((newC S 12 N).2.1 S.1.length)) = _; rw [vp_cell_i]; simp [newC, va_up, newarray.typeOf, defaultValue]) (by decide)
  · subst ha
    exact go (hts _ (GT_in w2 rfl)) (by decide) (fun cA h => Option.some.inj (h.symm.trans (hK.2 1 _ rfl).2)) (fun N => by show vp_cell (cy 13) (N, .inl ((newC S 13 N).2.1 S.1.length)) = _; rw [vp_cell_i]; simp [newC, va_up, newarray.typeOf, defaultValue]) (by decide)
  · subst ha
    exact go (hts _ (GT_in w3 rfl)) (by decide) (fun cA h => Option.some.inj (h.symm.trans (hK.2 2 _ rfl).2)) (fun N => by show vp_cell (cy 14) (N, .inr (.inl ((newC S 14 N).2.2.1 S.1.length))) = _; rw [vp_cell_l]; simp [newC, va_up, newarray.typeOf, defaultValue]) (by decide)
theorem g_newq (hx : p.tables.exec = Jvm.exec) (hb : c.code = cc) (hts : ∀ w ∈ GT, w.before args s = true) (hown : s.vm.findClass (RN own) = some m.cls) (hAO : va_AO (RN 2) s) (hK : va_K D clsL (tysOf cy) s) (hG : gW D cy base b S H) (hS0 : va_S (fun q => base ≤ q) s.heap H locs) {idx : Nat} (hc : (own, idx, 2) ∈ CLT)
    {n : Int32} (hn : ¬ n < 0) (hbig : n.toNatClampNeg ≤ 60000000) (hcells : cells + 1 ≤ R.cells) (hslots : slots + n.toNatClampNeg ≤ R.slots) (hdg : decode cc pc = .ok (.anewarray idx, 3))
    (kk : ∀ (H1 : Heap), gW D cy base b (newC S 16 n.toNatClampNeg) H1 → va_S (fun q => base ≤ q) s.heap H1 locs → W p l e R s m args below meth c H1 locs (cells + 1) (slots + n.toNatClampNeg) Q (F0 m (pc + 3) ls (.ref (base + S.1.length) :: rest))) : W p l e R s m args below meth c H locs cells slots Q (F0 m pc ls (.int n :: rest)) := by
  obtain ⟨hl, ha⟩ := CLT_ok _ hc
  refine W.anew hx hb hown (hts _ (GT_in hl rfl)) (va_AO.use hAO) rfl hdg rfl hn (Nat.le_trans (Nat.mul_le_mul_right 4 hbig) (by decide)) hcells hslots fun cA kA comp f1 f2 f3 f4 => ?_
  generalize hH1 : H.push ({ cls := cA, slots := Array.replicate n.toNatClampNeg .null, vm := .none } : Cell) = H1
  have z1 : H1.size = H.size + 1 := by rw [← hH1, Array.size_push]
  have e1 : H1[H.size]? = some (arrV cA n.toNatClampNeg (fun _ => .null)) := by rw [← hH1, Array.getElem?_push_size, ← arrV_new]
  have o1 : ∀ q : Nat, q < H.size → H1[q]? = H[q]? := fun q hq => by rw [← hH1, Array.getElem?_push, if_neg (Nat.ne_of_lt hq)]
  have e2 : F0 m (pc + 3) ls (.ref (base + S.1.length) :: rest) = F0 m (pc + 3) ls (.ref H.size :: rest) := by rw [hG.1]
  rw [e2] at kk
  refine kk H1 (hG.new z1 o1 ?_) ⟨Nat.le_trans hS0.1 (by omega), fun q h1 h2 => (o1 q (Nat.lt_of_lt_of_le h1 hS0.1)).trans (hS0.2.1 q h1 h2), hS0.2.2⟩
  have hcA : cA = cy 16 := by
    obtain ⟨_, _, _, _, _, h5⟩ := (hK.2 4 _ rfl).2
    exact Option.some.inj (f1.symm.trans h5)
  show H1[base + S.1.length]? = some (vp_cell (cy 16) (n.toNatClampNeg, .inr (.inr (.inr (.inr (fun i => ((newC S 16 n.toNatClampNeg).2.2.2 S.1.length i).map (base + ·)))))))
  rw [← hG.1, e1, vp_cell_q, hcA]
  simp [newC, va_up, va_rf]
end GARR
end
section
/-! ===== what the small machine does, the bytecode does ===== -/
def nestOK (U : State) : Prop := ∀ q ∈ MNT, va_Nw (.methodLinkNest (RN q.1) q.2.1 (mt q.2.2).1 "AnswerDoor") U
theorem nestOK.same {u U : State} (h : u.vm = U.vm) (hN : nestOK u) : nestOK U := fun q hq => va_Nw.same rfl h (hN q hq)
theorem nestOK.warm {s U : State} (hW : s.WarmedH U.vm) (hN : nestOK s) : nestOK U := fun q hq => va_Nw.warmM hW (hN q hq)
def cPre (D : va_G) (cy : Nat → ClassId) (base b : Nat) (As : List Value) (S : Sto) : Array Value → State → Prop := va_Pc (As.map (cv base b)) (fun U => gW D cy base b S U.heap ∧ va_K D clsL (tysOf cy) U ∧ va_AO (RN 2) U ∧ nestOK U)
def cPost (D : va_G) (cy : Nat → ClassId) (base b : Nat) (Post : Option Value → Sto → Prop) : Array Value → State → Outcome → State → Prop := fun _ st oc t => (∃ (r : Option Value) (S' : Sto), oc = .returned (r.map (cv base b)) ∧ Post r S' ∧ gW D cy base b S' t.heap) ∧ va_F (fun q => base ≤ q) st t
def wsM (m : Nat) : List Jvm.Cond := Jvm.Cond.code (mt m).1 (mt m).2.1 (mt m).2.2.1 (mt m).2.2.2.1 :: GT
def rmD (d mc ms : Nat) : Room := { frames := d, cells := mc, slots := ms, locals := 40 * d }
theorem cPre.blind (D : va_G) (cy : Nat → ClassId) (base b : Nat) (As : List Value) (S : Sto) : FrameBlind (cPre D cy base b As S) := by
  intro a U g mk h
  obtain ⟨h1, h2, h3, h4, h5⟩ := h
  exact ⟨h1, h2, va_K.moved (u := U) (U := U.calling g mk a) (Vm.Alike.refl U.vm) h3, va_AO.moved (u := U) (U := U.calling g mk a) (Vm.Alike.refl U.vm) h4, nestOK.same (u := U) (U := U.calling g mk a) rfl h5⟩
theorem MM_all : ∀ m ∈ SMs ++ (VMs ++ IMs), m < MTs.length ∧ (mt m).2.2.2.2.1 ≤ 14 ∧ (mt m).2.2.2.2.1 ≠ 13 ∧ (mt m).2.2.2.2.1 ≠ 12 := by decide +kernel
theorem VM_12 : ∀ m ∈ VMs, (mt m).2.2.2.2.1 < 12 := by decide +kernel
theorem mt_in {m : Nat} (h : m < MTs.length) : mt m ∈ MTs := by
  unfold mt
  rw [List.getD_eq_getElem?_getD, List.getElem?_eq_getElem h]
  exact List.getElem_mem h
theorem wsM_good {m : Nat} (h : m ∈ SMs ++ (VMs ++ IMs)) : GoodIn GT (wsM m) := by
  obtain ⟨h1, -, -, h4⟩ := MM_all m h
  intro w hw
  rcases List.mem_cons.mp hw with rfl | hw
  · exact ⟨GT_in (MT_code (mt_in h1) h4) rfl, good_of_word rfl⟩
  · exact ⟨hw, good_of_word (List.mem_filter.mp hw).2⟩
theorem mt_not {m : Nat} (h : m ∈ SMs ++ (VMs ++ IMs)) : (mt m).1.cls ≠ "java/lang/invoke/MethodHandle" ∧ (mt m).1.cls ≠ "java/lang/invoke/VarHandle" := by
  obtain ⟨h1, h2, h3, -⟩ := MM_all m h
  rw [MT_cls _ (mt_in h1)]
  exact (RN_plain _ h2 h3).2
theorem mt_ini {m : Nat} (h : m ∈ SMs ++ (VMs ++ IMs)) {args : Array Value} {s : State} (hts : ∀ w ∈ GT, w.before args s = true) : (Jvm.Cond.initialized (mt m).1.cls).before args s = true := by
  obtain ⟨h1, h2, -, -⟩ := MM_all m h
  rw [MT_cls _ (mt_in h1)]
  exact hts _ (GT_in (RN_init _ h2) rfl)
/-- contracts of all that E runs -/
def ESnd (l : Launch) (D : va_G) (cy : Nat → ClassId) (base b : Nat) (d : Nat) (E : EX) : Prop := ∀ m As S mc ms Post, E m As S mc ms Post → m ∈ SMs ++ (VMs ++ IMs) ∧ Met l (mt m).1 (wsM m) (rmD d mc ms) (cPre D cy base b As S) (cPost D cy base b Post) mc ms (fun q => base ≤ q)
section GSND
variable {p : Program} {l : Launch} {e : Env} {R : Room} {s : State} {m : MethodId} {args : Array Value} {below : List Frame} {meth : Method} {c : Code} {Q : State → Prop}
variable {cc : ByteArray} {D : va_G} {cy : Nat → ClassId} {base b : Nat} {own nL d : Nat} {ini : Bool} {E : EX} {rt : Option FieldType} {cp : Nat × Nat} {Post : Option Value → Sto → Prop} {Z : Option (Nat × (Nat → Int32))}
theorem g_call {H : Heap} {locs : List Loc} {kc ks mc ms pc : Nat} {ls : Array Slot} {st0 rest : List Value} {a : Array Value} {Post' : Option Value → Sto → Prop}
    (hr : va_Run p l e R s m args below meth c H locs kc ks mc ms (F0 m pc ls st0) rest (cPost D cy base b Post' a) (fun q => base ≤ q)) (hS : va_S (fun q => base ≤ q) s.heap H locs)
    (kk : ∀ (r : Option Value) (S' : Sto) (H1 : Heap) (locs1 : List Loc), Post' r S' → gW D cy base b S' H1 → va_S (fun q => base ≤ q) s.heap H1 locs1 → W p l e R s m args below meth c H1 locs1 (kc + mc) (ks + ms) Q (F0 m (pc + 3) ls ((r.map (cv base b)).toList ++ rest))) : W p l e R s m args below meth c H locs kc ks Q (F0 m pc ls st0) := by
  intro T hT X
  obtain ⟨v, st₀, t, T', L, h0, X', hL, e1, e2, ⟨⟨r, S', hv, hp, hg⟩, hz, hk⟩, st⟩ := hr T hT X
  cases hv
  rw [h0] at hz hk
  obtain ⟨t2, a1, b1⟩ := kk r S' T'.heap (locs ++ L) hp (by rw [e1]; exact hg)
    ⟨Nat.le_trans hS.1 (by rw [e1]; exact hz), fun q h1 h2 => by rw [e1, hk q (Nat.lt_of_lt_of_le h1 hS.1) h2]; exact hS.2.1 q h1 h2, fun q hq => by
      rcases List.mem_append.mp hq with h | h
      · exact hS.2.2 q h
      · exact hL q h⟩ T' rfl X'
  exact ⟨t2, st t2 a1, b1⟩
/-- what stands around a frame -/
def Amb (l : Launch) (p : Program) (R : Room) (s : State) (m : MethodId) (args : Array Value) (meth : Method) (c : Code) (cc : ByteArray) (D : va_G) (cy : Nat → ClassId) (base b own nL d : Nat) (ini : Bool) (E : EX) (cp : Nat × Nat) (Z : Option (Nat × (Nat → Int32))) : Prop :=
  p.tables.exec = Jvm.exec ∧ c.code = cc ∧ c.maxLocals = nL ∧ s.vm.findClass (RN own) = some m.cls ∧ (∀ w ∈ GT, w.before args s = true) ∧ va_K D clsL (tysOf cy) s ∧ va_AO (RN 2) s ∧ nestOK s ∧ (ini = true → meth.name = "<init>") ∧ R.cells = cp.1 ∧ R.slots = cp.2 ∧ d + 1 ≤ R.frames ∧ 40 * (d + 1) ≤ R.locals ∧ ESnd l D cy base b d E ∧
  (∀ n xs, Z = some (n, xs) → va_X b n xs s s.heap ∧ b < s.heap.size ∧ b < base)
/-- the predicate that is closed under the machine's steps -/
def PW (p : Program) (l : Launch) (e : Env) (R : Room) (s : State) (m : MethodId) (args : Array Value) (below : List Frame) (meth : Method) (c : Code) (Q : State → Prop) (D : va_G) (cy : Nat → ClassId) (base b nL : Nat) (cp : Nat × Nat) : PP := fun pc lv st S kc ks =>
  kc ≤ cp.1 → ks ≤ cp.2 → ∀ (H : Heap) (locs : List Loc) (ls : Array Slot), gW D cy base b S H → va_S (fun q => base ≤ q) s.heap H locs → lv_has ls nL (lv.map (cvp base b)) → W p l e R s m args below meth c H locs kc ks Q (F0 m pc ls (st.map (cv base b)))
/-- how the frame may end -/
def Fin3 (p : Program) (l : Launch) (e : Env) (R : Room) (s : State) (m : MethodId) (args : Array Value) (below : List Frame) (meth : Method) (c : Code) (Q : State → Prop) (cc : ByteArray) (D : va_G) (cy : Nat → ClassId) (base b : Nat) (rt : Option FieldType) (cp : Nat × Nat) (Post : Option Value → Sto → Prop) : Prop :=
  (∀ (v : Int32) (ty : FieldType) (S : Sto) (H : Heap) (locs : List Loc) (ls : Array Slot) (pc kc ks : Nat), decode cc pc = .ok (.ireturn, 1) → rt = some ty → narrow ty (.int v) = .int v → Post (some (.int v)) S → gW D cy base b S H → va_S (fun q => base ≤ q) s.heap H locs → kc ≤ cp.1 → ks ≤ cp.2 → W p l e R s m args below meth c H locs kc ks Q (F0 m pc ls [.int v])) ∧
  (∀ (v : Int64) (S : Sto) (H : Heap) (locs : List Loc) (ls : Array Slot) (pc kc ks : Nat), decode cc pc = .ok (.lreturn, 1) → rt = some .long → Post (some (.long v)) S → gW D cy base b S H → va_S (fun q => base ≤ q) s.heap H locs → kc ≤ cp.1 → ks ≤ cp.2 → W p l e R s m args below meth c H locs kc ks Q (F0 m pc ls [.long v])) ∧
  (∀ (S : Sto) (H : Heap) (locs : List Loc) (ls : Array Slot) (pc kc ks : Nat), decode cc pc = .ok (.return_, 1) → rt = none → Post none S → gW D cy base b S H → va_S (fun q => base ≤ q) s.heap H locs → kc ≤ cp.1 → ks ≤ cp.2 → W p l e R s m args below meth c H locs kc ks Q (F0 m pc ls []))
theorem r_map (base b : Nat) (r : Option Value) (rest : List Value) : (r.map (cv base b)).toList ++ rest.map (cv base b) = (r.toList ++ rest).map (cv base b) := by cases r <;> simp
set_option maxHeartbeats 4000000 in
theorem sx_sound (hA : Amb l p R s m args meth c cc D cy base b own nL d ini E cp Z) {i : Instr} {q2 : Nat × Nat × Nat × Nat × Int32} {pc : Nat} {lv : List (Nat × Value)} {st : List Value} {S : Sto} {kc ks : Nat} {c' : CF} {O : Prop} (hdg : decode cc pc = .ok (i, q2.1)) (hk : lnkB own ini pc (i, q2) = true)
    (hs : sx nL Z cp (i, q2) pc lv st S kc ks = some (c', O)) (ho : O) (k : PW p l e R s m args below meth c Q D cy base b nL cp c'.1 c'.2.1 c'.2.2.1 c'.2.2.2.1 c'.2.2.2.2.1 c'.2.2.2.2.2) : PW p l e R s m args below meth c Q D cy base b nL cp pc lv st S kc ks := by
  obtain ⟨len, a, bb, dd, v⟩ := q2
  obtain ⟨hx, hb, hml, hown, hts, hK, hAO, hN, hini, hRc, hRs, hRf, hRl, hE, hZ⟩ := hA
  intro h1 h2 H locs ls hG hS hl
  cases i <;> simp only [sx, lnkB, Bool.and_eq_true, decide_eq_true_eq, reduceCtorEq] at hs hk
  case iconst n =>
    obtain ⟨hv, hlen⟩ := hk; subst hlen
    cases hs
    exact lv_iconst hx hb hdg hv (k h1 h2 H locs ls hG hS hl)
  case bipush n =>
    obtain ⟨hv, hlen⟩ := hk; subst hlen
    cases hs
    exact lv_bipush hx hb hdg hv (k h1 h2 H locs ls hG hS hl)
  case sipush n =>
    obtain ⟨hv, hlen⟩ := hk; subst hlen
    cases hs
    exact lv_sipush hx hb hdg hv (k h1 h2 H locs ls hG hS hl)
  case lconst n =>
    obtain ⟨hv, hlen⟩ := hk; subst hlen
    cases hs
    exact lv_lconst hx hb hdg hv (k h1 h2 H locs ls hG hS hl)
  case ldc n =>
    obtain ⟨hv, hlen⟩ := hk; subst hlen
    cases hs
    exact lv_ldc hx hb hown (hts _ (GT_in (KIT_ok _ hv) rfl)) hdg (k h1 h2 H locs ls hG hS hl)
  case ldc2_w n =>
    obtain ⟨hv, hlen⟩ := hk; subst hlen
    cases hs
    exact lv_ldc2 hx hb hown (hts _ (GT_in (KLT_ok _ hv) rfl)) hdg (k h1 h2 H locs ls hG hS hl)
  case iload_n n =>
    subst hk
    split at hs
    · next x hg => cases hs; exact lv_iload_n hx hb hdg rfl (lget_at hl hg) (k h1 h2 H locs ls hG hS hl)
    · cases hs
  case iload n =>
    subst hk
    split at hs
    · next x hg => cases hs; exact lv_iload hx hb hdg (lget_at hl hg) (k h1 h2 H locs ls hG hS hl)
    · cases hs
  case lload_n n =>
    subst hk
    split at hs
    · next x hg => cases hs; exact lv_lload_n hx hb hdg rfl (lget_at hl hg) (k h1 h2 H locs ls hG hS hl)
    · cases hs
  case aload_n n =>
    subst hk
    split at hs
    · next x hg => cases hs; exact lv_aload_n hx hb hdg rfl (lget_at hl hg) (k h1 h2 H locs ls hG hS hl)
    · next x hg => cases hs; exact lv_aload_n hx hb hdg rfl (lget_at hl hg) (k h1 h2 H locs ls hG hS hl)
    · cases hs
  case aload n =>
    subst hk
    split at hs
    · next x hg => cases hs; exact lv_aload hx hb hdg (lget_at hl hg) (k h1 h2 H locs ls hG hS hl)
    · cases hs
  case istore_n n =>
    subst hk
    split at hs
    · cases hs; exact lv_istore_n hx hb hdg rfl hl ho (lput1_map base b lv _ (.int _)) (fun ls' hl' => k h1 h2 H locs ls' hG hS hl')
    · cases hs
  case istore n =>
    subst hk
    split at hs
    · cases hs; exact lv_istore hx hb hdg hl ho (lput1_map base b lv _ (.int _)) (fun ls' hl' => k h1 h2 H locs ls' hG hS hl')
    · cases hs
  case lstore_n n =>
    subst hk
    split at hs
    · cases hs; exact lv_lstore_n hx hb hdg rfl hl ho (lput2_map base b lv _ (.long _)) (fun ls' hl' => k h1 h2 H locs ls' hG hS hl')
    · cases hs
  case astore_n n =>
    subst hk
    split at hs
    · cases hs; exact lv_astore_n hx hb hdg rfl hl ho (lput1_map base b lv _ (.ref _)) (fun ls' hl' => k h1 h2 H locs ls' hG hS hl')
    · cases hs
  case astore n =>
    subst hk
    split at hs
    · cases hs; exact lv_astore hx hb hdg hl ho (lput1_map base b lv _ (.ref _)) (fun ls' hl' => k h1 h2 H locs ls' hG hS hl')
    · cases hs
  case iinc n w =>
    obtain ⟨hv, hlen⟩ := hk; subst hlen
    split at hs
    · next x hg =>
      cases hs
      obtain ⟨j, hj⟩ := List.getElem?_of_mem (List.mem_map.mpr ⟨_, lget_mem hg, rfl⟩ : cvp base b (n, .int x) ∈ lv.map (cvp base b))
      exact lv_iinc hx hb hdg hl hj (by rw [hv]) ho (lput1_map base b lv n (.int (x + v))) (fun ls' hl' => k h1 h2 H locs ls' hG hS hl')
    · cases hs
  case iadd => subst hk; split at hs; · cases hs; exact lv_iadd hx hb hdg (k h1 h2 H locs ls hG hS hl)
               · cases hs
  case isub => subst hk; split at hs; · cases hs; exact lv_isub hx hb hdg (k h1 h2 H locs ls hG hS hl)
               · cases hs
  case imul => subst hk; split at hs; · cases hs; exact lv_imul hx hb hdg (k h1 h2 H locs ls hG hS hl)
               · cases hs
  case iand => subst hk; split at hs; · cases hs; exact lv_iand hx hb hdg (k h1 h2 H locs ls hG hS hl)
               · cases hs
  case ior => subst hk; split at hs; · cases hs; exact lv_ior hx hb hdg (k h1 h2 H locs ls hG hS hl)
              · cases hs
  case ishl => subst hk; split at hs; · cases hs; exact lv_ishl hx hb hdg (k h1 h2 H locs ls hG hS hl)
               · cases hs
  case ishr => subst hk; split at hs; · cases hs; exact lv_ishr hx hb hdg (k h1 h2 H locs ls hG hS hl)
               · cases hs
  case iushr => subst hk; split at hs; · cases hs; exact lv_iushr hx hb hdg rfl (k h1 h2 H locs ls hG hS hl)
                · cases hs
  case idiv => subst hk; split at hs; · cases hs; exact lv_idiv hx hb hdg ho (k h1 h2 H locs ls hG hS hl)
               · cases hs
  case irem => subst hk; split at hs; · cases hs; exact lv_irem hx hb hdg ho (k h1 h2 H locs ls hG hS hl)
               · cases hs
  case ladd => subst hk; split at hs; · cases hs; exact lv_ladd hx hb hdg (k h1 h2 H locs ls hG hS hl)
               · cases hs
  case lmul => subst hk; split at hs; · cases hs; exact lv_lmul hx hb hdg (k h1 h2 H locs ls hG hS hl)
               · cases hs
  case lcmp =>
    subst hk
    split at hs
    · next y x r =>
      cases hs
      exact W.lcmp hx hb hdg (k h1 h2 H locs ls hG hS hl)
    · cases hs
  case i2l => subst hk; split at hs; · cases hs; exact lv_i2l hx hb hdg rfl (k h1 h2 H locs ls hG hS hl)
              · cases hs
  case l2i => subst hk; split at hs; · cases hs; exact lv_l2i hx hb hdg rfl (k h1 h2 H locs ls hG hS hl)
              · cases hs
  case i2b => subst hk; split at hs; · cases hs; exact lv_i2b hx hb hdg rfl (k h1 h2 H locs ls hG hS hl)
              · cases hs
  case dup => subst hk; split at hs; · cases hs; exact lv_dup hx hb hdg (by rw [cat_cv']; exact ho) (k h1 h2 H locs ls hG hS hl)
              · cases hs
  case dup2 => subst hk; split at hs; · cases hs; exact lv_dup2_11 hx hb hdg (by rw [cat_cv']; exact ho.1) (by rw [cat_cv']; exact ho.2) (k h1 h2 H locs ls hG hS hl)
               · cases hs
  case pop => subst hk; split at hs; · cases hs; exact lv_pop hx hb hdg (by rw [cat_cv']; exact ho) (k h1 h2 H locs ls hG hS hl)
              · cases hs
  case getfield n =>
    obtain ⟨⟨hf, hd⟩, hlen⟩ := hk; subst hlen; subst hd
    split at hs
    · cases hs; exact g_get hx hb hts hown hK hG ho hf hdg (k h1 h2 H locs ls hG hS hl)
    · cases hs
  case putfield n =>
    obtain ⟨⟨⟨hf, hd⟩, hlen⟩, hfin⟩ := hk
    have hfin' : (TN a bb).2.2.2 = false ∨ (meth.name = "<init>" ∧ own = a) := by
      simp only [Bool.or_eq_true, Bool.not_eq_true', Bool.and_eq_true, decide_eq_true_eq] at hfin
      rcases hfin with q | ⟨q, q'⟩
      · exact Or.inl q
      · exact Or.inr ⟨hini q, q'⟩
    obtain ⟨ha1, hfb⟩ := FLT_in _ hf
    subst hlen
    split at hs
    · next x k' r =>
      cases hs
      refine g_put (v := .int x) (S' := setI S k' bb x) hx hb hts hown hK hG hS ho.1 hf hfin' ho.2.1 ho.2.2 rfl (setI_ho S k' bb x) (fun j hj => ?_) hdg (fun H1 locs1 hG1 hS1 => k h1 h2 H1 locs1 ls hG1 hS1 hl)
      by_cases ej : j = bb
      · subst ej
        rw [hd]
        simp [fvG, setI, up2_row, va_up]
      · rw [if_neg ej]
        unfold fvG
        split <;> simp [setI, up2_row, va_up, ej]
    · next x k' r =>
      cases hs
      have e1 := tyK1 ha1 hfb hd
      have e1 : tyN a bb = .long := e1
      refine g_put (v := .long x) (S' := setL S k' bb x) hx hb hts hown hK hG hS ho hf hfin' (by rw [e1]; rfl) (by rw [e1]; rfl) rfl (setL_ho S k' bb x) (fun j hj => ?_) hdg (fun H1 locs1 hG1 hS1 => k h1 h2 H1 locs1 ls hG1 hS1 hl)
      by_cases ej : j = bb
      · subst ej
        rw [hd]
        simp [fvG, setL, up2_row, va_up]
      · rw [if_neg ej]
        unfold fvG
        split <;> simp [setL, up2_row, va_up, ej]
    · next x k' r =>
      cases hs
      have e1 := tyK2 ha1 hfb hd (base + x)
      refine g_put (v := .ref x) (S' := setR S k' bb (some x)) hx hb hts hown hK hG hS ho hf hfin' e1.1 e1.2 rfl (setR_ho S k' bb (some x)) (fun j hj => ?_) hdg (fun H1 locs1 hG1 hS1 => k h1 h2 H1 locs1 ls hG1 hS1 hl)
      by_cases ej : j = bb
      · subst ej
        rw [hd]
        simp [fvG, setR, up2_row, va_up, va_rf]
      · rw [if_neg ej]
        unfold fvG
        split <;> simp [setR, up2_row, va_up, ej]
    · cases hs
  case iaload =>
    subst hk
    split at hs
    · cases hs; exact g_iald hx hb hK hG ho hdg (k h1 h2 H locs ls hG hS hl)
    · split at hs
      · next n xs =>
        cases hs
        obtain ⟨z1, z2, z3⟩ := hZ n xs rfl
        exact va_sld hx hb z1 z2 (A := fun q => base ≤ q) (Nat.not_le.mpr z3) hS ho hdg (k h1 h2 H locs ls hG hS hl)
      · cases hs
    · cases hs
  case baload =>
    obtain ⟨ha, hlen⟩ := hk; subst hlen
    split at hs
    · cases hs; exact g_bald hx hb hK hG (by simpa using ha) ho hdg (k h1 h2 H locs ls hG hS hl)
    · cases hs
  case laload => subst hk; split at hs; · cases hs; exact g_lald hx hb hK hG ho hdg (k h1 h2 H locs ls hG hS hl)
                 · cases hs
  case aaload => subst hk; split at hs; · cases hs; exact g_aald hx hb hK hG ho hdg (k h1 h2 H locs ls hG hS hl)
                 · cases hs
  case iastore => subst hk; split at hs; · cases hs; exact g_iast hx hb hK hG hS ho hdg (fun H1 locs1 hG1 hS1 => k h1 h2 H1 locs1 ls hG1 hS1 hl)
                  · cases hs
  case bastore =>
    subst hk
    split at hs
    · cases hs; exact g_bast hx hb hK hG hS ho hdg (fun H1 locs1 hG1 hS1 => k h1 h2 H1 locs1 ls hG1 hS1 hl)
    · cases hs; exact g_zast hx hb hK hG hS ho hdg (fun H1 locs1 hG1 hS1 => k h1 h2 H1 locs1 ls hG1 hS1 hl)
    · cases hs
  case lastore => subst hk; split at hs; · cases hs; exact g_last hx hb hK hG hS ho hdg (fun H1 locs1 hG1 hS1 => k h1 h2 H1 locs1 ls hG1 hS1 hl)
                  · cases hs
  case aastore => subst hk; split at hs; · cases hs; exact g_aast hx hb hK hG hS ho.1 ho.2 hdg (fun H1 locs1 hG1 hS1 => k h1 h2 H1 locs1 ls hG1 hS1 hl)
                  · cases hs
  case arraylength =>
    subst hk
    split at hs
    · split at hs
      · next c0 n hc0 =>
        cases hs
        subst ho
        exact g_alen hx hb hK hG hc0 hdg (k h1 h2 H locs ls hG hS hl)
      · cases hs
    · split at hs
      · next n xs =>
        cases hs
        obtain ⟨z1, z2, z3⟩ := hZ n _ rfl
        exact va_slen hx hb z1 z2 (A := fun q => base ≤ q) (Nat.not_le.mpr z3) hS hdg (k h1 h2 H locs ls hG hS hl)
      · cases hs
    · cases hs
  case new n =>
    obtain ⟨hf, hlen⟩ := hk; subst hlen
    cases hs
    exact g_new hx hb hts hown hK hG hS hf (by rw [hRc]; exact ho.1) (by rw [hRs]; exact ho.2) hdg (fun H1 hG1 hS1 => k ho.1 ho.2 H1 locs ls hG1 hS1 hl)
  case newarray t =>
    obtain ⟨hlen, ha⟩ := hk; subst hlen
    split at hs
    · cases hs
      obtain ⟨o1, o2, o3, o4⟩ := ho
      exact g_newa hx hb hts hK hG hS ha o1 o2 (by rw [hRc]; exact o3) (by rw [hRs]; exact o4) hdg (fun H1 hG1 hS1 => k o3 o4 H1 locs ls hG1 hS1 hl)
    · cases hs
  case anewarray n =>
    obtain ⟨hf, hlen⟩ := hk; subst hlen
    split at hs
    · cases hs
      obtain ⟨o1, o2, o3, o4⟩ := ho
      exact g_newq hx hb hts hown hAO hK hG hS hf o1 o2 (by rw [hRc]; exact o3) (by rw [hRs]; exact o4) hdg (fun H1 hG1 hS1 => k o3 o4 H1 locs ls hG1 hS1 hl)
    · cases hs
  case invokestatic n =>
    obtain ⟨hlen, hk⟩ := hk; subst hlen
    split at hs
    · next y x r =>
      cases hs
      have hm : (own, n, 0) ∈ MMT := of_decide_eq_true hk
      have hc8 : ((r.map (cv base b)).map fun v => v.category).sum ≤ 8 := by rw [cats_cv]; exact ho
      exact va_mmin hx hb (hml.trans hl.1.symm) hown (hts _ (GT_in (MMT_ok _ hm) rfl)) (hts _ (GT_in MM_st.1 rfl)) (hts _ (GT_in MM_st.2.2 rfl)) (hts _ (GT_in MM_c0 rfl)) (by omega) (by omega) (by rw [hRc]; exact h1) (by rw [hRs]; exact h2) hdg (k h1 h2 H locs ls hG hS hl)
    · next y x r =>
      cases hs
      have hm : (own, n, 1) ∈ MMT := of_decide_eq_true hk
      have hc8 : ((r.map (cv base b)).map fun v => v.category).sum ≤ 8 := by rw [cats_cv]; exact ho
      exact va_mmin_long hx hb (hml.trans hl.1.symm) hown (hts _ (GT_in (MMT_ok _ hm) rfl)) (hts _ (GT_in MM_st.2.1 rfl)) (hts _ (GT_in MM_st.2.2 rfl)) (hts _ (GT_in MM_c1 rfl)) (by omega) (by omega) (by rw [hRc]; exact h1) (by rw [hRs]; exact h2) hdg (k h1 h2 H locs ls hG hS hl)
    · cases hs
  case invokespecial n =>
    obtain ⟨hlen, hk⟩ := hk; subst hlen
    split at hs
    · next k' r =>
      cases hs
      have hm : (own, n) ∈ OIT := of_decide_eq_true hk
      have hc8 : ((r.map (cv base b)).map fun v => v.category).sum ≤ 8 := by rw [cats_cv]; exact ho
      have hc9 := lv_room (m := m) (pc := pc) (ls := ls) (rest := .ref (base + k') :: r.map (cv base b)) hc8
      exact W.objInit hx hb hown (hts _ (GT_in (OIT_ok _ hm) rfl)) (hts _ (GT_in OI_ok rfl)) (hts _ (GT_in OI_code rfl)) rfl (by rw [hml]; exact hl.1) rfl hdg (by omega) (by have hc10 : 2 * (F0 m pc ls (List.map (cv base b) (Value.ref k' :: r))).monitorRoom + ((r.map (cv base b)).map fun v => v.category).sum ≤ 8 := hc9; omega) (k h1 h2 H locs ls hG hS hl)
    · cases hs
set_option maxHeartbeats 4000000 in
/-- the walk's predicate is closed under the machine's steps -/
theorem snd_clo (hA : Amb l p R s m args meth c cc D cy base b own nL d ini E cp Z) (hF : Fin3 p l e R s m args below meth c Q cc D cy base b rt cp Post) : Clo E cc own ini nL rt Z cp Post (PW p l e R s m args below meth c Q D cy base b nL cp) := by
  intro pc lv st S kc ks hq
  obtain ⟨⟨i, len, a, bb, dd, v⟩, hdg, hk, h⟩ := hq
  have hA0 := hA
  obtain ⟨hx, hb, hml, hown, hts, hK, hAO, hN, hini, hRc, hRs, hRf, hRl, hE, hZ⟩ := hA
  have callOK : ∀ {y : Nat}, y ∈ SMs ++ (VMs ++ IMs) → ∀ mc ms : Nat, (rmD d mc ms).frames + 1 ≤ R.frames ∧ 8 + ((mt y).2.2.1 + 11) + (rmD d mc ms).locals ≤ R.locals := by
    intro y hy mc ms
    have h20 := MT_nL _ (mt_in (MM_all y hy).1)
    exact ⟨hRf, by show 8 + ((mt y).2.2.1 + 11) + 40 * d ≤ R.locals; omega⟩
  have pre : ∀ {H : Heap} (As : List Value) {S : Sto}, gW D cy base b S H → ∀ U : State, U.heap = H → s.WarmedH U.vm → cPre D cy base b As S (As.map (cv base b)).toArray U := by
    intro H As S hG U hU hW
    exact ⟨rfl, by rw [hU]; exact hG, va_K.moved hW.alike hK, va_AO.moved hW.alike hAO, hN.warm hW⟩
  cases i
  case if_icmp cd o =>
    obtain ⟨x, y, r, rfl, ht, hf⟩ := h
    simp only [lnkB, Bool.and_eq_true, decide_eq_true_eq] at hk
    obtain ⟨htg, hlen⟩ := hk; subst hlen
    intro h1 h2 H locs ls hG hS hl
    cases cd
    case eq => exact lv_icmp_eq hx hb hdg htg (fun c => ht c h1 h2 H locs ls hG hS hl) (fun c => hf c h1 h2 H locs ls hG hS hl)
    case ne => exact lv_icmp_ne hx hb hdg htg (fun c => ht c h1 h2 H locs ls hG hS hl) (fun c => hf (fun n => n c) h1 h2 H locs ls hG hS hl)
    case lt => exact lv_icmp_lt hx hb hdg htg (fun c => ht c h1 h2 H locs ls hG hS hl) (fun c => hf c h1 h2 H locs ls hG hS hl)
    case ge => exact lv_icmp_ge hx hb hdg htg (fun c => ht c h1 h2 H locs ls hG hS hl) (fun c => hf c h1 h2 H locs ls hG hS hl)
    case gt => exact lv_icmp_gt hx hb hdg htg (fun c => ht c h1 h2 H locs ls hG hS hl) (fun c => hf c h1 h2 H locs ls hG hS hl)
    case le => exact lv_icmp_le hx hb hdg htg (fun c => ht c h1 h2 H locs ls hG hS hl) (fun c => hf c h1 h2 H locs ls hG hS hl)
  case ifCond cd o =>
    obtain ⟨x, r, rfl, ht, hf⟩ := h
    simp only [lnkB, Bool.and_eq_true, decide_eq_true_eq] at hk
    obtain ⟨htg, hlen⟩ := hk; subst hlen
    intro h1 h2 H locs ls hG hS hl
    cases cd
    case eq => exact lv_if_eq hx hb hdg htg (fun c => ht c h1 h2 H locs ls hG hS hl) (fun c => hf c h1 h2 H locs ls hG hS hl)
    case ne => exact lv_if_ne hx hb hdg htg (fun c => ht c h1 h2 H locs ls hG hS hl) (fun c => hf (fun n => n c) h1 h2 H locs ls hG hS hl)
    case lt => exact lv_if_lt hx hb hdg htg (fun c => ht c h1 h2 H locs ls hG hS hl) (fun c => hf c h1 h2 H locs ls hG hS hl)
    case ge => exact lv_if_ge hx hb hdg htg (fun c => ht c h1 h2 H locs ls hG hS hl) (fun c => hf c h1 h2 H locs ls hG hS hl)
    case gt => exact lv_if_gt hx hb hdg htg (fun c => ht c h1 h2 H locs ls hG hS hl) (fun c => hf c h1 h2 H locs ls hG hS hl)
    case le => exact lv_if_le hx hb hdg htg (fun c => ht c h1 h2 H locs ls hG hS hl) (fun c => hf c h1 h2 H locs ls hG hS hl)
  case goto o =>
    simp only [lnkB, Bool.and_eq_true, decide_eq_true_eq] at hk
    obtain ⟨htg, hlen⟩ := hk; subst hlen
    intro h1 h2 H locs ls hG hS hl
    exact lv_goto hx hb hdg htg (h h1 h2 H locs ls hG hS hl)
  case tableswitch df lo hi offs =>
    obtain ⟨x, r, t, rfl, hsw, kk⟩ := h
    intro h1 h2 H locs ls hG hS hl
    simp only [swT] at hsw
    split at hsw
    · next hout => exact lv_tableOut hx hb hdg hout (Option.some.inj hsw) (kk h1 h2 H locs ls hG hS hl)
    · next hin =>
      obtain ⟨off, ho, ht⟩ := Option.map_eq_some_iff.mp hsw
      exact lv_tableIn hx hb hdg (fun q => hin (Or.inl q)) (fun q => hin (Or.inr q)) ho ht (kk h1 h2 H locs ls hG hS hl)
  case lookupswitch df ps =>
    obtain ⟨x, r, t, rfl, hsw, kk⟩ := h
    intro h1 h2 H locs ls hG hS hl
    simp only [swT] at hsw
    simp only [lnkB] at hk
    exact lv_lookup hx hb hdg hk rfl (Option.some.inj hsw) (kk h1 h2 H locs ls hG hS hl)
  case ireturn =>
    obtain ⟨w, ty, rfl, hrt, hn, hpost⟩ := h
    simp only [lnkB, decide_eq_true_eq] at hk
    subst hk
    intro h1 h2 H locs ls hG hS hl
    exact hF.1 w ty S H locs ls pc kc ks hdg hrt hn hpost hG hS h1 h2
  case lreturn =>
    obtain ⟨w, rfl, hrt, hpost⟩ := h
    simp only [lnkB, decide_eq_true_eq] at hk
    subst hk
    intro h1 h2 H locs ls hG hS hl
    exact hF.2.1 w S H locs ls pc kc ks hdg hrt hpost hG hS h1 h2
  case return_ =>
    obtain ⟨rfl, hrt, hpost⟩ := h
    simp only [lnkB, decide_eq_true_eq] at hk
    subst hk
    intro h1 h2 H locs ls hG hS hl
    exact hF.2.2 S H locs ls pc kc ks hdg hrt hpost hG hS h1 h2
  case invokevirtual n =>
    obtain ⟨k', As, rest, mc, ms, rfl, hna, hok, hcat, hc1, hc2, hEx⟩ := h
    simp only [lnkB, Bool.and_eq_true, decide_eq_true_eq] at hk
    obtain ⟨⟨⟨hlen, hml2⟩, hvm⟩, hb0⟩ := hk; subst hlen
    obtain ⟨hm, hM⟩ := hE _ _ _ _ _ _ hEx
    intro h1 h2 H locs ls hG hS hl
    have hc := VM_12 _ hvm
    have hna' := VM_na _ (List.mem_append_left _ hvm)
    have recv : ∃ cellB : Cell, H[base + k']? = some cellB ∧ cellB.vm.isStatics = false ∧ s.vm.findClass (RN (mt a).2.2.2.2.1) = some cellB.cls := by
      have h := hG.2 k' _ _ hok
      unfold cellOK at h
      rw [if_pos hc] at h
      obtain ⟨-, cell, q1, q2, q3, q4⟩ := h
      exact ⟨cell, q1, by rw [q3]; rfl, by rw [q2]; exact (hK.1 _ _ (clsL_at hc)).2.1⟩
    have hn : As.length = (mt a).2.2.2.2.2 - 1 := by
      have : As.length + 1 = (mt a).2.2.2.2.2 := hna
      omega
    refine g_call (va_runV (As := As.map (cv base b)) (rest := rest.map (cv base b)) (b := base + k') (C := RN (mt a).2.2.2.2.1) ⟨hx, hb, hml, hown, hts⟩ hM ⟨callB_of _ hts (wsM_good hm) rfl rfl rfl (mt_ini hm hts) (hts _ (GT_in (MLT_ok _ hml2) rfl)) ⟨(mt_not hm).1, (mt_not hm).2, hna'.1⟩ (callOK hm mc ms), hts _ (GT_in (VM_ok _ hvm).1 rfl), hts _ (GT_in (VM_ok _ hvm).2 rfl)⟩
      ⟨cPre.blind _ _ _ _ _ _, recv, pre (.ref k' :: As) hG⟩ rfl (by rw [List.length_map]; exact hn) hl.1 (by simp [List.map_append, List.map_reverse, cv]) (lv_room (by rw [cats_cv]; exact hcat)) hdg ⟨by rw [hRc]; exact hc1, by rw [hRs]; exact hc2⟩) hS (fun r S' H1 locs1 hp hG1 hS1 => ?_)
    rw [r_map]
    exact hp hc1 hc2 H1 locs1 ls hG1 hS1 hl
  case invokestatic n =>
    rcases h with ⟨c', O, hs, ho, kk⟩ | ⟨hb1, As, rest, mc, ms, rfl, hna, hcat, hc1, hc2, hEx⟩
    · exact sx_sound hA0 hdg hk hs ho kk
    · simp only [lnkB, Bool.and_eq_true, decide_eq_true_eq] at hk
      obtain ⟨hlen, hk⟩ := hk; subst hlen
      obtain ⟨hm, hM⟩ := hE _ _ _ _ _ _ hEx
      intro h1 h2 H locs ls hG hS hl
      have hb1 : bb ≤ 1 := hb1
      have hb01 : bb = 0 ∨ bb = 1 := by omega
      have hn : As.length = (mt a).2.2.2.2.2 := hna
      rcases hb01 with rfl | rfl
      · simp only [Bool.and_eq_true, decide_eq_true_eq] at hk
        refine g_call (va_runS (As := As.map (cv base b)) (rest := rest.map (cv base b)) ⟨hx, hb, hml, hown, hts⟩ hM ⟨callB_of _ hts (wsM_good hm) rfl rfl rfl (mt_ini hm hts) (hts _ (GT_in (MLT_ok _ hk.1) rfl)) ⟨(mt_not hm).1, (mt_not hm).2, SM_na _ hk.2⟩ (callOK hm mc ms), hts _ (GT_in (SM_ok _ hk.2) rfl)⟩
          ⟨cPre.blind _ _ _ _ _ _, pre As hG⟩ rfl (by rw [List.length_map]; exact hn) hl.1 (by simp [List.map_append, List.map_reverse]) (lv_room (by rw [cats_cv]; exact hcat)) hdg ⟨by rw [hRc]; exact hc1, by rw [hRs]; exact hc2⟩) hS (fun r S' H1 locs1 hp hG1 hS1 => ?_)
        rw [r_map]
        exact hp hc1 hc2 H1 locs1 ls hG1 hS1 hl
      · simp only [Bool.and_eq_true, decide_eq_true_eq] at hk
        refine g_call (va_runSN (As := As.map (cv base b)) (rest := rest.map (cv base b)) ⟨hx, hb, hml, hown, hts⟩ hM ⟨va_cnB _ hts (wsM_good hm) rfl rfl rfl (hN _ hk.1) (mt_ini hm hts) ⟨(mt_not hm).1, (mt_not hm).2, SM_na _ hk.2⟩ (callOK hm mc ms), hts _ (GT_in (SM_ok _ hk.2) rfl), trivial⟩
          ⟨cPre.blind _ _ _ _ _ _, pre As hG⟩ rfl (by rw [List.length_map]; exact hn) hl.1 (by simp [List.map_append, List.map_reverse]) (lv_room (by rw [cats_cv]; exact hcat)) hdg ⟨by rw [hRc]; exact hc1, by rw [hRs]; exact hc2⟩) hS (fun r S' H1 locs1 hp hG1 hS1 => ?_)
        rw [r_map]
        exact hp hc1 hc2 H1 locs1 ls hG1 hS1 hl
  case invokespecial n =>
    rcases h with ⟨c', O, hs, ho, kk⟩ | ⟨hb1, k', As, rest, mc, ms, rfl, hna, hcat, hc1, hc2, hEx⟩
    · exact sx_sound hA0 hdg hk hs ho kk
    · simp only [lnkB, Bool.and_eq_true, decide_eq_true_eq] at hk
      obtain ⟨hlen, hk⟩ := hk; subst hlen
      obtain ⟨hm, hM⟩ := hE _ _ _ _ _ _ hEx
      intro h1 h2 H locs ls hG hS hl
      have hb1 : bb ≤ 1 := hb1
      have hb01 : bb = 0 ∨ bb = 1 := by omega
      rcases hb01 with rfl | rfl
      · simp only [Bool.and_eq_true, decide_eq_true_eq] at hk
        have hI := IM_ok _ hk.2
        have hna' := VM_na _ (List.mem_append_right _ hk.2)
        have hn : As.length = (mt a).2.2.2.2.2 - 1 := by
          have : As.length + 1 = (mt a).2.2.2.2.2 := hna
          omega
        have hcb := callB_of (bytes := (mt a).2.1) (maxL := (mt a).2.2.1) (ret := (mt a).2.2.2.1) _ hts (wsM_good hm) rfl (rm := rmD d mc ms) rfl rfl (mt_ini hm hts) (hts _ (GT_in (MLT_ok _ hk.1) rfl)) ⟨(mt_not hm).1, (mt_not hm).2, hna'.1⟩ (callOK hm mc ms)
        rw [hI.2.2] at hcb
        refine g_call (va_runI (As := As.map (cv base b)) (rest := rest.map (cv base b)) (b := base + k') ⟨hx, hb, hml, hown, hts⟩ hM ⟨hcb, hI.2.1, hts _ (GT_in hI.1 rfl)⟩
          ⟨cPre.blind _ _ _ _ _ _, pre (.ref k' :: As) hG⟩ rfl (by rw [List.length_map]; exact hn) hl.1 (by simp [List.map_append, List.map_reverse, cv]) (lv_room (by rw [cats_cv]; exact hcat)) hdg ⟨by rw [hRc]; exact hc1, by rw [hRs]; exact hc2⟩) hS (fun r S' H1 locs1 hp hG1 hS1 => ?_)
        rw [r_map]
        exact hp hc1 hc2 H1 locs1 ls hG1 hS1 hl
      · simp only [Bool.and_eq_true, decide_eq_true_eq] at hk
        have hI := IM_ok _ hk.2
        have hna' := VM_na _ (List.mem_append_right _ hk.2)
        have hn : As.length = (mt a).2.2.2.2.2 - 1 := by
          have : As.length + 1 = (mt a).2.2.2.2.2 := hna
          omega
        have hcb := va_cnB (bytes := (mt a).2.1) (maxL := (mt a).2.2.1) (ret := (mt a).2.2.2.1) _ hts (wsM_good hm) rfl (rm := rmD d mc ms) rfl rfl (hN _ hk.1) (mt_ini hm hts) ⟨(mt_not hm).1, (mt_not hm).2, hna'.1⟩ (callOK hm mc ms)
        rw [hI.2.2] at hcb
        refine g_call (va_runIN (As := As.map (cv base b)) (rest := rest.map (cv base b)) (b := base + k') ⟨hx, hb, hml, hown, hts⟩ hM ⟨hcb, hI.2.1, hts _ (GT_in hI.1 rfl)⟩
          ⟨cPre.blind _ _ _ _ _ _, pre (.ref k' :: As) hG⟩ rfl (by rw [List.length_map]; exact hn) hl.1 (by simp [List.map_append, List.map_reverse, cv]) (lv_room (by rw [cats_cv]; exact hcat)) hdg ⟨by rw [hRc]; exact hc1, by rw [hRs]; exact hc2⟩) hS (fun r S' H1 locs1 hp hG1 hS1 => ?_)
        rw [r_map]
        exact hp hc1 hc2 H1 locs1 ls hG1 hS1 hl
  all_goals
    rcases h with ⟨c', O, hs, ho, kk⟩ | h
    · exact sx_sound hA0 hdg hk hs ho kk
    · exact False.elim h
end GSND
theorem lv_args_map (base b : Nat) : ∀ (As : List Value) (i : Nat), lv_args i (As.map (cv base b)) = (lv_args i As).map (cvp base b)
  | [], _ => rfl
  | v :: vs, i => by
    simp only [List.map_cons, lv_args, cat_cv', cvp]
    rw [lv_args_map base b vs]
theorem lg_sl_len (base b : Nat) : ∀ As : List Value, (lg_sl (As.map (cv base b))).length = cats As
  | [] => rfl
  | v :: vs => by
    have ih := lg_sl_len base b vs
    unfold lg_sl at ih ⊢
    unfold cats at ih ⊢
    simp only [List.map_cons, List.flatMap_cons, List.length_append, ih, List.sum_cons, cat_cv']
    rcases lv_cat v with h | h <;> simp [h]
set_option maxHeartbeats 4000000 in
/-- every call of the small machine is one of the bytecode -/
theorem sound (l : Launch) (D : va_G) (cy : Nat → ClassId) (base b : Nat) : ∀ d, ESnd l D cy base b d (Ex d)
  | 0 => fun _ _ _ _ _ _ h => h.elim
  | d + 1 => by
    intro m As S mc ms Post h
    obtain ⟨hm, hw, hR⟩ := h
    refine ⟨hm, ?_⟩
    obtain ⟨hmt, hm14, hm13, hm12⟩ := MM_all m hm
    have hcls := MT_cls _ (mt_in hmt)
    refine Met.ofW (cc := (mt m).2.1) (maxL := (mt m).2.2.1) (ret := (mt m).2.2.2.1) (by rw [hcls]; exact (RN_plain _ hm14 hm13).1) rfl ?_
    intro p e s mid args below meth c s₁ B hml hv
    obtain ⟨rfl, hG, hK, hAO, hN⟩ := hv
    have hts0 := atoms_spec (ws := wsM m) B.pre
    have hts : ∀ w ∈ GT, w.before (As.map (cv base b)).toArray s = true := fun w hw => hts0 w (List.mem_cons_of_mem _ hw)
    have hown : s.vm.findClass (RN (mt m).2.2.2.2.1) = some mid.cls := by
      rw [← hcls]; exact findClass_of_methodNamed B.named
    have hlocks := B.notSynchronized
    have hr := B.returns
    have hini : isIni m = true → meth.name = "<init>" := by
      intro h
      have h1 : m ∈ IMs := of_decide_eq_true h
      rw [(name_of_methodNamed B.named B.method).1]
      exact (IM_ok m h1).2.1
    have hA : Amb l p (headSpec (wsM m) (rmD (d + 1) mc ms)).room s mid (As.map (cv base b)).toArray meth c (mt m).2.1 D cy base b (mt m).2.2.2.2.1 (mt m).2.2.1 d (isIni m) (Ex d) (mc, ms) none :=
      ⟨B.exec, B.bytes, hml, hown, hts, hK, hAO, hN, hini, rfl, rfl, Nat.le_refl _, Nat.le_refl _, sound l D cy base b d, fun n xs h => by cases h⟩
    have hF : Fin3 p l e (headSpec (wsM m) (rmD (d + 1) mc ms)).room s mid (As.map (cv base b)).toArray below meth c (MQ below (cPost D cy base b Post) (As.map (cv base b)).toArray s mc ms (fun q => base ≤ q)) (mt m).2.1 D cy base b (mt m).2.2.2.1 (mc, ms) Post := by
      refine ⟨?_, ?_, ?_⟩
      · intro v ty S H locs ls pc kc ks hdg hrt hn hpost hG hS h1 h2
        refine W.widen (k := mc) (n := ms) h1 h2 ?_
        exact W.zret B.exec B.bytes (hr.trans hrt) hn (fun t ht hW => ⟨⟨some (.int v), S, rfl, hpost, by rw [ht]; exact hG⟩, hS.F ht⟩) hS.2.2 hdg
      · intro v S H locs ls pc kc ks hdg hrt hpost hG hS h1 h2
        refine W.widen (k := mc) (n := ms) h1 h2 ?_
        exact W.lret B.exec B.bytes (hr.trans hrt) (fun t ht hW => ⟨⟨some (.long v), S, rfl, hpost, by rw [ht]; exact hG⟩, hS.F ht⟩) hS.2.2 hdg
      · intro S H locs ls pc kc ks hdg hrt hpost hG hS h1 h2
        refine W.widen (k := mc) (n := ms) h1 h2 ?_
        exact W.vret B.exec B.bytes (hr.trans hrt) (fun t ht hW => ⟨⟨none, S, rfl, hpost, by rw [ht]; exact hG⟩, hS.F ht⟩) hS.2.2 hdg
    have hP := hR _ (snd_clo hA hF) (Nat.zero_le _) (Nat.zero_le _) s.heap []
    have hl := lv_entry (As.map (cv base b)) (n := (mt m).2.2.1) (by rw [lg_sl_len]; exact hw)
    rw [lv_args_map] at hl
    rw [lg_entry_eq]
    exact hP _ hG va_S.rf hl
end
section
/-! ===== rules for runs of the small machine ===== -/
def evS (nL : Nat) (Z : Option (Nat × (Nat → Int32))) (cp : Nat × Nat) : List RI → Nat → List (Nat × Value) → List Value → Sto → Nat → Nat → Option (CF × Prop)
  | [], pc, lv, st, S, kc, ks => some ((pc, lv, st, S, kc, ks), True)
  | q :: B, pc, lv, st, S, kc, ks => match sx nL Z cp q pc lv st S kc ks with
    | some ((pc1, lv1, st1, S1, kc1, ks1), O) => match evS nL Z cp B pc1 lv1 st1 S1 kc1 ks1 with
      | some (c2, O2) => some (c2, O ∧ O2)
      | none => none
    | none => none
def seqI (i : Instr) : Bool := match i with
  | .if_icmp .. | .ifCond .. | .goto _ | .tableswitch .. | .lookupswitch .. | .ireturn | .lreturn | .return_ | .invokevirtual _ => false
  | _ => true
/-- a row of instructions as the bytes have it -/
def segB (own : Nat) (ini : Bool) (cc : ByteArray) : Nat → List RI → Bool
  | _, [] => true
  | pc, q :: B => decide (decode cc pc = .ok (q.1, q.2.1)) && lnkB own ini pc q && seqI q.1 && segB own ini cc (pc + q.2.1) B
theorem rule_sx {E : EX} {nL : Nat} {rt : Option FieldType} {Z : Option (Nat × (Nat → Int32))} {cp : Nat × Nat} {Post : Option Value → Sto → Prop} {P : PP} {q : RI} {pc : Nat} {lv : List (Nat × Value)} {st : List Value} {S : Sto} {kc ks : Nat} (hq : seqI q.1 = true) {c' : CF} {O : Prop} (h : sx nL Z cp q pc lv st S kc ks = some (c', O)) (ho : O) (k : P c'.1 c'.2.1 c'.2.2.1 c'.2.2.2.1 c'.2.2.2.2.1 c'.2.2.2.2.2) : RuleI E nL rt Z cp Post P q pc lv st S kc ks := by
  obtain ⟨i, q2⟩ := q
  cases i <;> first | exact Or.inl ⟨c', O, h, ho, k⟩ | exact absurd hq Bool.false_ne_true
/-- each instruction is as long as it goes on -/
theorem sx_pc {nL : Nat} {Z : Option (Nat × (Nat → Int32))} {cp : Nat × Nat} {q : RI} {pc own : Nat} {ini : Bool} {lv : List (Nat × Value)} {st : List Value} {S : Sto} {kc ks : Nat} {c' : CF} {O : Prop} (hk : lnkB own ini pc q = true) (h : sx nL Z cp q pc lv st S kc ks = some (c', O)) : c'.1 = pc + q.2.1 := by
  obtain ⟨i, len, a, bb, dd, v⟩ := q
  cases i <;> simp only [sx, lnkB, Bool.and_eq_true, decide_eq_true_eq, reduceCtorEq] at h hk <;> (repeat' split at h) <;> first | (cases h; done) | (cases h; simp_all)
section RUL
variable {d : Nat} {cc : ByteArray} {own : Nat} {ini : Bool} {nL : Nat} {rt : Option FieldType} {Z : Option (Nat × (Nat → Int32))} {cp : Nat × Nat} {Post : Option Value → Sto → Prop} {pc : Nat} {lv : List (Nat × Value)} {st r : List Value} {S : Sto} {kc ks : Nat}
theorem R_seg : ∀ (B : List RI) {pc : Nat} {lv : List (Nat × Value)} {st : List Value} {S : Sto} {kc ks pc' : Nat} {lv' : List (Nat × Value)} {st' : List Value} {S' : Sto} {kc' ks' : Nat} {O : Prop}, segB own ini cc pc B = true → evS nL Z cp B pc lv st S kc ks = some ((pc', lv', st', S', kc', ks'), O) → O → Runs (Ex d) cc own ini nL rt Z cp Post pc' lv' st' S' kc' ks' → Runs (Ex d) cc own ini nL rt Z cp Post pc lv st S kc ks
  | [], _, _, _, _, _, _, _, _, _, _, _, _, _, _, he, _, k => by
    cases he
    exact k
  | q :: B, pc, lv, st, S, kc, ks, pc', lv', st', S', kc', ks', O, hB, he, ho, k => by
    simp only [segB, Bool.and_eq_true, decide_eq_true_eq] at hB
    obtain ⟨⟨⟨h1, h2⟩, h3⟩, h4⟩ := hB
    unfold evS at he
    split at he
    · next pc1 lv1 st1 S1 kc1 ks1 O1 hs =>
      split at he
      · next c2 O2 hr =>
        cases he
        have e1 : pc1 = pc + q.2.1 := sx_pc h2 hs
        refine Runs.step q h1 h2 (rule_sx h3 hs ho.1 ?_)
        subst e1
        exact R_seg B h4 hr ho.2 k
      · cases he
    · cases he
theorem R_icmp {cd : Jvm.ClassFile.Cond} {o : Int} {len a b kk : Nat} {v x y : Int32} (h : decode cc pc = .ok (.if_icmp cd o, len) ∧ lnkB own ini pc (.if_icmp cd o, len, a, b, kk, v) = true) (ht : cmpC cd x y → Runs (Ex d) cc own ini nL rt Z cp Post a lv r S kc ks) (hf : ¬ cmpC cd x y → Runs (Ex d) cc own ini nL rt Z cp Post (pc + 3) lv r S kc ks) : Runs (Ex d) cc own ini nL rt Z cp Post pc lv (.int y :: .int x :: r) S kc ks :=
  Runs.step (.if_icmp cd o, len, a, b, kk, v) h.1 h.2 ⟨x, y, r, rfl, ht, hf⟩
theorem R_if {cd : Jvm.ClassFile.Cond} {o : Int} {len a b kk : Nat} {v x : Int32} (h : decode cc pc = .ok (.ifCond cd o, len) ∧ lnkB own ini pc (.ifCond cd o, len, a, b, kk, v) = true) (ht : cmpC cd x 0 → Runs (Ex d) cc own ini nL rt Z cp Post a lv r S kc ks) (hf : ¬ cmpC cd x 0 → Runs (Ex d) cc own ini nL rt Z cp Post (pc + 3) lv r S kc ks) : Runs (Ex d) cc own ini nL rt Z cp Post pc lv (.int x :: r) S kc ks :=
  Runs.step (.ifCond cd o, len, a, b, kk, v) h.1 h.2 ⟨x, r, rfl, ht, hf⟩
theorem R_goto {o : Int} {len a b kk : Nat} {v : Int32} (h : decode cc pc = .ok (.goto o, len) ∧ lnkB own ini pc (.goto o, len, a, b, kk, v) = true) (k : Runs (Ex d) cc own ini nL rt Z cp Post a lv st S kc ks) : Runs (Ex d) cc own ini nL rt Z cp Post pc lv st S kc ks :=
  Runs.step (.goto o, len, a, b, kk, v) h.1 h.2 k
theorem R_tsw {df lo hi : Int} {offs : Array Int} {len a b kk : Nat} {v x : Int32} (h : decode cc pc = .ok (.tableswitch df lo hi offs, len) ∧ lnkB own ini pc (.tableswitch df lo hi offs, len, a, b, kk, v) = true) (t : Nat) (ht : swT (.tableswitch df lo hi offs) pc x.toInt = some (t : Int)) (k : Runs (Ex d) cc own ini nL rt Z cp Post t lv r S kc ks) : Runs (Ex d) cc own ini nL rt Z cp Post pc lv (.int x :: r) S kc ks :=
  Runs.step (.tableswitch df lo hi offs, len, a, b, kk, v) h.1 h.2 ⟨x, r, t, rfl, ht, k⟩
theorem R_lsw {df : Int} {ps : Array (Int × Int)} {len a b kk : Nat} {v x : Int32} (h : decode cc pc = .ok (.lookupswitch df ps, len) ∧ lnkB own ini pc (.lookupswitch df ps, len, a, b, kk, v) = true) (t : Nat) (ht : swT (.lookupswitch df ps) pc x.toInt = some (t : Int)) (k : Runs (Ex d) cc own ini nL rt Z cp Post t lv r S kc ks) : Runs (Ex d) cc own ini nL rt Z cp Post pc lv (.int x :: r) S kc ks :=
  Runs.step (.lookupswitch df ps, len, a, b, kk, v) h.1 h.2 ⟨x, r, t, rfl, ht, k⟩
theorem R_iret {len a b kk : Nat} {v x : Int32} {ty : FieldType} (h : decode cc pc = .ok (.ireturn, len) ∧ lnkB own ini pc (.ireturn, len, a, b, kk, v) = true) (hrt : rt = some ty) (hn : narrow ty (.int x) = .int x) (k : Post (some (.int x)) S) : Runs (Ex d) cc own ini nL rt Z cp Post pc lv [.int x] S kc ks :=
  Runs.step (.ireturn, len, a, b, kk, v) h.1 h.2 ⟨x, ty, rfl, hrt, hn, k⟩
theorem R_lret {len a b kk : Nat} {v : Int32} {x : Int64} (h : decode cc pc = .ok (.lreturn, len) ∧ lnkB own ini pc (.lreturn, len, a, b, kk, v) = true) (hrt : rt = some .long) (k : Post (some (.long x)) S) : Runs (Ex d) cc own ini nL rt Z cp Post pc lv [.long x] S kc ks :=
  Runs.step (.lreturn, len, a, b, kk, v) h.1 h.2 ⟨x, rfl, hrt, k⟩
theorem R_ret {len a b kk : Nat} {v : Int32} (h : decode cc pc = .ok (.return_, len) ∧ lnkB own ini pc (.return_, len, a, b, kk, v) = true) (hrt : rt = none) (k : Post none S) : Runs (Ex d) cc own ini nL rt Z cp Post pc lv [] S kc ks :=
  Runs.step (.return_, len, a, b, kk, v) h.1 h.2 ⟨rfl, hrt, k⟩
theorem R_virt {i len a b kk : Nat} {v : Int32} (h : decode cc pc = .ok (.invokevirtual i, len) ∧ lnkB own ini pc (.invokevirtual i, len, a, b, kk, v) = true) (k : Nat) (As : List Value) (mc ms : Nat) (hst : st = As.reverse ++ .ref k :: r) (hna : As.length + 1 = (mt a).2.2.2.2.2) (hok : okO S k (mt a).2.2.2.2.1) (hc : cats r ≤ 8) (hkc : kc + mc ≤ cp.1) (hks : ks + ms ≤ cp.2) (hE : Ex d a (.ref k :: As) S mc ms (fun x S1 => Runs (Ex d) cc own ini nL rt Z cp Post (pc + 3) lv (x.toList ++ r) S1 (kc + mc) (ks + ms))) : Runs (Ex d) cc own ini nL rt Z cp Post pc lv st S kc ks :=
  Runs.step (.invokevirtual i, len, a, b, kk, v) h.1 h.2 ⟨k, As, r, mc, ms, hst, hna, hok, hc, hkc, hks, hE⟩
theorem R_stat {i len a b kk : Nat} {v : Int32} (h : decode cc pc = .ok (.invokestatic i, len) ∧ lnkB own ini pc (.invokestatic i, len, a, b, kk, v) = true) (hb : b ≤ 1) (As : List Value) (mc ms : Nat) (hst : st = As.reverse ++ r) (hna : As.length = (mt a).2.2.2.2.2) (hc : cats r ≤ 8) (hkc : kc + mc ≤ cp.1) (hks : ks + ms ≤ cp.2) (hE : Ex d a As S mc ms (fun x S1 => Runs (Ex d) cc own ini nL rt Z cp Post (pc + 3) lv (x.toList ++ r) S1 (kc + mc) (ks + ms))) : Runs (Ex d) cc own ini nL rt Z cp Post pc lv st S kc ks :=
  Runs.step (.invokestatic i, len, a, b, kk, v) h.1 h.2 (Or.inr ⟨hb, As, r, mc, ms, hst, hna, hc, hkc, hks, hE⟩)
theorem R_spec {i len a b kk : Nat} {v : Int32} (h : decode cc pc = .ok (.invokespecial i, len) ∧ lnkB own ini pc (.invokespecial i, len, a, b, kk, v) = true) (hb : b ≤ 1) (k : Nat) (As : List Value) (mc ms : Nat) (hst : st = As.reverse ++ .ref k :: r) (hna : As.length + 1 = (mt a).2.2.2.2.2) (hc : cats r ≤ 8) (hkc : kc + mc ≤ cp.1) (hks : ks + ms ≤ cp.2) (hE : Ex d a (.ref k :: As) S mc ms (fun x S1 => Runs (Ex d) cc own ini nL rt Z cp Post (pc + 3) lv (x.toList ++ r) S1 (kc + mc) (ks + ms))) : Runs (Ex d) cc own ini nL rt Z cp Post pc lv st S kc ks :=
  Runs.step (.invokespecial i, len, a, b, kk, v) h.1 h.2 (Or.inr ⟨hb, k, As, r, mc, ms, hst, hna, hc, hkc, hks, hE⟩)
theorem clampN {j : Nat} {i : Int32} (hi : i = nI j) (h : j < 2147483648) : i.toNatClampNeg = j := by rw [hi]; exact nI_clamp h
theorem R_iald {len b kk : Nat} {v i : Int32} {k n j : Nat} (h : decode cc pc = .ok (.iaload, len) ∧ lnkB own ini pc (.iaload, len, 0, b, kk, v) = true) (hk : S.1[k]? = some (13, n)) (hi : i = nI j) (hj : j < n) (kx : Runs (Ex d) cc own ini nL rt Z cp Post (pc + 1) lv (.int (S.2.1 k j) :: r) S kc ks) (hn : n < 2147483648 := by decide) : Runs (Ex d) cc own ini nL rt Z cp Post pc lv (.int i :: .ref k :: r) S kc ks :=
  Runs.step (.iaload, len, 0, b, kk, v) h.1 h.2 (Or.inl ⟨_, _, rfl, ⟨n, hk, by rw [hi]; exact vp_in_nI hj hn⟩, by show Runs (Ex d) cc own ini nL rt Z cp Post (pc + 1) lv (.int (S.2.1 k i.toNatClampNeg) :: r) S kc ks; rw [clampN hi (Nat.lt_trans hj hn)]; exact kx⟩)
theorem R_bald {len a b kk : Nat} {v i : Int32} {k n j : Nat} (h : decode cc pc = .ok (.baload, len) ∧ lnkB own ini pc (.baload, len, a, b, kk, v) = true) (hk : S.1[k]? = some (a, n)) (hi : i = nI j) (hj : j < n) (kx : Runs (Ex d) cc own ini nL rt Z cp Post (pc + 1) lv (.int (S.2.1 k j) :: r) S kc ks) (hn : n < 2147483648 := by decide) : Runs (Ex d) cc own ini nL rt Z cp Post pc lv (.int i :: .ref k :: r) S kc ks :=
  Runs.step (.baload, len, a, b, kk, v) h.1 h.2 (Or.inl ⟨_, _, rfl, ⟨n, hk, by rw [hi]; exact vp_in_nI hj hn⟩, by show Runs (Ex d) cc own ini nL rt Z cp Post (pc + 1) lv (.int (S.2.1 k i.toNatClampNeg) :: r) S kc ks; rw [clampN hi (Nat.lt_trans hj hn)]; exact kx⟩)
theorem R_lald {len a b kk : Nat} {v i : Int32} {k n j : Nat} (h : decode cc pc = .ok (.laload, len) ∧ lnkB own ini pc (.laload, len, a, b, kk, v) = true) (hk : S.1[k]? = some (14, n)) (hi : i = nI j) (hj : j < n) (kx : Runs (Ex d) cc own ini nL rt Z cp Post (pc + 1) lv (.long (S.2.2.1 k j) :: r) S kc ks) (hn : n < 2147483648 := by decide) : Runs (Ex d) cc own ini nL rt Z cp Post pc lv (.int i :: .ref k :: r) S kc ks :=
  Runs.step (.laload, len, a, b, kk, v) h.1 h.2 (Or.inl ⟨_, _, rfl, ⟨n, hk, by rw [hi]; exact vp_in_nI hj hn⟩, by show Runs (Ex d) cc own ini nL rt Z cp Post (pc + 1) lv (.long (S.2.2.1 k i.toNatClampNeg) :: r) S kc ks; rw [clampN hi (Nat.lt_trans hj hn)]; exact kx⟩)
theorem R_aald {len a b kk : Nat} {v i : Int32} {k n j k' : Nat} (h : decode cc pc = .ok (.aaload, len) ∧ lnkB own ini pc (.aaload, len, a, b, kk, v) = true) (hk : S.1[k]? = some (16, n)) (hi : i = nI j) (hj : j < n) (hr : S.2.2.2 k j = some k') (kx : Runs (Ex d) cc own ini nL rt Z cp Post (pc + 1) lv (.ref k' :: r) S kc ks) (hn : n < 2147483648 := by decide) : Runs (Ex d) cc own ini nL rt Z cp Post pc lv (.int i :: .ref k :: r) S kc ks :=
  Runs.step (.aaload, len, a, b, kk, v) h.1 h.2 (Or.inl ⟨_, _, rfl, ⟨n, hk, by rw [hi]; exact vp_in_nI hj hn⟩, by show Runs (Ex d) cc own ini nL rt Z cp Post (pc + 1) lv (va_rf (S.2.2.2 k i.toNatClampNeg) :: r) S kc ks; rw [clampN hi (Nat.lt_trans hj hn), hr]; exact kx⟩)
theorem R_iast {len a b kk : Nat} {v i x : Int32} {k n j : Nat} (h : decode cc pc = .ok (.iastore, len) ∧ lnkB own ini pc (.iastore, len, a, b, kk, v) = true) (hk : S.1[k]? = some (13, n)) (hi : i = nI j) (hj : j < n) (kx : Runs (Ex d) cc own ini nL rt Z cp Post (pc + 1) lv r (setI S k j x) kc ks) (hn : n < 2147483648 := by decide) : Runs (Ex d) cc own ini nL rt Z cp Post pc lv (.int x :: .int i :: .ref k :: r) S kc ks :=
  Runs.step (.iastore, len, a, b, kk, v) h.1 h.2 (Or.inl ⟨_, _, rfl, ⟨n, hk, by rw [hi]; exact vp_in_nI hj hn⟩, by show Runs (Ex d) cc own ini nL rt Z cp Post (pc + 1) lv r (setI S k i.toNatClampNeg x) kc ks; rw [clampN hi (Nat.lt_trans hj hn)]; exact kx⟩)
theorem R_bast {len b kk : Nat} {v i x : Int32} {k n j : Nat} (h : decode cc pc = .ok (.bastore, len) ∧ lnkB own ini pc (.bastore, len, 12, b, kk, v) = true) (hk : S.1[k]? = some (12, n)) (hi : i = nI j) (hj : j < n) (kx : Runs (Ex d) cc own ini nL rt Z cp Post (pc + 1) lv r (setI S k j (vp_nar .byte x)) kc ks) (hn : n < 2147483648 := by decide) : Runs (Ex d) cc own ini nL rt Z cp Post pc lv (.int x :: .int i :: .ref k :: r) S kc ks :=
  Runs.step (.bastore, len, 12, b, kk, v) h.1 h.2 (Or.inl ⟨_, _, rfl, ⟨n, hk, by rw [hi]; exact vp_in_nI hj hn⟩, by show Runs (Ex d) cc own ini nL rt Z cp Post (pc + 1) lv r (setI S k i.toNatClampNeg (vp_nar .byte x)) kc ks; rw [clampN hi (Nat.lt_trans hj hn)]; exact kx⟩)
theorem R_zast {len b kk : Nat} {v i x : Int32} {k n j : Nat} (h : decode cc pc = .ok (.bastore, len) ∧ lnkB own ini pc (.bastore, len, 15, b, kk, v) = true) (hk : S.1[k]? = some (15, n)) (hi : i = nI j) (hj : j < n) (hx : vp_nar .boolean x = x) (kx : Runs (Ex d) cc own ini nL rt Z cp Post (pc + 1) lv r (setI S k j x) kc ks) (hn : n < 2147483648 := by decide) : Runs (Ex d) cc own ini nL rt Z cp Post pc lv (.int x :: .int i :: .ref k :: r) S kc ks :=
  Runs.step (.bastore, len, 15, b, kk, v) h.1 h.2 (Or.inl ⟨_, _, rfl, ⟨n, hk, by rw [hi]; exact vp_in_nI hj hn⟩, by show Runs (Ex d) cc own ini nL rt Z cp Post (pc + 1) lv r (setI S k i.toNatClampNeg (vp_nar .boolean x)) kc ks; rw [clampN hi (Nat.lt_trans hj hn), hx]; exact kx⟩)
theorem R_last {len a b kk : Nat} {v i : Int32} {x : Int64} {k n j : Nat} (h : decode cc pc = .ok (.lastore, len) ∧ lnkB own ini pc (.lastore, len, a, b, kk, v) = true) (hk : S.1[k]? = some (14, n)) (hi : i = nI j) (hj : j < n) (kx : Runs (Ex d) cc own ini nL rt Z cp Post (pc + 1) lv r (setL S k j x) kc ks) (hn : n < 2147483648 := by decide) : Runs (Ex d) cc own ini nL rt Z cp Post pc lv (.long x :: .int i :: .ref k :: r) S kc ks :=
  Runs.step (.lastore, len, a, b, kk, v) h.1 h.2 (Or.inl ⟨_, _, rfl, ⟨n, hk, by rw [hi]; exact vp_in_nI hj hn⟩, by show Runs (Ex d) cc own ini nL rt Z cp Post (pc + 1) lv r (setL S k i.toNatClampNeg x) kc ks; rw [clampN hi (Nat.lt_trans hj hn)]; exact kx⟩)
theorem R_sld {len b kk : Nat} {v i : Int32} {n j z : Nat} {xs : Nat → Int32} (h : decode cc pc = .ok (.iaload, len) ∧ lnkB own ini pc (.iaload, len, 1, b, kk, v) = true) (hi : i = nI j) (hj : j < n) (hn : n < 2147483648) (kx : Runs (Ex d) cc own ini nL rt (some (n, xs)) cp Post (pc + 1) lv (.int (xs j) :: r) S kc ks) : Runs (Ex d) cc own ini nL rt (some (n, xs)) cp Post pc lv (.int i :: .retAddr z :: r) S kc ks :=
  Runs.step (.iaload, len, 1, b, kk, v) h.1 h.2 (Or.inl ⟨_, _, rfl, by show vp_in i n; rw [hi]; exact vp_in_nI hj hn, by show Runs (Ex d) cc own ini nL rt (some (n, xs)) cp Post (pc + 1) lv (.int (xs i.toNatClampNeg) :: r) S kc ks; rw [clampN hi (Nat.lt_trans hj hn)]; exact kx⟩)
end RUL
end
section
/-! ===== the code: segments, control instructions, entries of methods 0 to 56 ===== -/
def sg_0_0 : List RI := [(.aload_n 0, 1, 0, 0, 0, 0), (.invokespecial 3, 3, 0, 4, 0, 0), (.aload_n 0, 1, 0, 0, 0, 0), (.sipush 192, 3, 0, 0, 0, 192), (.newarray .int, 2, 13, 0, 0, 0), (.putfield 9, 3, 0, 0, 2, 0), (.aload_n 0, 1, 0, 0, 0, 0), (.sipush 192, 3, 0, 0, 0, 192), (.newarray .int, 2, 13, 0, 0, 0), (.putfield 15, 3, 0, 1, 2, 0), (.aload_n 0, 1, 0, 0, 0, 0), (.sipush 192, 3, 0, 0, 0, 192), (.newarray .int, 2, 13, 0, 0, 0), (.putfield 18, 3, 0, 2, 2, 0), (.aload_n 0, 1, 0, 0, 0, 0), (.sipush 192, 3, 0, 0, 0, 192), (.newarray .int, 2, 13, 0, 0, 0), (.putfield 21, 3, 0, 3, 2, 0), (.aload_n 0, 1, 0, 0, 0, 0), (.sipush 192, 3, 0, 0, 0, 192), (.newarray .int, 2, 13, 0, 0, 0), (.putfield 24, 3, 0, 4, 2, 0), (.aload_n 0, 1, 0, 0, 0, 0), (.sipush 192, 3, 0, 0, 0, 192), (.newarray .int, 2, 13, 0, 0, 0), (.putfield 27, 3, 0, 7, 2, 0), (.aload_n 0, 1, 0, 0, 0, 0), (.sipush 192, 3, 0, 0, 0, 192), (.newarray .int, 2, 13, 0, 0, 0), (.putfield 30, 3, 0, 8, 2, 0)]
theorem sk_0_0 : segB 0 true prog_2_method_1_code 0 sg_0_0 = true := by decide +kernel
theorem ck_0_67 : decode prog_2_method_1_code 67 = .ok (.return_, 1) ∧ lnkB 0 true 67 (.return_, 1, 0, 0, 0, 0) = true := by decide +kernel
abbrev RU_0 (d : Nat) (cp : Nat × Nat) (Post : Option Value → Sto → Prop) : PP := Runs (Ex d) prog_2_method_1_code 0 true 1 none none cp Post
theorem en_0 {d : Nat} {As : List Value} {S : Sto} {mc ms : Nat} {Post : Option Value → Sto → Prop} (hc : cats As ≤ 1) (h : RU_0 d (mc, ms) Post 0 (lv_args 0 As) [] S 0 0) : Ex (d + 1) 0 As S mc ms Post := ⟨by decide, hc, h⟩
def sg_1_0 : List RI := [(.aload_n 0, 1, 0, 0, 0, 0), (.iconst 0, 1, 0, 0, 0, 0), (.putfield 33, 3, 0, 5, 0, 0), (.aload_n 0, 1, 0, 0, 0, 0), (.iconst 0, 1, 0, 0, 0, 0), (.putfield 37, 3, 0, 6, 0, 0), (.aload_n 0, 1, 0, 0, 0, 0), (.iconst 0, 1, 0, 0, 0, 0), (.putfield 40, 3, 0, 9, 0, 0)]
theorem sk_1_0 : segB 0 false prog_2_method_2_code 0 sg_1_0 = true := by decide +kernel
theorem ck_1_15 : decode prog_2_method_2_code 15 = .ok (.return_, 1) ∧ lnkB 0 false 15 (.return_, 1, 0, 0, 0, 0) = true := by decide +kernel
abbrev RU_1 (d : Nat) (cp : Nat × Nat) (Post : Option Value → Sto → Prop) : PP := Runs (Ex d) prog_2_method_2_code 0 false 1 none none cp Post
theorem en_1 {d : Nat} {As : List Value} {S : Sto} {mc ms : Nat} {Post : Option Value → Sto → Prop} (hc : cats As ≤ 1) (h : RU_1 d (mc, ms) Post 0 (lv_args 0 As) [] S 0 0) : Ex (d + 1) 1 As S mc ms Post := ⟨by decide, hc, h⟩
def sg_2_0 : List RI := [(.aload_n 0, 1, 0, 0, 0, 0), (.getfield 33, 3, 0, 5, 0, 0), (.sipush 192, 3, 0, 0, 0, 192)]
theorem sk_2_0 : segB 0 false prog_2_method_3_code 0 sg_2_0 = true := by decide +kernel
def sg_2_11 : List RI := [(.aload_n 0, 1, 0, 0, 0, 0), (.getfield 9, 3, 0, 0, 2, 0), (.aload_n 0, 1, 0, 0, 0, 0), (.getfield 33, 3, 0, 5, 0, 0), (.iload_n 1, 1, 0, 0, 0, 0)]
theorem sk_2_11 : segB 0 false prog_2_method_3_code 11 sg_2_11 = true := by decide +kernel
def sg_2_21 : List RI := [(.aload_n 0, 1, 0, 0, 0, 0), (.getfield 15, 3, 0, 1, 2, 0), (.aload_n 0, 1, 0, 0, 0, 0), (.getfield 33, 3, 0, 5, 0, 0), (.iload_n 2, 1, 0, 0, 0, 0)]
theorem sk_2_21 : segB 0 false prog_2_method_3_code 21 sg_2_21 = true := by decide +kernel
def sg_2_31 : List RI := [(.aload_n 0, 1, 0, 0, 0, 0), (.getfield 18, 3, 0, 2, 2, 0), (.aload_n 0, 1, 0, 0, 0, 0), (.getfield 33, 3, 0, 5, 0, 0), (.iload_n 3, 1, 0, 0, 0, 0)]
theorem sk_2_31 : segB 0 false prog_2_method_3_code 31 sg_2_31 = true := by decide +kernel
def sg_2_41 : List RI := [(.aload_n 0, 1, 0, 0, 0, 0), (.getfield 21, 3, 0, 3, 2, 0), (.aload_n 0, 1, 0, 0, 0, 0), (.getfield 33, 3, 0, 5, 0, 0), (.iconst 0, 1, 0, 0, 0, 0)]
theorem sk_2_41 : segB 0 false prog_2_method_3_code 41 sg_2_41 = true := by decide +kernel
def sg_2_51 : List RI := [(.aload_n 0, 1, 0, 0, 0, 0), (.getfield 24, 3, 0, 4, 2, 0), (.aload_n 0, 1, 0, 0, 0, 0), (.getfield 33, 3, 0, 5, 0, 0), (.iconst 3, 1, 0, 0, 0, 3)]
theorem sk_2_51 : segB 0 false prog_2_method_3_code 51 sg_2_51 = true := by decide +kernel
def sg_2_61 : List RI := [(.aload_n 0, 1, 0, 0, 0, 0), (.getfield 27, 3, 0, 7, 2, 0), (.aload_n 0, 1, 0, 0, 0, 0), (.getfield 33, 3, 0, 5, 0, 0), (.aload_n 0, 1, 0, 0, 0, 0), (.getfield 40, 3, 0, 9, 0, 0)]
theorem sk_2_61 : segB 0 false prog_2_method_3_code 61 sg_2_61 = true := by decide +kernel
def sg_2_74 : List RI := [(.aload_n 0, 1, 0, 0, 0, 0), (.dup, 1, 0, 0, 0, 0), (.getfield 33, 3, 0, 5, 0, 0), (.iconst 1, 1, 0, 0, 0, 1), (.iadd, 1, 0, 0, 0, 0), (.putfield 33, 3, 0, 5, 0, 0)]
theorem sk_2_74 : segB 0 false prog_2_method_3_code 74 sg_2_74 = true := by decide +kernel
theorem ck_2_7 : decode prog_2_method_3_code 7 = .ok (.if_icmp .lt 4, 3) ∧ lnkB 0 false 7 (.if_icmp .lt 4, 3, 11, 0, 0, 0) = true := by decide +kernel
theorem ck_2_10 : decode prog_2_method_3_code 10 = .ok (.return_, 1) ∧ lnkB 0 false 10 (.return_, 1, 0, 0, 0, 0) = true := by decide +kernel
theorem ca_2_20 : decode prog_2_method_3_code 20 = .ok (.iastore, 1) ∧ lnkB 0 false 20 (.iastore, 1, 0, 0, 0, 0) = true := by decide +kernel
theorem ca_2_30 : decode prog_2_method_3_code 30 = .ok (.iastore, 1) ∧ lnkB 0 false 30 (.iastore, 1, 0, 0, 0, 0) = true := by decide +kernel
theorem ca_2_40 : decode prog_2_method_3_code 40 = .ok (.iastore, 1) ∧ lnkB 0 false 40 (.iastore, 1, 0, 0, 0, 0) = true := by decide +kernel
theorem ca_2_50 : decode prog_2_method_3_code 50 = .ok (.iastore, 1) ∧ lnkB 0 false 50 (.iastore, 1, 0, 0, 0, 0) = true := by decide +kernel
theorem ca_2_60 : decode prog_2_method_3_code 60 = .ok (.iastore, 1) ∧ lnkB 0 false 60 (.iastore, 1, 0, 0, 0, 0) = true := by decide +kernel
theorem ca_2_73 : decode prog_2_method_3_code 73 = .ok (.iastore, 1) ∧ lnkB 0 false 73 (.iastore, 1, 0, 0, 0, 0) = true := by decide +kernel
theorem ck_2_84 : decode prog_2_method_3_code 84 = .ok (.return_, 1) ∧ lnkB 0 false 84 (.return_, 1, 0, 0, 0, 0) = true := by decide +kernel
abbrev RU_2 (d : Nat) (cp : Nat × Nat) (Post : Option Value → Sto → Prop) : PP := Runs (Ex d) prog_2_method_3_code 0 false 4 none none cp Post
theorem en_2 {d : Nat} {As : List Value} {S : Sto} {mc ms : Nat} {Post : Option Value → Sto → Prop} (hc : cats As ≤ 4) (h : RU_2 d (mc, ms) Post 0 (lv_args 0 As) [] S 0 0) : Ex (d + 1) 2 As S mc ms Post := ⟨by decide, hc, h⟩
def sg_3_0 : List RI := [(.aload_n 0, 1, 0, 0, 0, 0), (.getfield 33, 3, 0, 5, 0, 0), (.iconst 1, 1, 0, 0, 0, 1)]
theorem sk_3_0 : segB 0 false prog_2_method_4_code 0 sg_3_0 = true := by decide +kernel
def sg_3_8 : List RI := [(.aload_n 0, 1, 0, 0, 0, 0), (.getfield 40, 3, 0, 9, 0, 0), (.sipush 192, 3, 0, 0, 0, 192)]
theorem sk_3_8 : segB 0 false prog_2_method_4_code 8 sg_3_8 = true := by decide +kernel
def sg_3_19 : List RI := [(.aload_n 0, 1, 0, 0, 0, 0), (.getfield 30, 3, 0, 8, 2, 0), (.aload_n 0, 1, 0, 0, 0, 0), (.getfield 40, 3, 0, 9, 0, 0), (.iload_n 1, 1, 0, 0, 0, 0)]
theorem sk_3_19 : segB 0 false prog_2_method_4_code 19 sg_3_19 = true := by decide +kernel
def sg_3_29 : List RI := [(.aload_n 0, 1, 0, 0, 0, 0), (.dup, 1, 0, 0, 0, 0), (.getfield 40, 3, 0, 9, 0, 0), (.iconst 1, 1, 0, 0, 0, 1), (.iadd, 1, 0, 0, 0, 0), (.putfield 40, 3, 0, 9, 0, 0), (.aload_n 0, 1, 0, 0, 0, 0), (.getfield 21, 3, 0, 3, 2, 0), (.aload_n 0, 1, 0, 0, 0, 0), (.getfield 33, 3, 0, 5, 0, 0), (.iconst 1, 1, 0, 0, 0, 1), (.isub, 1, 0, 0, 0, 0), (.dup2, 1, 0, 0, 0, 0)]
theorem sk_3_29 : segB 0 false prog_2_method_4_code 29 sg_3_29 = true := by decide +kernel
def sg_3_51 : List RI := [(.iconst 1, 1, 0, 0, 0, 1), (.iadd, 1, 0, 0, 0, 0)]
theorem sk_3_51 : segB 0 false prog_2_method_4_code 51 sg_3_51 = true := by decide +kernel
theorem ck_3_5 : decode prog_2_method_4_code 5 = .ok (.if_icmp .lt 13, 3) ∧ lnkB 0 false 5 (.if_icmp .lt 13, 3, 18, 0, 0, 0) = true := by decide +kernel
theorem ck_3_15 : decode prog_2_method_4_code 15 = .ok (.if_icmp .lt 4, 3) ∧ lnkB 0 false 15 (.if_icmp .lt 4, 3, 19, 0, 0, 0) = true := by decide +kernel
theorem ck_3_18 : decode prog_2_method_4_code 18 = .ok (.return_, 1) ∧ lnkB 0 false 18 (.return_, 1, 0, 0, 0, 0) = true := by decide +kernel
theorem ca_3_28 : decode prog_2_method_4_code 28 = .ok (.iastore, 1) ∧ lnkB 0 false 28 (.iastore, 1, 0, 0, 0, 0) = true := by decide +kernel
theorem ca_3_50 : decode prog_2_method_4_code 50 = .ok (.iaload, 1) ∧ lnkB 0 false 50 (.iaload, 1, 0, 0, 0, 0) = true := by decide +kernel
theorem ca_3_53 : decode prog_2_method_4_code 53 = .ok (.iastore, 1) ∧ lnkB 0 false 53 (.iastore, 1, 0, 0, 0, 0) = true := by decide +kernel
theorem ck_3_54 : decode prog_2_method_4_code 54 = .ok (.return_, 1) ∧ lnkB 0 false 54 (.return_, 1, 0, 0, 0, 0) = true := by decide +kernel
abbrev RU_3 (d : Nat) (cp : Nat × Nat) (Post : Option Value → Sto → Prop) : PP := Runs (Ex d) prog_2_method_4_code 0 false 2 none none cp Post
theorem en_3 {d : Nat} {As : List Value} {S : Sto} {mc ms : Nat} {Post : Option Value → Sto → Prop} (hc : cats As ≤ 2) (h : RU_3 d (mc, ms) Post 0 (lv_args 0 As) [] S 0 0) : Ex (d + 1) 3 As S mc ms Post := ⟨by decide, hc, h⟩
def sg_4_0 : List RI := [(.aload_n 0, 1, 0, 0, 0, 0), (.getfield 24, 3, 0, 4, 2, 0), (.iload_n 1, 1, 0, 0, 0, 0), (.iload_n 2, 1, 0, 0, 0, 0)]
theorem sk_4_0 : segB 0 false prog_2_method_6_code 0 sg_4_0 = true := by decide +kernel
def sg_4_7 : List RI := [(.aload_n 0, 1, 0, 0, 0, 0), (.getfield 37, 3, 0, 6, 0, 0), (.aload_n 0, 1, 0, 0, 0, 0), (.getfield 33, 3, 0, 5, 0, 0)]
theorem sk_4_7 : segB 0 false prog_2_method_6_code 7 sg_4_7 = true := by decide +kernel
def sg_4_18 : List RI := [(.aload_n 0, 1, 0, 0, 0, 0), (.getfield 24, 3, 0, 4, 2, 0), (.aload_n 0, 1, 0, 0, 0, 0), (.getfield 37, 3, 0, 6, 0, 0)]
theorem sk_4_18 : segB 0 false prog_2_method_6_code 18 sg_4_18 = true := by decide +kernel
def sg_4_27 : List RI := [(.iconst 3, 1, 0, 0, 0, 3)]
theorem sk_4_27 : segB 0 false prog_2_method_6_code 27 sg_4_27 = true := by decide +kernel
def sg_4_31 : List RI := [(.aload_n 0, 1, 0, 0, 0, 0), (.dup, 1, 0, 0, 0, 0), (.getfield 37, 3, 0, 6, 0, 0), (.iconst 1, 1, 0, 0, 0, 1), (.iadd, 1, 0, 0, 0, 0), (.putfield 37, 3, 0, 6, 0, 0)]
theorem sk_4_31 : segB 0 false prog_2_method_6_code 31 sg_4_31 = true := by decide +kernel
theorem ca_4_6 : decode prog_2_method_6_code 6 = .ok (.iastore, 1) ∧ lnkB 0 false 6 (.iastore, 1, 0, 0, 0, 0) = true := by decide +kernel
theorem ck_4_15 : decode prog_2_method_6_code 15 = .ok (.if_icmp .ge 29, 3) ∧ lnkB 0 false 15 (.if_icmp .ge 29, 3, 44, 0, 0, 0) = true := by decide +kernel
theorem ca_4_26 : decode prog_2_method_6_code 26 = .ok (.iaload, 1) ∧ lnkB 0 false 26 (.iaload, 1, 0, 0, 0, 0) = true := by decide +kernel
theorem ck_4_28 : decode prog_2_method_6_code 28 = .ok (.if_icmp .eq 16, 3) ∧ lnkB 0 false 28 (.if_icmp .eq 16, 3, 44, 0, 0, 0) = true := by decide +kernel
theorem ck_4_41 : decode prog_2_method_6_code 41 = .ok (.goto (-34), 3) ∧ lnkB 0 false 41 (.goto (-34), 3, 7, 0, 0, 0) = true := by decide +kernel
theorem ck_4_44 : decode prog_2_method_6_code 44 = .ok (.return_, 1) ∧ lnkB 0 false 44 (.return_, 1, 0, 0, 0, 0) = true := by decide +kernel
abbrev RU_4 (d : Nat) (cp : Nat × Nat) (Post : Option Value → Sto → Prop) : PP := Runs (Ex d) prog_2_method_6_code 0 false 3 none none cp Post
theorem en_4 {d : Nat} {As : List Value} {S : Sto} {mc ms : Nat} {Post : Option Value → Sto → Prop} (hc : cats As ≤ 3) (h : RU_4 d (mc, ms) Post 0 (lv_args 0 As) [] S 0 0) : Ex (d + 1) 4 As S mc ms Post := ⟨by decide, hc, h⟩
def sg_5_0 : List RI := [(.iload_n 2, 1, 0, 0, 0, 0), (.iconst 0, 1, 0, 0, 0, 0), (.aload_n 0, 1, 0, 0, 0, 0), (.getfield 21, 3, 0, 3, 2, 0), (.iload_n 1, 1, 0, 0, 0, 0)]
theorem sk_5_0 : segB 0 false prog_2_method_5_code 0 sg_5_0 = true := by decide +kernel
def sg_5_8 : List RI := [(.iconst 1, 1, 0, 0, 0, 1), (.isub, 1, 0, 0, 0, 0)]
theorem sk_5_8 : segB 0 false prog_2_method_5_code 8 sg_5_8 = true := by decide +kernel
def sg_5_16 : List RI := [(.aload_n 0, 1, 0, 0, 0, 0), (.getfield 30, 3, 0, 8, 2, 0), (.aload_n 0, 1, 0, 0, 0, 0), (.getfield 27, 3, 0, 7, 2, 0), (.iload_n 1, 1, 0, 0, 0, 0)]
theorem sk_5_16 : segB 0 false prog_2_method_5_code 16 sg_5_16 = true := by decide +kernel
def sg_5_26 : List RI := [(.iload_n 2, 1, 0, 0, 0, 0), (.iadd, 1, 0, 0, 0, 0)]
theorem sk_5_26 : segB 0 false prog_2_method_5_code 26 sg_5_26 = true := by decide +kernel
def sg_5_32 : List RI := [(.iconst (-1), 1, 0, 0, 0, -1)]
theorem sk_5_32 : segB 0 false prog_2_method_5_code 32 sg_5_32 = true := by decide +kernel
theorem ca_5_7 : decode prog_2_method_5_code 7 = .ok (.iaload, 1) ∧ lnkB 0 false 7 (.iaload, 1, 0, 0, 0, 0) = true := by decide +kernel
theorem ck_5_10 : decode prog_2_method_5_code 10 = .ok (.invokestatic 43, 3) ∧ lnkB 0 false 10 (.invokestatic 43, 3, 57, 1, 0, 0) = true := by decide +kernel
theorem ck_5_13 : decode prog_2_method_5_code 13 = .ok (.ifCond .eq 19, 3) ∧ lnkB 0 false 13 (.ifCond .eq 19, 3, 32, 0, 0, 0) = true := by decide +kernel
theorem ca_5_25 : decode prog_2_method_5_code 25 = .ok (.iaload, 1) ∧ lnkB 0 false 25 (.iaload, 1, 0, 0, 0, 0) = true := by decide +kernel
theorem ca_5_28 : decode prog_2_method_5_code 28 = .ok (.iaload, 1) ∧ lnkB 0 false 28 (.iaload, 1, 0, 0, 0, 0) = true := by decide +kernel
theorem ck_5_29 : decode prog_2_method_5_code 29 = .ok (.goto 4, 3) ∧ lnkB 0 false 29 (.goto 4, 3, 33, 0, 0, 0) = true := by decide +kernel
theorem ck_5_33 : decode prog_2_method_5_code 33 = .ok (.ireturn, 1) ∧ lnkB 0 false 33 (.ireturn, 1, 0, 0, 0, 0) = true := by decide +kernel
abbrev RU_5 (d : Nat) (cp : Nat × Nat) (Post : Option Value → Sto → Prop) : PP := Runs (Ex d) prog_2_method_5_code 0 false 3 (some .int) none cp Post
theorem en_5 {d : Nat} {As : List Value} {S : Sto} {mc ms : Nat} {Post : Option Value → Sto → Prop} (hc : cats As ≤ 3) (h : RU_5 d (mc, ms) Post 0 (lv_args 0 As) [] S 0 0) : Ex (d + 1) 5 As S mc ms Post := ⟨by decide, hc, h⟩
def sg_6_0 : List RI := [(.aload_n 0, 1, 0, 0, 0, 0), (.invokespecial 3, 3, 0, 4, 0, 0), (.aload_n 0, 1, 0, 0, 0, 0), (.iconst 4, 1, 0, 0, 0, 4), (.newarray .int, 2, 13, 0, 0, 0), (.putfield 9, 3, 1, 0, 2, 0), (.aload_n 0, 1, 0, 0, 0, 0), (.iconst 4, 1, 0, 0, 0, 4), (.newarray .int, 2, 13, 0, 0, 0), (.putfield 15, 3, 1, 1, 2, 0), (.aload_n 0, 1, 0, 0, 0, 0), (.iconst 4, 1, 0, 0, 0, 4), (.newarray .int, 2, 13, 0, 0, 0), (.putfield 18, 3, 1, 2, 2, 0), (.aload_n 0, 1, 0, 0, 0, 0), (.iconst 4, 1, 0, 0, 0, 4), (.newarray .int, 2, 13, 0, 0, 0), (.putfield 21, 3, 1, 3, 2, 0), (.aload_n 0, 1, 0, 0, 0, 0), (.getfield 9, 3, 1, 0, 2, 0), (.bipush 63, 2, 0, 0, 0, 63)]
theorem sk_6_0 : segB 1 true prog_3_method_1_code 0 sg_6_0 = true := by decide +kernel
def sg_6_41 : List RI := [(.aload_n 0, 1, 0, 0, 0, 0), (.getfield 15, 3, 1, 1, 2, 0), (.bipush 100, 2, 0, 0, 0, 100)]
theorem sk_6_41 : segB 1 true prog_3_method_1_code 41 sg_6_41 = true := by decide +kernel
def sg_6_50 : List RI := [(.aload_n 0, 1, 0, 0, 0, 0), (.getfield 18, 3, 1, 2, 2, 0), (.bipush 10, 2, 0, 0, 0, 10)]
theorem sk_6_50 : segB 1 true prog_3_method_1_code 50 sg_6_50 = true := by decide +kernel
def sg_6_59 : List RI := [(.aload_n 0, 1, 0, 0, 0, 0), (.getfield 21, 3, 1, 3, 2, 0), (.bipush 100, 2, 0, 0, 0, 100)]
theorem sk_6_59 : segB 1 true prog_3_method_1_code 59 sg_6_59 = true := by decide +kernel
theorem ck_6_38 : decode prog_3_method_1_code 38 = .ok (.invokestatic 24, 3) ∧ lnkB 1 true 38 (.invokestatic 24, 3, 130, 0, 0, 0) = true := by decide +kernel
theorem ck_6_47 : decode prog_3_method_1_code 47 = .ok (.invokestatic 24, 3) ∧ lnkB 1 true 47 (.invokestatic 24, 3, 130, 0, 0, 0) = true := by decide +kernel
theorem ck_6_56 : decode prog_3_method_1_code 56 = .ok (.invokestatic 24, 3) ∧ lnkB 1 true 56 (.invokestatic 24, 3, 130, 0, 0, 0) = true := by decide +kernel
theorem ck_6_65 : decode prog_3_method_1_code 65 = .ok (.invokestatic 24, 3) ∧ lnkB 1 true 65 (.invokestatic 24, 3, 130, 0, 0, 0) = true := by decide +kernel
theorem ck_6_68 : decode prog_3_method_1_code 68 = .ok (.return_, 1) ∧ lnkB 1 true 68 (.return_, 1, 0, 0, 0, 0) = true := by decide +kernel
abbrev RU_6 (d : Nat) (cp : Nat × Nat) (Post : Option Value → Sto → Prop) : PP := Runs (Ex d) prog_3_method_1_code 1 true 1 none none cp Post
theorem en_6 {d : Nat} {As : List Value} {S : Sto} {mc ms : Nat} {Post : Option Value → Sto → Prop} (hc : cats As ≤ 1) (h : RU_6 d (mc, ms) Post 0 (lv_args 0 As) [] S 0 0) : Ex (d + 1) 6 As S mc ms Post := ⟨by decide, hc, h⟩
def sg_7_0 : List RI := [(.aload_n 0, 1, 0, 0, 0, 0), (.dup, 1, 0, 0, 0, 0), (.getfield 29, 3, 1, 4, 0, 0), (.iload_n 1, 1, 0, 0, 0, 0), (.iadd, 1, 0, 0, 0, 0), (.putfield 29, 3, 1, 4, 0, 0), (.iconst 0, 1, 0, 0, 0, 0), (.istore_n 2, 1, 0, 0, 0, 0)]
theorem sk_7_0 : segB 1 false prog_3_method_2_code 0 sg_7_0 = true := by decide +kernel
def sg_7_12 : List RI := [(.iload_n 2, 1, 0, 0, 0, 0), (.iconst 4, 1, 0, 0, 0, 4)]
theorem sk_7_12 : segB 1 false prog_3_method_2_code 12 sg_7_12 = true := by decide +kernel
def sg_7_17 : List RI := [(.aload_n 0, 1, 0, 0, 0, 0), (.getfield 21, 3, 1, 3, 2, 0), (.iload_n 2, 1, 0, 0, 0, 0), (.aload_n 0, 1, 0, 0, 0, 0), (.getfield 15, 3, 1, 1, 2, 0), (.iload_n 2, 1, 0, 0, 0, 0)]
theorem sk_7_17 : segB 1 false prog_3_method_2_code 17 sg_7_17 = true := by decide +kernel
def sg_7_28 : List RI := [(.aload_n 0, 1, 0, 0, 0, 0), (.getfield 21, 3, 1, 3, 2, 0), (.iload_n 2, 1, 0, 0, 0, 0)]
theorem sk_7_28 : segB 1 false prog_3_method_2_code 28 sg_7_28 = true := by decide +kernel
def sg_7_34 : List RI := [(.iload_n 1, 1, 0, 0, 0, 0), (.aload_n 0, 1, 0, 0, 0, 0), (.getfield 18, 3, 1, 2, 2, 0), (.iload_n 2, 1, 0, 0, 0, 0)]
theorem sk_7_34 : segB 1 false prog_3_method_2_code 34 sg_7_34 = true := by decide +kernel
def sg_7_41 : List RI := [(.imul, 1, 0, 0, 0, 0), (.iadd, 1, 0, 0, 0, 0), (.invokestatic 33, 3, 0, 2, 0, 0)]
theorem sk_7_41 : segB 1 false prog_3_method_2_code 41 sg_7_41 = true := by decide +kernel
def sg_7_47 : List RI := [(.iinc 2 1, 3, 0, 0, 0, 1)]
theorem sk_7_47 : segB 1 false prog_3_method_2_code 47 sg_7_47 = true := by decide +kernel
theorem ck_7_14 : decode prog_3_method_2_code 14 = .ok (.if_icmp .ge 39, 3) ∧ lnkB 1 false 14 (.if_icmp .ge 39, 3, 53, 0, 0, 0) = true := by decide +kernel
theorem ca_7_27 : decode prog_3_method_2_code 27 = .ok (.iaload, 1) ∧ lnkB 1 false 27 (.iaload, 1, 0, 0, 0, 0) = true := by decide +kernel
theorem ca_7_33 : decode prog_3_method_2_code 33 = .ok (.iaload, 1) ∧ lnkB 1 false 33 (.iaload, 1, 0, 0, 0, 0) = true := by decide +kernel
theorem ca_7_40 : decode prog_3_method_2_code 40 = .ok (.iaload, 1) ∧ lnkB 1 false 40 (.iaload, 1, 0, 0, 0, 0) = true := by decide +kernel
theorem ca_7_46 : decode prog_3_method_2_code 46 = .ok (.iastore, 1) ∧ lnkB 1 false 46 (.iastore, 1, 0, 0, 0, 0) = true := by decide +kernel
theorem ck_7_50 : decode prog_3_method_2_code 50 = .ok (.goto (-38), 3) ∧ lnkB 1 false 50 (.goto (-38), 3, 12, 0, 0, 0) = true := by decide +kernel
theorem ck_7_53 : decode prog_3_method_2_code 53 = .ok (.return_, 1) ∧ lnkB 1 false 53 (.return_, 1, 0, 0, 0, 0) = true := by decide +kernel
abbrev RU_7 (d : Nat) (cp : Nat × Nat) (Post : Option Value → Sto → Prop) : PP := Runs (Ex d) prog_3_method_2_code 1 false 3 none none cp Post
theorem en_7 {d : Nat} {As : List Value} {S : Sto} {mc ms : Nat} {Post : Option Value → Sto → Prop} (hc : cats As ≤ 3) (h : RU_7 d (mc, ms) Post 0 (lv_args 0 As) [] S 0 0) : Ex (d + 1) 7 As S mc ms Post := ⟨by decide, hc, h⟩
def sg_8_0 : List RI := [(.aload_n 0, 1, 0, 0, 0, 0), (.invokespecial 3, 3, 0, 4, 0, 0), (.aload_n 0, 1, 0, 0, 0, 0), (.iconst 1, 1, 0, 0, 0, 1), (.putfield 9, 3, 2, 0, 0, 0), (.aload_n 0, 1, 0, 0, 0, 0), (.bipush 8, 2, 0, 0, 0, 8), (.putfield 15, 3, 2, 1, 0, 0), (.aload_n 0, 1, 0, 0, 0, 0), (.bipush 8, 2, 0, 0, 0, 8), (.putfield 18, 3, 2, 2, 0, 0), (.aload_n 0, 1, 0, 0, 0, 0), (.iconst 0, 1, 0, 0, 0, 0), (.putfield 21, 3, 2, 3, 0, 0), (.aload_n 0, 1, 0, 0, 0, 0), (.bipush 10, 2, 0, 0, 0, 10), (.putfield 24, 3, 2, 4, 0, 0), (.aload_n 0, 1, 0, 0, 0, 0), (.iconst 1, 1, 0, 0, 0, 1), (.putfield 27, 3, 2, 5, 0, 0), (.aload_n 0, 1, 0, 0, 0, 0), (.iconst 0, 1, 0, 0, 0, 0), (.putfield 31, 3, 2, 6, 0, 0), (.aload_n 0, 1, 0, 0, 0, 0), (.iconst 0, 1, 0, 0, 0, 0), (.putfield 34, 3, 2, 7, 0, 0), (.aload_n 0, 1, 0, 0, 0, 0), (.iconst (-1), 1, 0, 0, 0, -1), (.putfield 37, 3, 2, 8, 0, 0)]
theorem sk_8_0 : segB 2 true prog_4_method_1_code 0 sg_8_0 = true := by decide +kernel
theorem ck_8_52 : decode prog_4_method_1_code 52 = .ok (.return_, 1) ∧ lnkB 2 true 52 (.return_, 1, 0, 0, 0, 0) = true := by decide +kernel
abbrev RU_8 (d : Nat) (cp : Nat × Nat) (Post : Option Value → Sto → Prop) : PP := Runs (Ex d) prog_4_method_1_code 2 true 1 none none cp Post
theorem en_8 {d : Nat} {As : List Value} {S : Sto} {mc ms : Nat} {Post : Option Value → Sto → Prop} (hc : cats As ≤ 1) (h : RU_8 d (mc, ms) Post 0 (lv_args 0 As) [] S 0 0) : Ex (d + 1) 8 As S mc ms Post := ⟨by decide, hc, h⟩
def sg_9_0 : List RI := [(.aload_n 0, 1, 0, 0, 0, 0), (.iconst 1, 1, 0, 0, 0, 1), (.putfield 27, 3, 2, 5, 0, 0), (.aload_n 0, 1, 0, 0, 0, 0), (.iconst 0, 1, 0, 0, 0, 0), (.putfield 31, 3, 2, 6, 0, 0), (.aload_n 0, 1, 0, 0, 0, 0), (.iconst (-1), 1, 0, 0, 0, -1), (.putfield 37, 3, 2, 8, 0, 0)]
theorem sk_9_0 : segB 2 false prog_4_method_2_code 0 sg_9_0 = true := by decide +kernel
theorem ck_9_15 : decode prog_4_method_2_code 15 = .ok (.return_, 1) ∧ lnkB 2 false 15 (.return_, 1, 0, 0, 0, 0) = true := by decide +kernel
abbrev RU_9 (d : Nat) (cp : Nat × Nat) (Post : Option Value → Sto → Prop) : PP := Runs (Ex d) prog_4_method_2_code 2 false 1 none none cp Post
theorem en_9 {d : Nat} {As : List Value} {S : Sto} {mc ms : Nat} {Post : Option Value → Sto → Prop} (hc : cats As ≤ 1) (h : RU_9 d (mc, ms) Post 0 (lv_args 0 As) [] S 0 0) : Ex (d + 1) 9 As S mc ms Post := ⟨by decide, hc, h⟩
def sg_10_0 : List RI := [(.aload_n 0, 1, 0, 0, 0, 0), (.getfield 27, 3, 2, 5, 0, 0)]
theorem sk_10_0 : segB 2 false prog_4_method_4_code 0 sg_10_0 = true := by decide +kernel
def sg_10_7 : List RI := [(.iload_n 1, 1, 0, 0, 0, 0), (.aload_n 0, 1, 0, 0, 0, 0), (.getfield 34, 3, 2, 7, 0, 0)]
theorem sk_10_7 : segB 2 false prog_4_method_4_code 7 sg_10_7 = true := by decide +kernel
def sg_10_15 : List RI := [(.iconst 1, 1, 0, 0, 0, 1)]
theorem sk_10_15 : segB 2 false prog_4_method_4_code 15 sg_10_15 = true := by decide +kernel
def sg_10_19 : List RI := [(.iconst 0, 1, 0, 0, 0, 0)]
theorem sk_10_19 : segB 2 false prog_4_method_4_code 19 sg_10_19 = true := by decide +kernel
theorem ck_10_4 : decode prog_4_method_4_code 4 = .ok (.ifCond .ne 15, 3) ∧ lnkB 2 false 4 (.ifCond .ne 15, 3, 19, 0, 0, 0) = true := by decide +kernel
theorem ck_10_12 : decode prog_4_method_4_code 12 = .ok (.if_icmp .ge 7, 3) ∧ lnkB 2 false 12 (.if_icmp .ge 7, 3, 19, 0, 0, 0) = true := by decide +kernel
theorem ck_10_16 : decode prog_4_method_4_code 16 = .ok (.goto 4, 3) ∧ lnkB 2 false 16 (.goto 4, 3, 20, 0, 0, 0) = true := by decide +kernel
theorem ck_10_20 : decode prog_4_method_4_code 20 = .ok (.ireturn, 1) ∧ lnkB 2 false 20 (.ireturn, 1, 0, 0, 0, 0) = true := by decide +kernel
abbrev RU_10 (d : Nat) (cp : Nat × Nat) (Post : Option Value → Sto → Prop) : PP := Runs (Ex d) prog_4_method_4_code 2 false 2 (some .boolean) none cp Post
theorem en_10 {d : Nat} {As : List Value} {S : Sto} {mc ms : Nat} {Post : Option Value → Sto → Prop} (hc : cats As ≤ 2) (h : RU_10 d (mc, ms) Post 0 (lv_args 0 As) [] S 0 0) : Ex (d + 1) 10 As S mc ms Post := ⟨by decide, hc, h⟩
def sg_11_0 : List RI := [(.aload_n 0, 1, 0, 0, 0, 0), (.getfield 21, 3, 2, 3, 0, 0)]
theorem sk_11_0 : segB 2 false prog_4_method_5_code 0 sg_11_0 = true := by decide +kernel
def sg_11_7 : List RI := [(.aload_n 0, 1, 0, 0, 0, 0), (.getfield 27, 3, 2, 5, 0, 0)]
theorem sk_11_7 : segB 2 false prog_4_method_5_code 7 sg_11_7 = true := by decide +kernel
def sg_11_14 : List RI := [(.iload_n 1, 1, 0, 0, 0, 0), (.aload_n 0, 1, 0, 0, 0, 0), (.getfield 37, 3, 2, 8, 0, 0)]
theorem sk_11_14 : segB 2 false prog_4_method_5_code 14 sg_11_14 = true := by decide +kernel
def sg_11_22 : List RI := [(.iconst 1, 1, 0, 0, 0, 1)]
theorem sk_11_22 : segB 2 false prog_4_method_5_code 22 sg_11_22 = true := by decide +kernel
def sg_11_26 : List RI := [(.iconst 0, 1, 0, 0, 0, 0)]
theorem sk_11_26 : segB 2 false prog_4_method_5_code 26 sg_11_26 = true := by decide +kernel
def sg_11_27 : List RI := [(.istore 4, 2, 0, 0, 0, 0), (.iload 4, 2, 0, 0, 0, 0)]
theorem sk_11_27 : segB 2 false prog_4_method_5_code 27 sg_11_27 = true := by decide +kernel
def sg_11_35 : List RI := [(.iload_n 2, 1, 0, 0, 0, 0)]
theorem sk_11_35 : segB 2 false prog_4_method_5_code 35 sg_11_35 = true := by decide +kernel
def sg_11_39 : List RI := [(.aload_n 0, 1, 0, 0, 0, 0)]
theorem sk_11_39 : segB 2 false prog_4_method_5_code 39 sg_11_39 = true := by decide +kernel
def sg_11_44 : List RI := [(.aload_n 0, 1, 0, 0, 0, 0), (.dup, 1, 0, 0, 0, 0), (.getfield 31, 3, 2, 6, 0, 0), (.iconst 1, 1, 0, 0, 0, 1), (.iadd, 1, 0, 0, 0, 0), (.putfield 31, 3, 2, 6, 0, 0), (.aload_n 0, 1, 0, 0, 0, 0), (.getfield 27, 3, 2, 5, 0, 0)]
theorem sk_11_44 : segB 2 false prog_4_method_5_code 44 sg_11_44 = true := by decide +kernel
def sg_11_61 : List RI := [(.aload_n 0, 1, 0, 0, 0, 0), (.getfield 31, 3, 2, 6, 0, 0), (.aload_n 0, 1, 0, 0, 0, 0), (.getfield 21, 3, 2, 3, 0, 0)]
theorem sk_11_61 : segB 2 false prog_4_method_5_code 61 sg_11_61 = true := by decide +kernel
def sg_11_72 : List RI := [(.aload_n 0, 1, 0, 0, 0, 0), (.iload_n 3, 1, 0, 0, 0, 0)]
theorem sk_11_72 : segB 2 false prog_4_method_5_code 72 sg_11_72 = true := by decide +kernel
theorem ck_11_4 : decode prog_4_method_5_code 4 = .ok (.ifCond .le 22, 3) ∧ lnkB 2 false 4 (.ifCond .le 22, 3, 26, 0, 0, 0) = true := by decide +kernel
theorem ck_11_11 : decode prog_4_method_5_code 11 = .ok (.ifCond .ne 11, 3) ∧ lnkB 2 false 11 (.ifCond .ne 11, 3, 22, 0, 0, 0) = true := by decide +kernel
theorem ck_11_19 : decode prog_4_method_5_code 19 = .ok (.if_icmp .ne 7, 3) ∧ lnkB 2 false 19 (.if_icmp .ne 7, 3, 26, 0, 0, 0) = true := by decide +kernel
theorem ck_11_23 : decode prog_4_method_5_code 23 = .ok (.goto 4, 3) ∧ lnkB 2 false 23 (.goto 4, 3, 27, 0, 0, 0) = true := by decide +kernel
theorem ck_11_31 : decode prog_4_method_5_code 31 = .ok (.ifCond .ne 4, 3) ∧ lnkB 2 false 31 (.ifCond .ne 4, 3, 35, 0, 0, 0) = true := by decide +kernel
theorem ck_11_34 : decode prog_4_method_5_code 34 = .ok (.return_, 1) ∧ lnkB 2 false 34 (.return_, 1, 0, 0, 0, 0) = true := by decide +kernel
theorem ck_11_36 : decode prog_4_method_5_code 36 = .ok (.ifCond .ne 8, 3) ∧ lnkB 2 false 36 (.ifCond .ne 8, 3, 44, 0, 0, 0) = true := by decide +kernel
theorem ck_11_40 : decode prog_4_method_5_code 40 = .ok (.invokevirtual 40, 3) ∧ lnkB 2 false 40 (.invokevirtual 40, 3, 9, 0, 0, 0) = true := by decide +kernel
theorem ck_11_43 : decode prog_4_method_5_code 43 = .ok (.return_, 1) ∧ lnkB 2 false 43 (.return_, 1, 0, 0, 0, 0) = true := by decide +kernel
theorem ck_11_58 : decode prog_4_method_5_code 58 = .ok (.ifCond .eq 14, 3) ∧ lnkB 2 false 58 (.ifCond .eq 14, 3, 72, 0, 0, 0) = true := by decide +kernel
theorem ck_11_69 : decode prog_4_method_5_code 69 = .ok (.if_icmp .lt 8, 3) ∧ lnkB 2 false 69 (.if_icmp .lt 8, 3, 77, 0, 0, 0) = true := by decide +kernel
theorem ck_11_74 : decode prog_4_method_5_code 74 = .ok (.invokevirtual 43, 3) ∧ lnkB 2 false 74 (.invokevirtual 43, 3, 12, 0, 0, 0) = true := by decide +kernel
theorem ck_11_77 : decode prog_4_method_5_code 77 = .ok (.return_, 1) ∧ lnkB 2 false 77 (.return_, 1, 0, 0, 0, 0) = true := by decide +kernel
abbrev RU_11 (d : Nat) (cp : Nat × Nat) (Post : Option Value → Sto → Prop) : PP := Runs (Ex d) prog_4_method_5_code 2 false 5 none none cp Post
theorem en_11 {d : Nat} {As : List Value} {S : Sto} {mc ms : Nat} {Post : Option Value → Sto → Prop} (hc : cats As ≤ 5) (h : RU_11 d (mc, ms) Post 0 (lv_args 0 As) [] S 0 0) : Ex (d + 1) 11 As S mc ms Post := ⟨by decide, hc, h⟩
def sg_12_0 : List RI := [(.aload_n 0, 1, 0, 0, 0, 0), (.iconst 0, 1, 0, 0, 0, 0), (.putfield 27, 3, 2, 5, 0, 0), (.aload_n 0, 1, 0, 0, 0, 0), (.iconst 0, 1, 0, 0, 0, 0), (.putfield 31, 3, 2, 6, 0, 0), (.aload_n 0, 1, 0, 0, 0, 0), (.iload_n 1, 1, 0, 0, 0, 0), (.aload_n 0, 1, 0, 0, 0, 0), (.getfield 24, 3, 2, 4, 0, 0), (.iadd, 1, 0, 0, 0, 0), (.putfield 34, 3, 2, 7, 0, 0), (.aload_n 0, 1, 0, 0, 0, 0), (.iconst (-1), 1, 0, 0, 0, -1), (.putfield 37, 3, 2, 8, 0, 0)]
theorem sk_12_0 : segB 2 false prog_4_method_3_code 0 sg_12_0 = true := by decide +kernel
theorem ck_12_25 : decode prog_4_method_3_code 25 = .ok (.return_, 1) ∧ lnkB 2 false 25 (.return_, 1, 0, 0, 0, 0) = true := by decide +kernel
abbrev RU_12 (d : Nat) (cp : Nat × Nat) (Post : Option Value → Sto → Prop) : PP := Runs (Ex d) prog_4_method_3_code 2 false 2 none none cp Post
theorem en_12 {d : Nat} {As : List Value} {S : Sto} {mc ms : Nat} {Post : Option Value → Sto → Prop} (hc : cats As ≤ 2) (h : RU_12 d (mc, ms) Post 0 (lv_args 0 As) [] S 0 0) : Ex (d + 1) 12 As S mc ms Post := ⟨by decide, hc, h⟩
def sg_13_0 : List RI := [(.aload_n 0, 1, 0, 0, 0, 0), (.invokespecial 3, 3, 0, 4, 0, 0), (.aload_n 0, 1, 0, 0, 0, 0), (.iconst 5, 1, 0, 0, 0, 5), (.anewarray 9, 3, 0, 0, 0, 0), (.putfield 11, 3, 3, 0, 2, 0), (.aload_n 0, 1, 0, 0, 0, 0), (.bipush 20, 2, 0, 0, 0, 20), (.newarray .int, 2, 13, 0, 0, 0), (.putfield 17, 3, 3, 2, 2, 0), (.aload_n 0, 1, 0, 0, 0, 0), (.bipush 20, 2, 0, 0, 0, 20), (.newarray .int, 2, 13, 0, 0, 0), (.putfield 21, 3, 3, 3, 2, 0), (.aload_n 0, 1, 0, 0, 0, 0), (.bipush 20, 2, 0, 0, 0, 20), (.newarray .int, 2, 13, 0, 0, 0), (.putfield 24, 3, 3, 4, 2, 0), (.iconst 0, 1, 0, 0, 0, 0), (.istore_n 1, 1, 0, 0, 0, 0)]
theorem sk_13_0 : segB 3 true prog_5_method_1_code 0 sg_13_0 = true := by decide +kernel
def sg_13_38 : List RI := [(.iload_n 1, 1, 0, 0, 0, 0), (.iconst 5, 1, 0, 0, 0, 5)]
theorem sk_13_38 : segB 3 true prog_5_method_1_code 38 sg_13_38 = true := by decide +kernel
def sg_13_43 : List RI := [(.aload_n 0, 1, 0, 0, 0, 0), (.getfield 11, 3, 3, 0, 2, 0), (.iload_n 1, 1, 0, 0, 0, 0), (.new 9, 3, 2, 0, 0, 0), (.dup, 1, 0, 0, 0, 0)]
theorem sk_13_43 : segB 3 true prog_5_method_1_code 43 sg_13_43 = true := by decide +kernel
def sg_13_55 : List RI := [(.aastore, 1, 0, 0, 0, 0), (.iinc 1 1, 3, 0, 0, 0, 1)]
theorem sk_13_55 : segB 3 true prog_5_method_1_code 55 sg_13_55 = true := by decide +kernel
theorem ck_13_40 : decode prog_5_method_1_code 40 = .ok (.if_icmp .ge 22, 3) ∧ lnkB 3 true 40 (.if_icmp .ge 22, 3, 62, 0, 0, 0) = true := by decide +kernel
theorem ck_13_52 : decode prog_5_method_1_code 52 = .ok (.invokespecial 27, 3) ∧ lnkB 3 true 52 (.invokespecial 27, 3, 8, 1, 0, 0) = true := by decide +kernel
theorem ck_13_59 : decode prog_5_method_1_code 59 = .ok (.goto (-21), 3) ∧ lnkB 3 true 59 (.goto (-21), 3, 38, 0, 0, 0) = true := by decide +kernel
theorem ck_13_62 : decode prog_5_method_1_code 62 = .ok (.return_, 1) ∧ lnkB 3 true 62 (.return_, 1, 0, 0, 0, 0) = true := by decide +kernel
abbrev RU_13 (d : Nat) (cp : Nat × Nat) (Post : Option Value → Sto → Prop) : PP := Runs (Ex d) prog_5_method_1_code 3 true 2 none none cp Post
theorem en_13 {d : Nat} {As : List Value} {S : Sto} {mc ms : Nat} {Post : Option Value → Sto → Prop} (hc : cats As ≤ 2) (h : RU_13 d (mc, ms) Post 0 (lv_args 0 As) [] S 0 0) : Ex (d + 1) 13 As S mc ms Post := ⟨by decide, hc, h⟩
def sg_14_0 : List RI := [(.aload_n 0, 1, 0, 0, 0, 0), (.getfield 28, 3, 3, 1, 0, 0), (.bipush 20, 2, 0, 0, 0, 20)]
theorem sk_14_0 : segB 3 false prog_5_method_2_code 0 sg_14_0 = true := by decide +kernel
def sg_14_9 : List RI := [(.iconst (-1), 1, 0, 0, 0, -1)]
theorem sk_14_9 : segB 3 false prog_5_method_2_code 9 sg_14_9 = true := by decide +kernel
def sg_14_11 : List RI := [(.aload_n 0, 1, 0, 0, 0, 0), (.getfield 17, 3, 3, 2, 2, 0), (.aload_n 0, 1, 0, 0, 0, 0), (.getfield 28, 3, 3, 1, 0, 0), (.iload_n 1, 1, 0, 0, 0, 0)]
theorem sk_14_11 : segB 3 false prog_5_method_2_code 11 sg_14_11 = true := by decide +kernel
def sg_14_21 : List RI := [(.aload_n 0, 1, 0, 0, 0, 0), (.getfield 21, 3, 3, 3, 2, 0), (.aload_n 0, 1, 0, 0, 0, 0), (.getfield 28, 3, 3, 1, 0, 0), (.iload_n 2, 1, 0, 0, 0, 0)]
theorem sk_14_21 : segB 3 false prog_5_method_2_code 21 sg_14_21 = true := by decide +kernel
def sg_14_31 : List RI := [(.aload_n 0, 1, 0, 0, 0, 0), (.getfield 24, 3, 3, 4, 2, 0), (.aload_n 0, 1, 0, 0, 0, 0), (.getfield 28, 3, 3, 1, 0, 0), (.iload_n 3, 1, 0, 0, 0, 0)]
theorem sk_14_31 : segB 3 false prog_5_method_2_code 31 sg_14_31 = true := by decide +kernel
def sg_14_41 : List RI := [(.aload_n 0, 1, 0, 0, 0, 0), (.dup, 1, 0, 0, 0, 0), (.getfield 28, 3, 3, 1, 0, 0), (.iconst 1, 1, 0, 0, 0, 1), (.iadd, 1, 0, 0, 0, 0), (.putfield 28, 3, 3, 1, 0, 0), (.aload_n 0, 1, 0, 0, 0, 0), (.getfield 28, 3, 3, 1, 0, 0)]
theorem sk_14_41 : segB 3 false prog_5_method_2_code 41 sg_14_41 = true := by decide +kernel
theorem ck_14_6 : decode prog_5_method_2_code 6 = .ok (.if_icmp .lt 5, 3) ∧ lnkB 3 false 6 (.if_icmp .lt 5, 3, 11, 0, 0, 0) = true := by decide +kernel
theorem ck_14_10 : decode prog_5_method_2_code 10 = .ok (.ireturn, 1) ∧ lnkB 3 false 10 (.ireturn, 1, 0, 0, 0, 0) = true := by decide +kernel
theorem ca_14_20 : decode prog_5_method_2_code 20 = .ok (.iastore, 1) ∧ lnkB 3 false 20 (.iastore, 1, 0, 0, 0, 0) = true := by decide +kernel
theorem ca_14_30 : decode prog_5_method_2_code 30 = .ok (.iastore, 1) ∧ lnkB 3 false 30 (.iastore, 1, 0, 0, 0, 0) = true := by decide +kernel
theorem ca_14_40 : decode prog_5_method_2_code 40 = .ok (.iastore, 1) ∧ lnkB 3 false 40 (.iastore, 1, 0, 0, 0, 0) = true := by decide +kernel
theorem ck_14_55 : decode prog_5_method_2_code 55 = .ok (.ireturn, 1) ∧ lnkB 3 false 55 (.ireturn, 1, 0, 0, 0, 0) = true := by decide +kernel
abbrev RU_14 (d : Nat) (cp : Nat × Nat) (Post : Option Value → Sto → Prop) : PP := Runs (Ex d) prog_5_method_2_code 3 false 4 (some .int) none cp Post
theorem en_14 {d : Nat} {As : List Value} {S : Sto} {mc ms : Nat} {Post : Option Value → Sto → Prop} (hc : cats As ≤ 4) (h : RU_14 d (mc, ms) Post 0 (lv_args 0 As) [] S 0 0) : Ex (d + 1) 14 As S mc ms Post := ⟨by decide, hc, h⟩
def sg_15_0 : List RI := [(.iconst 0, 1, 0, 0, 0, 0), (.istore_n 3, 1, 0, 0, 0, 0)]
theorem sk_15_0 : segB 3 false prog_5_method_3_code 0 sg_15_0 = true := by decide +kernel
def sg_15_2 : List RI := [(.iload_n 3, 1, 0, 0, 0, 0), (.aload_n 0, 1, 0, 0, 0, 0), (.getfield 28, 3, 3, 1, 0, 0)]
theorem sk_15_2 : segB 3 false prog_5_method_3_code 2 sg_15_2 = true := by decide +kernel
def sg_15_10 : List RI := [(.aload_n 0, 1, 0, 0, 0, 0), (.getfield 17, 3, 3, 2, 2, 0), (.iload_n 3, 1, 0, 0, 0, 0)]
theorem sk_15_10 : segB 3 false prog_5_method_3_code 10 sg_15_10 = true := by decide +kernel
def sg_15_16 : List RI := [(.iload_n 1, 1, 0, 0, 0, 0)]
theorem sk_15_16 : segB 3 false prog_5_method_3_code 16 sg_15_16 = true := by decide +kernel
def sg_15_20 : List RI := [(.iload_n 2, 1, 0, 0, 0, 0), (.aload_n 0, 1, 0, 0, 0, 0), (.getfield 21, 3, 3, 3, 2, 0), (.iload_n 3, 1, 0, 0, 0, 0)]
theorem sk_15_20 : segB 3 false prog_5_method_3_code 20 sg_15_20 = true := by decide +kernel
def sg_15_27 : List RI := [(.aload_n 0, 1, 0, 0, 0, 0), (.getfield 24, 3, 3, 4, 2, 0), (.iload_n 3, 1, 0, 0, 0, 0)]
theorem sk_15_27 : segB 3 false prog_5_method_3_code 27 sg_15_27 = true := by decide +kernel
def sg_15_39 : List RI := [(.iconst 1, 1, 0, 0, 0, 1)]
theorem sk_15_39 : segB 3 false prog_5_method_3_code 39 sg_15_39 = true := by decide +kernel
def sg_15_41 : List RI := [(.iinc 3 1, 3, 0, 0, 0, 1)]
theorem sk_15_41 : segB 3 false prog_5_method_3_code 41 sg_15_41 = true := by decide +kernel
def sg_15_47 : List RI := [(.iconst 0, 1, 0, 0, 0, 0)]
theorem sk_15_47 : segB 3 false prog_5_method_3_code 47 sg_15_47 = true := by decide +kernel
theorem ck_15_7 : decode prog_5_method_3_code 7 = .ok (.if_icmp .ge 40, 3) ∧ lnkB 3 false 7 (.if_icmp .ge 40, 3, 47, 0, 0, 0) = true := by decide +kernel
theorem ca_15_15 : decode prog_5_method_3_code 15 = .ok (.iaload, 1) ∧ lnkB 3 false 15 (.iaload, 1, 0, 0, 0, 0) = true := by decide +kernel
theorem ck_15_17 : decode prog_5_method_3_code 17 = .ok (.if_icmp .ne 24, 3) ∧ lnkB 3 false 17 (.if_icmp .ne 24, 3, 41, 0, 0, 0) = true := by decide +kernel
theorem ca_15_26 : decode prog_5_method_3_code 26 = .ok (.iaload, 1) ∧ lnkB 3 false 26 (.iaload, 1, 0, 0, 0, 0) = true := by decide +kernel
theorem ca_15_32 : decode prog_5_method_3_code 32 = .ok (.iaload, 1) ∧ lnkB 3 false 32 (.iaload, 1, 0, 0, 0, 0) = true := by decide +kernel
theorem ck_15_33 : decode prog_5_method_3_code 33 = .ok (.invokestatic 32, 3) ∧ lnkB 3 false 33 (.invokestatic 32, 3, 57, 1, 0, 0) = true := by decide +kernel
theorem ck_15_36 : decode prog_5_method_3_code 36 = .ok (.ifCond .eq 5, 3) ∧ lnkB 3 false 36 (.ifCond .eq 5, 3, 41, 0, 0, 0) = true := by decide +kernel
theorem ck_15_40 : decode prog_5_method_3_code 40 = .ok (.ireturn, 1) ∧ lnkB 3 false 40 (.ireturn, 1, 0, 0, 0, 0) = true := by decide +kernel
theorem ck_15_44 : decode prog_5_method_3_code 44 = .ok (.goto (-42), 3) ∧ lnkB 3 false 44 (.goto (-42), 3, 2, 0, 0, 0) = true := by decide +kernel
theorem ck_15_48 : decode prog_5_method_3_code 48 = .ok (.ireturn, 1) ∧ lnkB 3 false 48 (.ireturn, 1, 0, 0, 0, 0) = true := by decide +kernel
abbrev RU_15 (d : Nat) (cp : Nat × Nat) (Post : Option Value → Sto → Prop) : PP := Runs (Ex d) prog_5_method_3_code 3 false 4 (some .boolean) none cp Post
theorem en_15 {d : Nat} {As : List Value} {S : Sto} {mc ms : Nat} {Post : Option Value → Sto → Prop} (hc : cats As ≤ 4) (h : RU_15 d (mc, ms) Post 0 (lv_args 0 As) [] S 0 0) : Ex (d + 1) 15 As S mc ms Post := ⟨by decide, hc, h⟩
def sg_16_0 : List RI := [(.aload_n 0, 1, 0, 0, 0, 0), (.invokespecial 3, 3, 0, 4, 0, 0), (.aload_n 0, 1, 0, 0, 0, 0), (.iconst 5, 1, 0, 0, 0, 5), (.newarray .int, 2, 13, 0, 0, 0), (.putfield 9, 3, 4, 2, 2, 0), (.aload_n 0, 1, 0, 0, 0, 0), (.aload_n 1, 1, 0, 0, 0, 0), (.putfield 15, 3, 4, 0, 2, 0), (.aload_n 0, 1, 0, 0, 0, 0), (.aload_n 2, 1, 0, 0, 0, 0), (.putfield 19, 3, 4, 1, 2, 0)]
theorem sk_16_0 : segB 4 true prog_6_method_1_code 0 sg_16_0 = true := by decide +kernel
theorem ck_16_21 : decode prog_6_method_1_code 21 = .ok (.return_, 1) ∧ lnkB 4 true 21 (.return_, 1, 0, 0, 0, 0) = true := by decide +kernel
abbrev RU_16 (d : Nat) (cp : Nat × Nat) (Post : Option Value → Sto → Prop) : PP := Runs (Ex d) prog_6_method_1_code 4 true 3 none none cp Post
theorem en_16 {d : Nat} {As : List Value} {S : Sto} {mc ms : Nat} {Post : Option Value → Sto → Prop} (hc : cats As ≤ 3) (h : RU_16 d (mc, ms) Post 0 (lv_args 0 As) [] S 0 0) : Ex (d + 1) 16 As S mc ms Post := ⟨by decide, hc, h⟩
def sg_17_0 : List RI := [(.aload_n 0, 1, 0, 0, 0, 0), (.getfield 15, 3, 4, 0, 2, 0), (.iconst 0, 1, 0, 0, 0, 0), (.putfield 23, 3, 9, 7, 0, 0), (.aload_n 0, 1, 0, 0, 0, 0), (.iconst 0, 1, 0, 0, 0, 0), (.putfield 29, 3, 4, 3, 0, 0), (.aload_n 0, 1, 0, 0, 0, 0), (.iconst 0, 1, 0, 0, 0, 0), (.putfield 32, 3, 4, 4, 0, 0), (.aload_n 0, 1, 0, 0, 0, 0), (.iload_n 2, 1, 0, 0, 0, 0), (.putfield 35, 3, 4, 5, 0, 0), (.aload_n 0, 1, 0, 0, 0, 0), (.iconst 1, 1, 0, 0, 0, 1), (.putfield 38, 3, 4, 6, 0, 0), (.aload_n 0, 1, 0, 0, 0, 0), (.iconst (-1), 1, 0, 0, 0, -1), (.putfield 41, 3, 4, 7, 0, 0), (.iconst 0, 1, 0, 0, 0, 0), (.istore_n 3, 1, 0, 0, 0, 0)]
theorem sk_17_0 : segB 4 false prog_6_method_2_code 0 sg_17_0 = true := by decide +kernel
def sg_17_35 : List RI := [(.iload_n 3, 1, 0, 0, 0, 0), (.aload_n 1, 1, 0, 0, 0, 0), (.getfield 44, 3, 7, 1, 0, 0)]
theorem sk_17_35 : segB 4 false prog_6_method_2_code 35 sg_17_35 = true := by decide +kernel
def sg_17_43 : List RI := [(.aload_n 1, 1, 0, 0, 0, 0), (.getfield 49, 3, 7, 0, 2, 0), (.iload_n 3, 1, 0, 0, 0, 0)]
theorem sk_17_43 : segB 4 false prog_6_method_2_code 43 sg_17_43 = true := by decide +kernel
def sg_17_49 : List RI := [(.bipush 32, 2, 0, 0, 0, 32)]
theorem sk_17_49 : segB 4 false prog_6_method_2_code 49 sg_17_49 = true := by decide +kernel
def sg_17_54 : List RI := [(.iconst (-1), 1, 0, 0, 0, -1)]
theorem sk_17_54 : segB 4 false prog_6_method_2_code 54 sg_17_54 = true := by decide +kernel
def sg_17_58 : List RI := [(.aload_n 0, 1, 0, 0, 0, 0), (.aload_n 1, 1, 0, 0, 0, 0), (.getfield 49, 3, 7, 0, 2, 0), (.iload_n 3, 1, 0, 0, 0, 0)]
theorem sk_17_58 : segB 4 false prog_6_method_2_code 58 sg_17_58 = true := by decide +kernel
def sg_17_65 : List RI := [(.iload_n 3, 1, 0, 0, 0, 0)]
theorem sk_17_65 : segB 4 false prog_6_method_2_code 65 sg_17_65 = true := by decide +kernel
def sg_17_69 : List RI := [(.istore 4, 2, 0, 0, 0, 0), (.iload 4, 2, 0, 0, 0, 0), (.iconst (-1), 1, 0, 0, 0, -1)]
theorem sk_17_69 : segB 4 false prog_6_method_2_code 69 sg_17_69 = true := by decide +kernel
def sg_17_77 : List RI := [(.iconst 1, 1, 0, 0, 0, 1), (.iconst 4, 1, 0, 0, 0, 4), (.iload_n 3, 1, 0, 0, 0, 0), (.imul, 1, 0, 0, 0, 0), (.iadd, 1, 0, 0, 0, 0), (.iload 4, 2, 0, 0, 0, 0), (.iadd, 1, 0, 0, 0, 0)]
theorem sk_17_77 : segB 4 false prog_6_method_2_code 77 sg_17_77 = true := by decide +kernel
def sg_17_86 : List RI := [(.iinc 3 1, 3, 0, 0, 0, 1)]
theorem sk_17_86 : segB 4 false prog_6_method_2_code 86 sg_17_86 = true := by decide +kernel
def sg_17_92 : List RI := [(.aload_n 0, 1, 0, 0, 0, 0), (.getfield 32, 3, 4, 4, 0, 0), (.iconst 2, 1, 0, 0, 0, 2)]
theorem sk_17_92 : segB 4 false prog_6_method_2_code 92 sg_17_92 = true := by decide +kernel
def sg_17_100 : List RI := [(.iconst 0, 1, 0, 0, 0, 0)]
theorem sk_17_100 : segB 4 false prog_6_method_2_code 100 sg_17_100 = true := by decide +kernel
def sg_17_104 : List RI := [(.iconst 1, 1, 0, 0, 0, 1), (.iconst 4, 1, 0, 0, 0, 4), (.aload_n 1, 1, 0, 0, 0, 0), (.getfield 44, 3, 7, 1, 0, 0), (.imul, 1, 0, 0, 0, 0), (.iadd, 1, 0, 0, 0, 0), (.iconst 0, 1, 0, 0, 0, 0), (.iadd, 1, 0, 0, 0, 0)]
theorem sk_17_104 : segB 4 false prog_6_method_2_code 104 sg_17_104 = true := by decide +kernel
theorem ck_17_40 : decode prog_6_method_2_code 40 = .ok (.if_icmp .ge 52, 3) ∧ lnkB 4 false 40 (.if_icmp .ge 52, 3, 92, 0, 0, 0) = true := by decide +kernel
theorem ca_17_48 : decode prog_6_method_2_code 48 = .ok (.iaload, 1) ∧ lnkB 4 false 48 (.iaload, 1, 0, 0, 0, 0) = true := by decide +kernel
theorem ck_17_51 : decode prog_6_method_2_code 51 = .ok (.if_icmp .ne 7, 3) ∧ lnkB 4 false 51 (.if_icmp .ne 7, 3, 58, 0, 0, 0) = true := by decide +kernel
theorem ck_17_55 : decode prog_6_method_2_code 55 = .ok (.goto 14, 3) ∧ lnkB 4 false 55 (.goto 14, 3, 69, 0, 0, 0) = true := by decide +kernel
theorem ca_17_64 : decode prog_6_method_2_code 64 = .ok (.iaload, 1) ∧ lnkB 4 false 64 (.iaload, 1, 0, 0, 0, 0) = true := by decide +kernel
theorem ck_17_66 : decode prog_6_method_2_code 66 = .ok (.invokevirtual 52, 3) ∧ lnkB 4 false 66 (.invokevirtual 52, 3, 18, 0, 0, 0) = true := by decide +kernel
theorem ck_17_74 : decode prog_6_method_2_code 74 = .ok (.if_icmp .eq 12, 3) ∧ lnkB 4 false 74 (.if_icmp .eq 12, 3, 86, 0, 0, 0) = true := by decide +kernel
theorem ck_17_85 : decode prog_6_method_2_code 85 = .ok (.ireturn, 1) ∧ lnkB 4 false 85 (.ireturn, 1, 0, 0, 0, 0) = true := by decide +kernel
theorem ck_17_89 : decode prog_6_method_2_code 89 = .ok (.goto (-54), 3) ∧ lnkB 4 false 89 (.goto (-54), 3, 35, 0, 0, 0) = true := by decide +kernel
theorem ck_17_97 : decode prog_6_method_2_code 97 = .ok (.if_icmp .ne 7, 3) ∧ lnkB 4 false 97 (.if_icmp .ne 7, 3, 104, 0, 0, 0) = true := by decide +kernel
theorem ck_17_101 : decode prog_6_method_2_code 101 = .ok (.goto 13, 3) ∧ lnkB 4 false 101 (.goto 13, 3, 114, 0, 0, 0) = true := by decide +kernel
theorem ck_17_114 : decode prog_6_method_2_code 114 = .ok (.ireturn, 1) ∧ lnkB 4 false 114 (.ireturn, 1, 0, 0, 0, 0) = true := by decide +kernel
abbrev RU_17 (d : Nat) (cp : Nat × Nat) (Post : Option Value → Sto → Prop) : PP := Runs (Ex d) prog_6_method_2_code 4 false 5 (some .int) none cp Post
theorem en_17 {d : Nat} {As : List Value} {S : Sto} {mc ms : Nat} {Post : Option Value → Sto → Prop} (hc : cats As ≤ 5) (h : RU_17 d (mc, ms) Post 0 (lv_args 0 As) [] S 0 0) : Ex (d + 1) 17 As S mc ms Post := ⟨by decide, hc, h⟩
def sg_18_0 : List RI := [(.aload_n 0, 1, 0, 0, 0, 0), (.getfield 32, 3, 4, 4, 0, 0)]
theorem sk_18_0 : segB 4 false prog_6_method_3_code 0 sg_18_0 = true := by decide +kernel
def sg_18_7 : List RI := [(.iload_n 1, 1, 0, 0, 0, 0), (.bipush 123, 2, 0, 0, 0, 123)]
theorem sk_18_7 : segB 4 false prog_6_method_3_code 7 sg_18_7 = true := by decide +kernel
def sg_18_13 : List RI := [(.aload_n 0, 1, 0, 0, 0, 0), (.iload_n 2, 1, 0, 0, 0, 0)]
theorem sk_18_13 : segB 4 false prog_6_method_3_code 13 sg_18_13 = true := by decide +kernel
def sg_18_21 : List RI := [(.iconst 0, 1, 0, 0, 0, 0)]
theorem sk_18_21 : segB 4 false prog_6_method_3_code 21 sg_18_21 = true := by decide +kernel
def sg_18_23 : List RI := [(.aload_n 0, 1, 0, 0, 0, 0), (.getfield 32, 3, 4, 4, 0, 0), (.iconst 2, 1, 0, 0, 0, 2)]
theorem sk_18_23 : segB 4 false prog_6_method_3_code 23 sg_18_23 = true := by decide +kernel
def sg_18_31 : List RI := [(.aload_n 0, 1, 0, 0, 0, 0), (.getfield 29, 3, 4, 3, 0, 0), (.iconst 1, 1, 0, 0, 0, 1)]
theorem sk_18_31 : segB 4 false prog_6_method_3_code 31 sg_18_31 = true := by decide +kernel
def sg_18_39 : List RI := [(.iconst 0, 1, 0, 0, 0, 0)]
theorem sk_18_39 : segB 4 false prog_6_method_3_code 39 sg_18_39 = true := by decide +kernel
def sg_18_41 : List RI := [(.aload_n 0, 1, 0, 0, 0, 0), (.getfield 9, 3, 4, 2, 2, 0), (.aload_n 0, 1, 0, 0, 0, 0), (.getfield 29, 3, 4, 3, 0, 0), (.iconst 1, 1, 0, 0, 0, 1), (.isub, 1, 0, 0, 0, 0)]
theorem sk_18_41 : segB 4 false prog_6_method_3_code 41 sg_18_41 = true := by decide +kernel
def sg_18_52 : List RI := [(.istore_n 3, 1, 0, 0, 0, 0), (.iload_n 1, 1, 0, 0, 0, 0), (.bipush 125, 2, 0, 0, 0, 125)]
theorem sk_18_52 : segB 4 false prog_6_method_3_code 52 sg_18_52 = true := by decide +kernel
def sg_18_59 : List RI := [(.aload_n 0, 1, 0, 0, 0, 0), (.iload_n 3, 1, 0, 0, 0, 0)]
theorem sk_18_59 : segB 4 false prog_6_method_3_code 59 sg_18_59 = true := by decide +kernel
def sg_18_65 : List RI := [(.iload_n 1, 1, 0, 0, 0, 0), (.bipush 48, 2, 0, 0, 0, 48), (.bipush 51, 2, 0, 0, 0, 51)]
theorem sk_18_65 : segB 4 false prog_6_method_3_code 65 sg_18_65 = true := by decide +kernel
def sg_18_76 : List RI := [(.aload_n 0, 1, 0, 0, 0, 0), (.iload_n 3, 1, 0, 0, 0, 0), (.iload_n 1, 1, 0, 0, 0, 0), (.bipush 48, 2, 0, 0, 0, 48), (.isub, 1, 0, 0, 0, 0)]
theorem sk_18_76 : segB 4 false prog_6_method_3_code 76 sg_18_76 = true := by decide +kernel
def sg_18_88 : List RI := [(.iconst 0, 1, 0, 0, 0, 0)]
theorem sk_18_88 : segB 4 false prog_6_method_3_code 88 sg_18_88 = true := by decide +kernel
theorem ck_18_4 : decode prog_6_method_3_code 4 = .ok (.ifCond .ne 19, 3) ∧ lnkB 4 false 4 (.ifCond .ne 19, 3, 23, 0, 0, 0) = true := by decide +kernel
theorem ck_18_10 : decode prog_6_method_3_code 10 = .ok (.if_icmp .ne 11, 3) ∧ lnkB 4 false 10 (.if_icmp .ne 11, 3, 21, 0, 0, 0) = true := by decide +kernel
theorem ck_18_15 : decode prog_6_method_3_code 15 = .ok (.invokevirtual 56, 3) ∧ lnkB 4 false 15 (.invokevirtual 56, 3, 19, 0, 0, 0) = true := by decide +kernel
theorem ck_18_18 : decode prog_6_method_3_code 18 = .ok (.goto 4, 3) ∧ lnkB 4 false 18 (.goto 4, 3, 22, 0, 0, 0) = true := by decide +kernel
theorem ck_18_22 : decode prog_6_method_3_code 22 = .ok (.ireturn, 1) ∧ lnkB 4 false 22 (.ireturn, 1, 0, 0, 0, 0) = true := by decide +kernel
theorem ck_18_28 : decode prog_6_method_3_code 28 = .ok (.if_icmp .eq 11, 3) ∧ lnkB 4 false 28 (.if_icmp .eq 11, 3, 39, 0, 0, 0) = true := by decide +kernel
theorem ck_18_36 : decode prog_6_method_3_code 36 = .ok (.if_icmp .ge 5, 3) ∧ lnkB 4 false 36 (.if_icmp .ge 5, 3, 41, 0, 0, 0) = true := by decide +kernel
theorem ck_18_40 : decode prog_6_method_3_code 40 = .ok (.ireturn, 1) ∧ lnkB 4 false 40 (.ireturn, 1, 0, 0, 0, 0) = true := by decide +kernel
theorem ca_18_51 : decode prog_6_method_3_code 51 = .ok (.iaload, 1) ∧ lnkB 4 false 51 (.iaload, 1, 0, 0, 0, 0) = true := by decide +kernel
theorem ck_18_56 : decode prog_6_method_3_code 56 = .ok (.if_icmp .ne 9, 3) ∧ lnkB 4 false 56 (.if_icmp .ne 9, 3, 65, 0, 0, 0) = true := by decide +kernel
theorem ck_18_61 : decode prog_6_method_3_code 61 = .ok (.invokevirtual 60, 3) ∧ lnkB 4 false 61 (.invokevirtual 60, 3, 20, 0, 0, 0) = true := by decide +kernel
theorem ck_18_64 : decode prog_6_method_3_code 64 = .ok (.ireturn, 1) ∧ lnkB 4 false 64 (.ireturn, 1, 0, 0, 0, 0) = true := by decide +kernel
theorem ck_18_70 : decode prog_6_method_3_code 70 = .ok (.invokestatic 63, 3) ∧ lnkB 4 false 70 (.invokestatic 63, 3, 57, 1, 0, 0) = true := by decide +kernel
theorem ck_18_73 : decode prog_6_method_3_code 73 = .ok (.ifCond .eq 15, 3) ∧ lnkB 4 false 73 (.ifCond .eq 15, 3, 88, 0, 0, 0) = true := by decide +kernel
theorem ck_18_82 : decode prog_6_method_3_code 82 = .ok (.invokevirtual 67, 3) ∧ lnkB 4 false 82 (.invokevirtual 67, 3, 21, 0, 0, 0) = true := by decide +kernel
theorem ck_18_85 : decode prog_6_method_3_code 85 = .ok (.goto 4, 3) ∧ lnkB 4 false 85 (.goto 4, 3, 89, 0, 0, 0) = true := by decide +kernel
theorem ck_18_89 : decode prog_6_method_3_code 89 = .ok (.ireturn, 1) ∧ lnkB 4 false 89 (.ireturn, 1, 0, 0, 0, 0) = true := by decide +kernel
abbrev RU_18 (d : Nat) (cp : Nat × Nat) (Post : Option Value → Sto → Prop) : PP := Runs (Ex d) prog_6_method_3_code 4 false 4 (some .int) none cp Post
theorem en_18 {d : Nat} {As : List Value} {S : Sto} {mc ms : Nat} {Post : Option Value → Sto → Prop} (hc : cats As ≤ 4) (h : RU_18 d (mc, ms) Post 0 (lv_args 0 As) [] S 0 0) : Ex (d + 1) 18 As S mc ms Post := ⟨by decide, hc, h⟩
def sg_19_0 : List RI := [(.aload_n 0, 1, 0, 0, 0, 0), (.getfield 15, 3, 4, 0, 2, 0), (.getfield 23, 3, 9, 7, 0, 0), (.bipush 20, 2, 0, 0, 0, 20)]
theorem sk_19_0 : segB 4 false prog_6_method_4_code 0 sg_19_0 = true := by decide +kernel
def sg_19_12 : List RI := [(.aload_n 0, 1, 0, 0, 0, 0), (.getfield 29, 3, 4, 3, 0, 0), (.iconst 5, 1, 0, 0, 0, 5)]
theorem sk_19_12 : segB 4 false prog_6_method_4_code 12 sg_19_12 = true := by decide +kernel
def sg_19_20 : List RI := [(.iconst 1, 1, 0, 0, 0, 1)]
theorem sk_19_20 : segB 4 false prog_6_method_4_code 20 sg_19_20 = true := by decide +kernel
def sg_19_22 : List RI := [(.aload_n 0, 1, 0, 0, 0, 0), (.getfield 15, 3, 4, 0, 2, 0), (.getfield 23, 3, 9, 7, 0, 0), (.istore_n 2, 1, 0, 0, 0, 0), (.aload_n 0, 1, 0, 0, 0, 0), (.getfield 15, 3, 4, 0, 2, 0), (.dup, 1, 0, 0, 0, 0), (.getfield 23, 3, 9, 7, 0, 0), (.iconst 1, 1, 0, 0, 0, 1), (.iadd, 1, 0, 0, 0, 0), (.putfield 23, 3, 9, 7, 0, 0), (.aload_n 0, 1, 0, 0, 0, 0), (.getfield 15, 3, 4, 0, 2, 0), (.getfield 70, 3, 9, 0, 2, 0), (.iload_n 2, 1, 0, 0, 0, 0), (.aload_n 0, 1, 0, 0, 0, 0), (.getfield 35, 3, 4, 5, 0, 0)]
theorem sk_19_22 : segB 4 false prog_6_method_4_code 22 sg_19_22 = true := by decide +kernel
def sg_19_56 : List RI := [(.aload_n 0, 1, 0, 0, 0, 0), (.getfield 15, 3, 4, 0, 2, 0), (.getfield 73, 3, 9, 2, 2, 0), (.iload_n 2, 1, 0, 0, 0, 0), (.aload_n 0, 1, 0, 0, 0, 0), (.getfield 38, 3, 4, 6, 0, 0)]
theorem sk_19_56 : segB 4 false prog_6_method_4_code 56 sg_19_56 = true := by decide +kernel
def sg_19_69 : List RI := [(.aload_n 0, 1, 0, 0, 0, 0), (.getfield 15, 3, 4, 0, 2, 0), (.getfield 76, 3, 9, 1, 2, 0), (.iload_n 2, 1, 0, 0, 0, 0), (.iload_n 1, 1, 0, 0, 0, 0)]
theorem sk_19_69 : segB 4 false prog_6_method_4_code 69 sg_19_69 = true := by decide +kernel
def sg_19_79 : List RI := [(.aload_n 0, 1, 0, 0, 0, 0), (.getfield 15, 3, 4, 0, 2, 0), (.getfield 79, 3, 9, 4, 2, 0), (.iload_n 2, 1, 0, 0, 0, 0), (.iconst 0, 1, 0, 0, 0, 0)]
theorem sk_19_79 : segB 4 false prog_6_method_4_code 79 sg_19_79 = true := by decide +kernel
def sg_19_89 : List RI := [(.aload_n 0, 1, 0, 0, 0, 0), (.getfield 9, 3, 4, 2, 2, 0), (.aload_n 0, 1, 0, 0, 0, 0), (.getfield 29, 3, 4, 3, 0, 0), (.iload_n 2, 1, 0, 0, 0, 0)]
theorem sk_19_89 : segB 4 false prog_6_method_4_code 89 sg_19_89 = true := by decide +kernel
def sg_19_99 : List RI := [(.aload_n 0, 1, 0, 0, 0, 0), (.dup, 1, 0, 0, 0, 0), (.getfield 29, 3, 4, 3, 0, 0), (.iconst 1, 1, 0, 0, 0, 1), (.iadd, 1, 0, 0, 0, 0), (.putfield 29, 3, 4, 3, 0, 0), (.aload_n 0, 1, 0, 0, 0, 0), (.getfield 15, 3, 4, 0, 2, 0), (.getfield 82, 3, 9, 3, 2, 0), (.iload_n 2, 1, 0, 0, 0, 0), (.aload_n 0, 1, 0, 0, 0, 0), (.getfield 29, 3, 4, 3, 0, 0)]
theorem sk_19_99 : segB 4 false prog_6_method_4_code 99 sg_19_99 = true := by decide +kernel
def sg_19_122 : List RI := [(.aload_n 0, 1, 0, 0, 0, 0), (.getfield 41, 3, 4, 7, 0, 0), (.iconst (-1), 1, 0, 0, 0, -1)]
theorem sk_19_122 : segB 4 false prog_6_method_4_code 122 sg_19_122 = true := by decide +kernel
def sg_19_130 : List RI := [(.aload_n 0, 1, 0, 0, 0, 0), (.getfield 15, 3, 4, 0, 2, 0), (.getfield 84, 3, 9, 6, 2, 0), (.aload_n 0, 1, 0, 0, 0, 0), (.getfield 41, 3, 4, 7, 0, 0), (.iload_n 2, 1, 0, 0, 0, 0)]
theorem sk_19_130 : segB 4 false prog_6_method_4_code 130 sg_19_130 = true := by decide +kernel
def sg_19_143 : List RI := [(.aload_n 0, 1, 0, 0, 0, 0), (.iconst 1, 1, 0, 0, 0, 1), (.putfield 32, 3, 4, 4, 0, 0), (.iconst (-1), 1, 0, 0, 0, -1)]
theorem sk_19_143 : segB 4 false prog_6_method_4_code 143 sg_19_143 = true := by decide +kernel
theorem ck_19_9 : decode prog_6_method_4_code 9 = .ok (.if_icmp .ge 11, 3) ∧ lnkB 4 false 9 (.if_icmp .ge 11, 3, 20, 0, 0, 0) = true := by decide +kernel
theorem ck_19_17 : decode prog_6_method_4_code 17 = .ok (.if_icmp .lt 5, 3) ∧ lnkB 4 false 17 (.if_icmp .lt 5, 3, 22, 0, 0, 0) = true := by decide +kernel
theorem ck_19_21 : decode prog_6_method_4_code 21 = .ok (.ireturn, 1) ∧ lnkB 4 false 21 (.ireturn, 1, 0, 0, 0, 0) = true := by decide +kernel
theorem ca_19_55 : decode prog_6_method_4_code 55 = .ok (.iastore, 1) ∧ lnkB 4 false 55 (.iastore, 1, 0, 0, 0, 0) = true := by decide +kernel
theorem ca_19_68 : decode prog_6_method_4_code 68 = .ok (.iastore, 1) ∧ lnkB 4 false 68 (.iastore, 1, 0, 0, 0, 0) = true := by decide +kernel
theorem ca_19_78 : decode prog_6_method_4_code 78 = .ok (.iastore, 1) ∧ lnkB 4 false 78 (.iastore, 1, 0, 0, 0, 0) = true := by decide +kernel
theorem ca_19_88 : decode prog_6_method_4_code 88 = .ok (.iastore, 1) ∧ lnkB 4 false 88 (.iastore, 1, 0, 0, 0, 0) = true := by decide +kernel
theorem ca_19_98 : decode prog_6_method_4_code 98 = .ok (.iastore, 1) ∧ lnkB 4 false 98 (.iastore, 1, 0, 0, 0, 0) = true := by decide +kernel
theorem ca_19_121 : decode prog_6_method_4_code 121 = .ok (.iastore, 1) ∧ lnkB 4 false 121 (.iastore, 1, 0, 0, 0, 0) = true := by decide +kernel
theorem ck_19_127 : decode prog_6_method_4_code 127 = .ok (.if_icmp .eq 16, 3) ∧ lnkB 4 false 127 (.if_icmp .eq 16, 3, 143, 0, 0, 0) = true := by decide +kernel
theorem ca_19_142 : decode prog_6_method_4_code 142 = .ok (.iastore, 1) ∧ lnkB 4 false 142 (.iastore, 1, 0, 0, 0, 0) = true := by decide +kernel
theorem ck_19_149 : decode prog_6_method_4_code 149 = .ok (.ireturn, 1) ∧ lnkB 4 false 149 (.ireturn, 1, 0, 0, 0, 0) = true := by decide +kernel
abbrev RU_19 (d : Nat) (cp : Nat × Nat) (Post : Option Value → Sto → Prop) : PP := Runs (Ex d) prog_6_method_4_code 4 false 3 (some .int) none cp Post
theorem en_19 {d : Nat} {As : List Value} {S : Sto} {mc ms : Nat} {Post : Option Value → Sto → Prop} (hc : cats As ≤ 3) (h : RU_19 d (mc, ms) Post 0 (lv_args 0 As) [] S 0 0) : Ex (d + 1) 19 As S mc ms Post := ⟨by decide, hc, h⟩
def sg_20_0 : List RI := [(.aload_n 0, 1, 0, 0, 0, 0), (.getfield 15, 3, 4, 0, 2, 0), (.getfield 79, 3, 9, 4, 2, 0), (.iload_n 1, 1, 0, 0, 0, 0)]
theorem sk_20_0 : segB 4 false prog_6_method_5_code 0 sg_20_0 = true := by decide +kernel
def sg_20_12 : List RI := [(.iconst 0, 1, 0, 0, 0, 0)]
theorem sk_20_12 : segB 4 false prog_6_method_5_code 12 sg_20_12 = true := by decide +kernel
def sg_20_14 : List RI := [(.aload_n 0, 1, 0, 0, 0, 0), (.dup, 1, 0, 0, 0, 0), (.getfield 29, 3, 4, 3, 0, 0), (.iconst 1, 1, 0, 0, 0, 1), (.isub, 1, 0, 0, 0, 0), (.putfield 29, 3, 4, 3, 0, 0), (.aload_n 0, 1, 0, 0, 0, 0), (.aload_n 0, 1, 0, 0, 0, 0), (.getfield 29, 3, 4, 3, 0, 0)]
theorem sk_20_14 : segB 4 false prog_6_method_5_code 14 sg_20_14 = true := by decide +kernel
def sg_20_32 : List RI := [(.iconst 2, 1, 0, 0, 0, 2)]
theorem sk_20_32 : segB 4 false prog_6_method_5_code 32 sg_20_32 = true := by decide +kernel
def sg_20_36 : List RI := [(.iconst 1, 1, 0, 0, 0, 1)]
theorem sk_20_36 : segB 4 false prog_6_method_5_code 36 sg_20_36 = true := by decide +kernel
def sg_20_37 : List RI := [(.putfield 32, 3, 4, 4, 0, 0), (.iconst (-1), 1, 0, 0, 0, -1)]
theorem sk_20_37 : segB 4 false prog_6_method_5_code 37 sg_20_37 = true := by decide +kernel
theorem ca_20_8 : decode prog_6_method_5_code 8 = .ok (.iaload, 1) ∧ lnkB 4 false 8 (.iaload, 1, 0, 0, 0, 0) = true := by decide +kernel
theorem ck_20_9 : decode prog_6_method_5_code 9 = .ok (.ifCond .ne 5, 3) ∧ lnkB 4 false 9 (.ifCond .ne 5, 3, 14, 0, 0, 0) = true := by decide +kernel
theorem ck_20_13 : decode prog_6_method_5_code 13 = .ok (.ireturn, 1) ∧ lnkB 4 false 13 (.ireturn, 1, 0, 0, 0, 0) = true := by decide +kernel
theorem ck_20_29 : decode prog_6_method_5_code 29 = .ok (.ifCond .ne 7, 3) ∧ lnkB 4 false 29 (.ifCond .ne 7, 3, 36, 0, 0, 0) = true := by decide +kernel
theorem ck_20_33 : decode prog_6_method_5_code 33 = .ok (.goto 4, 3) ∧ lnkB 4 false 33 (.goto 4, 3, 37, 0, 0, 0) = true := by decide +kernel
theorem ck_20_41 : decode prog_6_method_5_code 41 = .ok (.ireturn, 1) ∧ lnkB 4 false 41 (.ireturn, 1, 0, 0, 0, 0) = true := by decide +kernel
abbrev RU_20 (d : Nat) (cp : Nat × Nat) (Post : Option Value → Sto → Prop) : PP := Runs (Ex d) prog_6_method_5_code 4 false 2 (some .int) none cp Post
theorem en_20 {d : Nat} {As : List Value} {S : Sto} {mc ms : Nat} {Post : Option Value → Sto → Prop} (hc : cats As ≤ 2) (h : RU_20 d (mc, ms) Post 0 (lv_args 0 As) [] S 0 0) : Ex (d + 1) 20 As S mc ms Post := ⟨by decide, hc, h⟩
def sg_21_0 : List RI := [(.aload_n 0, 1, 0, 0, 0, 0), (.getfield 15, 3, 4, 0, 2, 0), (.getfield 79, 3, 9, 4, 2, 0), (.iload_n 1, 1, 0, 0, 0, 0)]
theorem sk_21_0 : segB 4 false prog_6_method_6_code 0 sg_21_0 = true := by decide +kernel
def sg_21_9 : List RI := [(.bipush 6, 2, 0, 0, 0, 6)]
theorem sk_21_9 : segB 4 false prog_6_method_6_code 9 sg_21_9 = true := by decide +kernel
def sg_21_14 : List RI := [(.iconst 2, 1, 0, 0, 0, 2)]
theorem sk_21_14 : segB 4 false prog_6_method_6_code 14 sg_21_14 = true := by decide +kernel
def sg_21_16 : List RI := [(.iload_n 1, 1, 0, 0, 0, 0), (.bipush 6, 2, 0, 0, 0, 6), (.imul, 1, 0, 0, 0, 0), (.aload_n 0, 1, 0, 0, 0, 0), (.getfield 15, 3, 4, 0, 2, 0), (.getfield 79, 3, 9, 4, 2, 0), (.iload_n 1, 1, 0, 0, 0, 0)]
theorem sk_21_16 : segB 4 false prog_6_method_6_code 16 sg_21_16 = true := by decide +kernel
def sg_21_29 : List RI := [(.iadd, 1, 0, 0, 0, 0), (.istore_n 3, 1, 0, 0, 0, 0), (.aload_n 0, 1, 0, 0, 0, 0), (.getfield 15, 3, 4, 0, 2, 0), (.getfield 79, 3, 9, 4, 2, 0), (.iload_n 1, 1, 0, 0, 0, 0), (.dup2, 1, 0, 0, 0, 0)]
theorem sk_21_29 : segB 4 false prog_6_method_6_code 29 sg_21_29 = true := by decide +kernel
def sg_21_41 : List RI := [(.iconst 1, 1, 0, 0, 0, 1), (.iadd, 1, 0, 0, 0, 0)]
theorem sk_21_41 : segB 4 false prog_6_method_6_code 41 sg_21_41 = true := by decide +kernel
def sg_21_44 : List RI := [(.aload_n 0, 1, 0, 0, 0, 0), (.getfield 15, 3, 4, 0, 2, 0), (.getfield 87, 3, 9, 5, 2, 0), (.iload_n 3, 1, 0, 0, 0, 0), (.iload_n 2, 1, 0, 0, 0, 0)]
theorem sk_21_44 : segB 4 false prog_6_method_6_code 44 sg_21_44 = true := by decide +kernel
def sg_21_54 : List RI := [(.aload_n 0, 1, 0, 0, 0, 0), (.getfield 15, 3, 4, 0, 2, 0), (.getfield 84, 3, 9, 6, 2, 0), (.iload_n 3, 1, 0, 0, 0, 0), (.iconst (-1), 1, 0, 0, 0, -1)]
theorem sk_21_54 : segB 4 false prog_6_method_6_code 54 sg_21_54 = true := by decide +kernel
def sg_21_64 : List RI := [(.aload_n 0, 1, 0, 0, 0, 0), (.getfield 15, 3, 4, 0, 2, 0), (.getfield 70, 3, 9, 0, 2, 0), (.iload_n 1, 1, 0, 0, 0, 0)]
theorem sk_21_64 : segB 4 false prog_6_method_6_code 64 sg_21_64 = true := by decide +kernel
def sg_21_73 : List RI := [(.iconst 4, 1, 0, 0, 0, 4), (.imul, 1, 0, 0, 0, 0), (.iload_n 2, 1, 0, 0, 0, 0), (.iadd, 1, 0, 0, 0, 0), (.istore 4, 2, 0, 0, 0, 0), (.aload_n 0, 1, 0, 0, 0, 0), (.getfield 19, 3, 4, 1, 2, 0), (.getfield 90, 3, 6, 3, 2, 0), (.iload 4, 2, 0, 0, 0, 0)]
theorem sk_21_73 : segB 4 false prog_6_method_6_code 73 sg_21_73 = true := by decide +kernel
def sg_21_92 : List RI := [(.aload_n 0, 1, 0, 0, 0, 0), (.getfield 19, 3, 4, 1, 2, 0), (.getfield 90, 3, 6, 3, 2, 0), (.iload 4, 2, 0, 0, 0, 0)]
theorem sk_21_92 : segB 4 false prog_6_method_6_code 92 sg_21_92 = true := by decide +kernel
def sg_21_102 : List RI := [(.iconst 2, 1, 0, 0, 0, 2)]
theorem sk_21_102 : segB 4 false prog_6_method_6_code 102 sg_21_102 = true := by decide +kernel
def sg_21_106 : List RI := [(.iconst 1, 1, 0, 0, 0, 1)]
theorem sk_21_106 : segB 4 false prog_6_method_6_code 106 sg_21_106 = true := by decide +kernel
def sg_21_110 : List RI := [(.iconst 0, 1, 0, 0, 0, 0)]
theorem sk_21_110 : segB 4 false prog_6_method_6_code 110 sg_21_110 = true := by decide +kernel
def sg_21_111 : List RI := [(.istore 5, 2, 0, 0, 0, 0), (.aload_n 0, 1, 0, 0, 0, 0), (.aload_n 0, 1, 0, 0, 0, 0), (.getfield 19, 3, 4, 1, 2, 0), (.getfield 95, 3, 6, 4, 2, 0), (.iload 4, 2, 0, 0, 0, 0)]
theorem sk_21_111 : segB 4 false prog_6_method_6_code 111 sg_21_111 = true := by decide +kernel
def sg_21_124 : List RI := [(.putfield 35, 3, 4, 5, 0, 0), (.aload_n 0, 1, 0, 0, 0, 0), (.aload_n 0, 1, 0, 0, 0, 0), (.getfield 15, 3, 4, 0, 2, 0), (.getfield 73, 3, 9, 2, 2, 0), (.iload_n 1, 1, 0, 0, 0, 0)]
theorem sk_21_124 : segB 4 false prog_6_method_6_code 124 sg_21_124 = true := by decide +kernel
def sg_21_137 : List RI := [(.iload 5, 2, 0, 0, 0, 0)]
theorem sk_21_137 : segB 4 false prog_6_method_6_code 137 sg_21_137 = true := by decide +kernel
def sg_21_142 : List RI := [(.aload_n 0, 1, 0, 0, 0, 0), (.getfield 19, 3, 4, 1, 2, 0), (.getfield 98, 3, 6, 5, 2, 0), (.iload 4, 2, 0, 0, 0, 0)]
theorem sk_21_142 : segB 4 false prog_6_method_6_code 142 sg_21_142 = true := by decide +kernel
def sg_21_155 : List RI := [(.iconst 1, 1, 0, 0, 0, 1)]
theorem sk_21_155 : segB 4 false prog_6_method_6_code 155 sg_21_155 = true := by decide +kernel
def sg_21_156 : List RI := [(.imul, 1, 0, 0, 0, 0), (.putfield 38, 3, 4, 6, 0, 0), (.aload_n 0, 1, 0, 0, 0, 0), (.iload_n 3, 1, 0, 0, 0, 0), (.putfield 41, 3, 4, 7, 0, 0), (.aload_n 0, 1, 0, 0, 0, 0), (.iconst 0, 1, 0, 0, 0, 0), (.putfield 32, 3, 4, 4, 0, 0)]
theorem sk_21_156 : segB 4 false prog_6_method_6_code 156 sg_21_156 = true := by decide +kernel
def sg_21_170 : List RI := [(.iconst (-1), 1, 0, 0, 0, -1)]
theorem sk_21_170 : segB 4 false prog_6_method_6_code 170 sg_21_170 = true := by decide +kernel
theorem ca_21_8 : decode prog_6_method_6_code 8 = .ok (.iaload, 1) ∧ lnkB 4 false 8 (.iaload, 1, 0, 0, 0, 0) = true := by decide +kernel
theorem ck_21_11 : decode prog_6_method_6_code 11 = .ok (.if_icmp .lt 5, 3) ∧ lnkB 4 false 11 (.if_icmp .lt 5, 3, 16, 0, 0, 0) = true := by decide +kernel
theorem ck_21_15 : decode prog_6_method_6_code 15 = .ok (.ireturn, 1) ∧ lnkB 4 false 15 (.ireturn, 1, 0, 0, 0, 0) = true := by decide +kernel
theorem ca_21_28 : decode prog_6_method_6_code 28 = .ok (.iaload, 1) ∧ lnkB 4 false 28 (.iaload, 1, 0, 0, 0, 0) = true := by decide +kernel
theorem ca_21_40 : decode prog_6_method_6_code 40 = .ok (.iaload, 1) ∧ lnkB 4 false 40 (.iaload, 1, 0, 0, 0, 0) = true := by decide +kernel
theorem ca_21_43 : decode prog_6_method_6_code 43 = .ok (.iastore, 1) ∧ lnkB 4 false 43 (.iastore, 1, 0, 0, 0, 0) = true := by decide +kernel
theorem ca_21_53 : decode prog_6_method_6_code 53 = .ok (.iastore, 1) ∧ lnkB 4 false 53 (.iastore, 1, 0, 0, 0, 0) = true := by decide +kernel
theorem ca_21_63 : decode prog_6_method_6_code 63 = .ok (.iastore, 1) ∧ lnkB 4 false 63 (.iastore, 1, 0, 0, 0, 0) = true := by decide +kernel
theorem ca_21_72 : decode prog_6_method_6_code 72 = .ok (.iaload, 1) ∧ lnkB 4 false 72 (.iaload, 1, 0, 0, 0, 0) = true := by decide +kernel
theorem ca_21_88 : decode prog_6_method_6_code 88 = .ok (.iaload, 1) ∧ lnkB 4 false 88 (.iaload, 1, 0, 0, 0, 0) = true := by decide +kernel
theorem ck_21_89 : decode prog_6_method_6_code 89 = .ok (.ifCond .eq 81, 3) ∧ lnkB 4 false 89 (.ifCond .eq 81, 3, 170, 0, 0, 0) = true := by decide +kernel
theorem ca_21_101 : decode prog_6_method_6_code 101 = .ok (.iaload, 1) ∧ lnkB 4 false 101 (.iaload, 1, 0, 0, 0, 0) = true := by decide +kernel
theorem ck_21_103 : decode prog_6_method_6_code 103 = .ok (.if_icmp .ne 7, 3) ∧ lnkB 4 false 103 (.if_icmp .ne 7, 3, 110, 0, 0, 0) = true := by decide +kernel
theorem ck_21_107 : decode prog_6_method_6_code 107 = .ok (.goto 4, 3) ∧ lnkB 4 false 107 (.goto 4, 3, 111, 0, 0, 0) = true := by decide +kernel
theorem ca_21_123 : decode prog_6_method_6_code 123 = .ok (.iaload, 1) ∧ lnkB 4 false 123 (.iaload, 1, 0, 0, 0, 0) = true := by decide +kernel
theorem ca_21_136 : decode prog_6_method_6_code 136 = .ok (.iaload, 1) ∧ lnkB 4 false 136 (.iaload, 1, 0, 0, 0, 0) = true := by decide +kernel
theorem ck_21_139 : decode prog_6_method_6_code 139 = .ok (.ifCond .eq 16, 3) ∧ lnkB 4 false 139 (.ifCond .eq 16, 3, 155, 0, 0, 0) = true := by decide +kernel
theorem ca_21_151 : decode prog_6_method_6_code 151 = .ok (.iaload, 1) ∧ lnkB 4 false 151 (.iaload, 1, 0, 0, 0, 0) = true := by decide +kernel
theorem ck_21_152 : decode prog_6_method_6_code 152 = .ok (.goto 4, 3) ∧ lnkB 4 false 152 (.goto 4, 3, 156, 0, 0, 0) = true := by decide +kernel
theorem ck_21_171 : decode prog_6_method_6_code 171 = .ok (.ireturn, 1) ∧ lnkB 4 false 171 (.ireturn, 1, 0, 0, 0, 0) = true := by decide +kernel
abbrev RU_21 (d : Nat) (cp : Nat × Nat) (Post : Option Value → Sto → Prop) : PP := Runs (Ex d) prog_6_method_6_code 4 false 6 (some .int) none cp Post
theorem en_21 {d : Nat} {As : List Value} {S : Sto} {mc ms : Nat} {Post : Option Value → Sto → Prop} (hc : cats As ≤ 6) (h : RU_21 d (mc, ms) Post 0 (lv_args 0 As) [] S 0 0) : Ex (d + 1) 21 As S mc ms Post := ⟨by decide, hc, h⟩
def sg_22_0 : List RI := [(.aload_n 0, 1, 0, 0, 0, 0), (.invokespecial 3, 3, 0, 4, 0, 0), (.aload_n 0, 1, 0, 0, 0, 0), (.sipush 192, 3, 0, 0, 0, 192), (.newarray .int, 2, 13, 0, 0, 0), (.putfield 9, 3, 5, 0, 2, 0), (.aload_n 0, 1, 0, 0, 0, 0), (.sipush 192, 3, 0, 0, 0, 192), (.newarray .int, 2, 13, 0, 0, 0), (.putfield 15, 3, 5, 7, 2, 0), (.aload_n 0, 1, 0, 0, 0, 0), (.sipush 192, 3, 0, 0, 0, 192), (.newarray .int, 2, 13, 0, 0, 0), (.putfield 18, 3, 5, 8, 2, 0), (.aload_n 0, 1, 0, 0, 0, 0), (.iconst 5, 1, 0, 0, 0, 5), (.newarray .int, 2, 13, 0, 0, 0), (.putfield 21, 3, 5, 10, 2, 0), (.aload_n 0, 1, 0, 0, 0, 0), (.aload_n 1, 1, 0, 0, 0, 0), (.putfield 24, 3, 5, 2, 2, 0), (.aload_n 0, 1, 0, 0, 0, 0), (.aload_n 2, 1, 0, 0, 0, 0), (.putfield 28, 3, 5, 3, 2, 0), (.aload_n 0, 1, 0, 0, 0, 0), (.aload_n 3, 1, 0, 0, 0, 0), (.putfield 32, 3, 5, 4, 2, 0), (.aload_n 0, 1, 0, 0, 0, 0), (.aload 4, 2, 0, 0, 0, 0), (.putfield 36, 3, 5, 5, 2, 0), (.aload_n 0, 1, 0, 0, 0, 0), (.aload 5, 2, 0, 0, 0, 0), (.putfield 40, 3, 5, 6, 2, 0)]
theorem sk_22_0 : segB 5 true prog_7_method_1_code 0 sg_22_0 = true := by decide +kernel
theorem ck_22_65 : decode prog_7_method_1_code 65 = .ok (.return_, 1) ∧ lnkB 5 true 65 (.return_, 1, 0, 0, 0, 0) = true := by decide +kernel
abbrev RU_22 (d : Nat) (cp : Nat × Nat) (Post : Option Value → Sto → Prop) : PP := Runs (Ex d) prog_7_method_1_code 5 true 6 none none cp Post
theorem en_22 {d : Nat} {As : List Value} {S : Sto} {mc ms : Nat} {Post : Option Value → Sto → Prop} (hc : cats As ≤ 6) (h : RU_22 d (mc, ms) Post 0 (lv_args 0 As) [] S 0 0) : Ex (d + 1) 22 As S mc ms Post := ⟨by decide, hc, h⟩
def sg_23_0 : List RI := [(.aload_n 0, 1, 0, 0, 0, 0)]
theorem sk_23_0 : segB 5 false prog_7_method_2_code 0 sg_23_0 = true := by decide +kernel
def sg_23_4 : List RI := [(.aload_n 0, 1, 0, 0, 0, 0), (.iload_n 3, 1, 0, 0, 0, 0), (.putfield 47, 3, 5, 11, 0, 0), (.aload_n 0, 1, 0, 0, 0, 0), (.iconst 0, 1, 0, 0, 0, 0), (.iload_n 1, 1, 0, 0, 0, 0), (.iconst 1, 1, 0, 0, 0, 1)]
theorem sk_23_4 : segB 5 false prog_7_method_2_code 4 sg_23_4 = true := by decide +kernel
def sg_23_16 : List RI := [(.iconst 0, 1, 0, 0, 0, 0), (.istore 4, 2, 0, 0, 0, 0)]
theorem sk_23_16 : segB 5 false prog_7_method_2_code 16 sg_23_16 = true := by decide +kernel
def sg_23_19 : List RI := [(.iload 4, 2, 0, 0, 0, 0), (.iload_n 2, 1, 0, 0, 0, 0)]
theorem sk_23_19 : segB 5 false prog_7_method_2_code 19 sg_23_19 = true := by decide +kernel
def sg_23_25 : List RI := [(.aload_n 0, 1, 0, 0, 0, 0)]
theorem sk_23_25 : segB 5 false prog_7_method_2_code 25 sg_23_25 = true := by decide +kernel
def sg_23_29 : List RI := [(.aload_n 0, 1, 0, 0, 0, 0)]
theorem sk_23_29 : segB 5 false prog_7_method_2_code 29 sg_23_29 = true := by decide +kernel
def sg_23_37 : List RI := [(.aload_n 0, 1, 0, 0, 0, 0), (.getfield 24, 3, 5, 2, 2, 0), (.iconst 1, 1, 0, 0, 0, 1)]
theorem sk_23_37 : segB 5 false prog_7_method_2_code 37 sg_23_37 = true := by decide +kernel
def sg_23_45 : List RI := [(.aload_n 0, 1, 0, 0, 0, 0)]
theorem sk_23_45 : segB 5 false prog_7_method_2_code 45 sg_23_45 = true := by decide +kernel
def sg_23_49 : List RI := [(.iinc 4 1, 3, 0, 0, 0, 1)]
theorem sk_23_49 : segB 5 false prog_7_method_2_code 49 sg_23_49 = true := by decide +kernel
def sg_23_55 : List RI := [(.aload_n 0, 1, 0, 0, 0, 0)]
theorem sk_23_55 : segB 5 false prog_7_method_2_code 55 sg_23_55 = true := by decide +kernel
theorem ck_23_1 : decode prog_7_method_2_code 1 = .ok (.invokevirtual 44, 3) ∧ lnkB 5 false 1 (.invokevirtual 44, 3, 24, 0, 0, 0) = true := by decide +kernel
theorem ck_23_13 : decode prog_7_method_2_code 13 = .ok (.invokevirtual 51, 3) ∧ lnkB 5 false 13 (.invokevirtual 51, 3, 25, 0, 0, 0) = true := by decide +kernel
theorem ck_23_22 : decode prog_7_method_2_code 22 = .ok (.if_icmp .ge 33, 3) ∧ lnkB 5 false 22 (.if_icmp .ge 33, 3, 55, 0, 0, 0) = true := by decide +kernel
theorem ck_23_26 : decode prog_7_method_2_code 26 = .ok (.invokevirtual 55, 3) ∧ lnkB 5 false 26 (.invokevirtual 55, 3, 28, 0, 0, 0) = true := by decide +kernel
theorem ck_23_30 : decode prog_7_method_2_code 30 = .ok (.invokevirtual 58, 3) ∧ lnkB 5 false 30 (.invokevirtual 58, 3, 32, 0, 0, 0) = true := by decide +kernel
theorem ck_23_33 : decode prog_7_method_2_code 33 = .ok (.ifCond .eq 4, 3) ∧ lnkB 5 false 33 (.ifCond .eq 4, 3, 37, 0, 0, 0) = true := by decide +kernel
theorem ck_23_36 : decode prog_7_method_2_code 36 = .ok (.return_, 1) ∧ lnkB 5 false 36 (.return_, 1, 0, 0, 0, 0) = true := by decide +kernel
theorem ck_23_42 : decode prog_7_method_2_code 42 = .ok (.invokevirtual 62, 3) ∧ lnkB 5 false 42 (.invokevirtual 62, 3, 7, 0, 0, 0) = true := by decide +kernel
theorem ck_23_46 : decode prog_7_method_2_code 46 = .ok (.invokevirtual 68, 3) ∧ lnkB 5 false 46 (.invokevirtual 68, 3, 33, 0, 0, 0) = true := by decide +kernel
theorem ck_23_52 : decode prog_7_method_2_code 52 = .ok (.goto (-33), 3) ∧ lnkB 5 false 52 (.goto (-33), 3, 19, 0, 0, 0) = true := by decide +kernel
theorem ck_23_56 : decode prog_7_method_2_code 56 = .ok (.invokevirtual 71, 3) ∧ lnkB 5 false 56 (.invokevirtual 71, 3, 36, 0, 0, 0) = true := by decide +kernel
theorem ck_23_59 : decode prog_7_method_2_code 59 = .ok (.return_, 1) ∧ lnkB 5 false 59 (.return_, 1, 0, 0, 0, 0) = true := by decide +kernel
abbrev RU_23 (d : Nat) (cp : Nat × Nat) (Post : Option Value → Sto → Prop) : PP := Runs (Ex d) prog_7_method_2_code 5 false 5 none none cp Post
theorem en_23 {d : Nat} {As : List Value} {S : Sto} {mc ms : Nat} {Post : Option Value → Sto → Prop} (hc : cats As ≤ 5) (h : RU_23 d (mc, ms) Post 0 (lv_args 0 As) [] S 0 0) : Ex (d + 1) 23 As S mc ms Post := ⟨by decide, hc, h⟩
def sg_24_0 : List RI := [(.aload_n 0, 1, 0, 0, 0, 0), (.getfield 9, 3, 5, 0, 2, 0), (.iconst 0, 1, 0, 0, 0, 0)]
theorem sk_24_0 : segB 5 false prog_7_method_4_code 0 sg_24_0 = true := by decide +kernel
def sg_24_8 : List RI := [(.aload_n 0, 1, 0, 0, 0, 0), (.getfield 15, 3, 5, 7, 2, 0), (.iconst 0, 1, 0, 0, 0, 0)]
theorem sk_24_8 : segB 5 false prog_7_method_4_code 8 sg_24_8 = true := by decide +kernel
def sg_24_16 : List RI := [(.aload_n 0, 1, 0, 0, 0, 0), (.getfield 21, 3, 5, 10, 2, 0), (.iconst 0, 1, 0, 0, 0, 0)]
theorem sk_24_16 : segB 5 false prog_7_method_4_code 16 sg_24_16 = true := by decide +kernel
def sg_24_24 : List RI := [(.aload_n 0, 1, 0, 0, 0, 0), (.iconst 0, 1, 0, 0, 0, 0), (.putfield 84, 3, 5, 1, 0, 0), (.aload_n 0, 1, 0, 0, 0, 0), (.iconst 0, 1, 0, 0, 0, 0), (.putfield 87, 3, 5, 9, 0, 0), (.aload_n 0, 1, 0, 0, 0, 0), (.getfield 40, 3, 5, 6, 2, 0)]
theorem sk_24_24 : segB 5 false prog_7_method_4_code 24 sg_24_24 = true := by decide +kernel
theorem ck_24_5 : decode prog_7_method_4_code 5 = .ok (.invokestatic 78, 3) ∧ lnkB 5 false 5 (.invokestatic 78, 3, 130, 0, 0, 0) = true := by decide +kernel
theorem ck_24_13 : decode prog_7_method_4_code 13 = .ok (.invokestatic 78, 3) ∧ lnkB 5 false 13 (.invokestatic 78, 3, 130, 0, 0, 0) = true := by decide +kernel
theorem ck_24_21 : decode prog_7_method_4_code 21 = .ok (.invokestatic 78, 3) ∧ lnkB 5 false 21 (.invokestatic 78, 3, 130, 0, 0, 0) = true := by decide +kernel
theorem ck_24_38 : decode prog_7_method_4_code 38 = .ok (.invokevirtual 90, 3) ∧ lnkB 5 false 38 (.invokevirtual 90, 3, 1, 0, 0, 0) = true := by decide +kernel
theorem ck_24_41 : decode prog_7_method_4_code 41 = .ok (.return_, 1) ∧ lnkB 5 false 41 (.return_, 1, 0, 0, 0, 0) = true := by decide +kernel
abbrev RU_24 (d : Nat) (cp : Nat × Nat) (Post : Option Value → Sto → Prop) : PP := Runs (Ex d) prog_7_method_4_code 5 false 1 none none cp Post
theorem en_24 {d : Nat} {As : List Value} {S : Sto} {mc ms : Nat} {Post : Option Value → Sto → Prop} (hc : cats As ≤ 1) (h : RU_24 d (mc, ms) Post 0 (lv_args 0 As) [] S 0 0) : Ex (d + 1) 24 As S mc ms Post := ⟨by decide, hc, h⟩
def sg_25_0 : List RI := [(.iload_n 3, 1, 0, 0, 0, 0), (.iconst 5, 1, 0, 0, 0, 5)]
theorem sk_25_0 : segB 5 false prog_7_method_6_code 0 sg_25_0 = true := by decide +kernel
def sg_25_5 : List RI := [(.iload_n 1, 1, 0, 0, 0, 0), (.iconst (-1), 1, 0, 0, 0, -1)]
theorem sk_25_5 : segB 5 false prog_7_method_6_code 5 sg_25_5 = true := by decide +kernel
def sg_25_11 : List RI := [(.iconst 1, 1, 0, 0, 0, 1), (.iload_n 1, 1, 0, 0, 0, 0), (.ishl, 1, 0, 0, 0, 0), (.istore 4, 2, 0, 0, 0, 0), (.aload_n 0, 1, 0, 0, 0, 0), (.getfield 15, 3, 5, 7, 2, 0), (.iload_n 2, 1, 0, 0, 0, 0)]
theorem sk_25_11 : segB 5 false prog_7_method_6_code 11 sg_25_11 = true := by decide +kernel
def sg_25_22 : List RI := [(.iload 4, 2, 0, 0, 0, 0), (.iand, 1, 0, 0, 0, 0)]
theorem sk_25_22 : segB 5 false prog_7_method_6_code 22 sg_25_22 = true := by decide +kernel
def sg_25_29 : List RI := [(.aload_n 0, 1, 0, 0, 0, 0), (.getfield 15, 3, 5, 7, 2, 0), (.iload_n 2, 1, 0, 0, 0, 0), (.dup2, 1, 0, 0, 0, 0)]
theorem sk_25_29 : segB 5 false prog_7_method_6_code 29 sg_25_29 = true := by decide +kernel
def sg_25_36 : List RI := [(.iload 4, 2, 0, 0, 0, 0), (.ior, 1, 0, 0, 0, 0)]
theorem sk_25_36 : segB 5 false prog_7_method_6_code 36 sg_25_36 = true := by decide +kernel
def sg_25_40 : List RI := [(.aload_n 0, 1, 0, 0, 0, 0), (.getfield 9, 3, 5, 0, 2, 0), (.iload_n 2, 1, 0, 0, 0, 0)]
theorem sk_25_40 : segB 5 false prog_7_method_6_code 40 sg_25_40 = true := by decide +kernel
def sg_25_49 : List RI := [(.aload_n 0, 1, 0, 0, 0, 0), (.iload_n 2, 1, 0, 0, 0, 0)]
theorem sk_25_49 : segB 5 false prog_7_method_6_code 49 sg_25_49 = true := by decide +kernel
def sg_25_54 : List RI := [(.aload_n 0, 1, 0, 0, 0, 0), (.getfield 9, 3, 5, 0, 2, 0), (.iload_n 2, 1, 0, 0, 0, 0)]
theorem sk_25_54 : segB 5 false prog_7_method_6_code 54 sg_25_54 = true := by decide +kernel
def sg_25_60 : List RI := [(.bipush 10, 2, 0, 0, 0, 10)]
theorem sk_25_60 : segB 5 false prog_7_method_6_code 60 sg_25_60 = true := by decide +kernel
def sg_25_65 : List RI := [(.aload_n 0, 1, 0, 0, 0, 0), (.iload_n 1, 1, 0, 0, 0, 0), (.iload_n 2, 1, 0, 0, 0, 0), (.iload_n 3, 1, 0, 0, 0, 0)]
theorem sk_25_65 : segB 5 false prog_7_method_6_code 65 sg_25_65 = true := by decide +kernel
theorem ck_25_2 : decode prog_7_method_6_code 2 = .ok (.if_icmp .gt 8, 3) ∧ lnkB 5 false 2 (.if_icmp .gt 8, 3, 10, 0, 0, 0) = true := by decide +kernel
theorem ck_25_7 : decode prog_7_method_6_code 7 = .ok (.if_icmp .ne 4, 3) ∧ lnkB 5 false 7 (.if_icmp .ne 4, 3, 11, 0, 0, 0) = true := by decide +kernel
theorem ck_25_10 : decode prog_7_method_6_code 10 = .ok (.return_, 1) ∧ lnkB 5 false 10 (.return_, 1, 0, 0, 0, 0) = true := by decide +kernel
theorem ca_25_21 : decode prog_7_method_6_code 21 = .ok (.iaload, 1) ∧ lnkB 5 false 21 (.iaload, 1, 0, 0, 0, 0) = true := by decide +kernel
theorem ck_25_25 : decode prog_7_method_6_code 25 = .ok (.ifCond .eq 4, 3) ∧ lnkB 5 false 25 (.ifCond .eq 4, 3, 29, 0, 0, 0) = true := by decide +kernel
theorem ck_25_28 : decode prog_7_method_6_code 28 = .ok (.return_, 1) ∧ lnkB 5 false 28 (.return_, 1, 0, 0, 0, 0) = true := by decide +kernel
theorem ca_25_35 : decode prog_7_method_6_code 35 = .ok (.iaload, 1) ∧ lnkB 5 false 35 (.iaload, 1, 0, 0, 0, 0) = true := by decide +kernel
theorem ca_25_39 : decode prog_7_method_6_code 39 = .ok (.iastore, 1) ∧ lnkB 5 false 39 (.iastore, 1, 0, 0, 0, 0) = true := by decide +kernel
theorem ca_25_45 : decode prog_7_method_6_code 45 = .ok (.iaload, 1) ∧ lnkB 5 false 45 (.iaload, 1, 0, 0, 0, 0) = true := by decide +kernel
theorem ck_25_46 : decode prog_7_method_6_code 46 = .ok (.ifCond .ne 8, 3) ∧ lnkB 5 false 46 (.ifCond .ne 8, 3, 54, 0, 0, 0) = true := by decide +kernel
theorem ck_25_51 : decode prog_7_method_6_code 51 = .ok (.invokevirtual 99, 3) ∧ lnkB 5 false 51 (.invokevirtual 99, 3, 26, 0, 0, 0) = true := by decide +kernel
theorem ca_25_59 : decode prog_7_method_6_code 59 = .ok (.iaload, 1) ∧ lnkB 5 false 59 (.iaload, 1, 0, 0, 0, 0) = true := by decide +kernel
theorem ck_25_62 : decode prog_7_method_6_code 62 = .ok (.if_icmp .ne 10, 3) ∧ lnkB 5 false 62 (.if_icmp .ne 10, 3, 72, 0, 0, 0) = true := by decide +kernel
theorem ck_25_69 : decode prog_7_method_6_code 69 = .ok (.invokevirtual 102, 3) ∧ lnkB 5 false 69 (.invokevirtual 102, 3, 27, 0, 0, 0) = true := by decide +kernel
theorem ck_25_72 : decode prog_7_method_6_code 72 = .ok (.return_, 1) ∧ lnkB 5 false 72 (.return_, 1, 0, 0, 0, 0) = true := by decide +kernel
abbrev RU_25 (d : Nat) (cp : Nat × Nat) (Post : Option Value → Sto → Prop) : PP := Runs (Ex d) prog_7_method_6_code 5 false 5 none none cp Post
theorem en_25 {d : Nat} {As : List Value} {S : Sto} {mc ms : Nat} {Post : Option Value → Sto → Prop} (hc : cats As ≤ 5) (h : RU_25 d (mc, ms) Post 0 (lv_args 0 As) [] S 0 0) : Ex (d + 1) 25 As S mc ms Post := ⟨by decide, hc, h⟩
def sg_26_0 : List RI := [(.iload_n 1, 1, 0, 0, 0, 0), (.bipush 32, 2, 0, 0, 0, 32), (.idiv, 1, 0, 0, 0, 0), (.istore_n 2, 1, 0, 0, 0, 0), (.aload_n 0, 1, 0, 0, 0, 0), (.getfield 47, 3, 5, 11, 0, 0), (.iload_n 2, 1, 0, 0, 0, 0), (.ishr, 1, 0, 0, 0, 0), (.iconst 1, 1, 0, 0, 0, 1), (.iand, 1, 0, 0, 0, 0)]
theorem sk_26_0 : segB 5 false prog_7_method_8_code 0 sg_26_0 = true := by decide +kernel
def sg_26_16 : List RI := [(.aload_n 0, 1, 0, 0, 0, 0), (.getfield 9, 3, 5, 0, 2, 0), (.iload_n 1, 1, 0, 0, 0, 0), (.iconst 1, 1, 0, 0, 0, 1)]
theorem sk_26_16 : segB 5 false prog_7_method_8_code 16 sg_26_16 = true := by decide +kernel
def sg_26_26 : List RI := [(.aload_n 0, 1, 0, 0, 0, 0), (.getfield 32, 3, 5, 4, 2, 0), (.getfield 126, 3, 6, 8, 2, 0), (.iload_n 1, 1, 0, 0, 0, 0)]
theorem sk_26_26 : segB 5 false prog_7_method_8_code 26 sg_26_26 = true := by decide +kernel
def sg_26_35 : List RI := [(.aload_n 0, 1, 0, 0, 0, 0), (.getfield 24, 3, 5, 2, 2, 0), (.getfield 129, 3, 1, 4, 0, 0)]
theorem sk_26_35 : segB 5 false prog_7_method_8_code 35 sg_26_35 = true := by decide +kernel
def sg_26_45 : List RI := [(.aload_n 0, 1, 0, 0, 0, 0), (.getfield 9, 3, 5, 0, 2, 0), (.iload_n 1, 1, 0, 0, 0, 0), (.bipush 10, 2, 0, 0, 0, 10)]
theorem sk_26_45 : segB 5 false prog_7_method_8_code 45 sg_26_45 = true := by decide +kernel
def sg_26_56 : List RI := [(.aload_n 0, 1, 0, 0, 0, 0), (.getfield 84, 3, 5, 1, 0, 0), (.sipush 192, 3, 0, 0, 0, 192)]
theorem sk_26_56 : segB 5 false prog_7_method_8_code 56 sg_26_56 = true := by decide +kernel
def sg_26_66 : List RI := [(.aload_n 0, 1, 0, 0, 0, 0), (.getfield 9, 3, 5, 0, 2, 0), (.iload_n 1, 1, 0, 0, 0, 0), (.bipush 11, 2, 0, 0, 0, 11)]
theorem sk_26_66 : segB 5 false prog_7_method_8_code 66 sg_26_66 = true := by decide +kernel
def sg_26_74 : List RI := [(.aload_n 0, 1, 0, 0, 0, 0), (.getfield 18, 3, 5, 8, 2, 0), (.aload_n 0, 1, 0, 0, 0, 0), (.getfield 84, 3, 5, 1, 0, 0), (.iload_n 1, 1, 0, 0, 0, 0)]
theorem sk_26_74 : segB 5 false prog_7_method_8_code 74 sg_26_74 = true := by decide +kernel
def sg_26_84 : List RI := [(.aload_n 0, 1, 0, 0, 0, 0), (.dup, 1, 0, 0, 0, 0), (.getfield 84, 3, 5, 1, 0, 0), (.iconst 1, 1, 0, 0, 0, 1), (.iadd, 1, 0, 0, 0, 0), (.putfield 84, 3, 5, 1, 0, 0), (.aload_n 0, 1, 0, 0, 0, 0), (.getfield 21, 3, 5, 10, 2, 0), (.aload_n 0, 1, 0, 0, 0, 0), (.getfield 32, 3, 5, 4, 2, 0), (.getfield 132, 3, 6, 0, 2, 0), (.iload_n 2, 1, 0, 0, 0, 0)]
theorem sk_26_84 : segB 5 false prog_7_method_8_code 84 sg_26_84 = true := by decide +kernel
def sg_26_107 : List RI := [(.dup2, 1, 0, 0, 0, 0)]
theorem sk_26_107 : segB 5 false prog_7_method_8_code 107 sg_26_107 = true := by decide +kernel
def sg_26_109 : List RI := [(.iconst 1, 1, 0, 0, 0, 1), (.iadd, 1, 0, 0, 0, 0)]
theorem sk_26_109 : segB 5 false prog_7_method_8_code 109 sg_26_109 = true := by decide +kernel
theorem ck_26_13 : decode prog_7_method_8_code 13 = .ok (.ifCond .ne 13, 3) ∧ lnkB 5 false 13 (.ifCond .ne 13, 3, 26, 0, 0, 0) = true := by decide +kernel
theorem ca_26_22 : decode prog_7_method_8_code 22 = .ok (.iastore, 1) ∧ lnkB 5 false 22 (.iastore, 1, 0, 0, 0, 0) = true := by decide +kernel
theorem ck_26_23 : decode prog_7_method_8_code 23 = .ok (.goto 89, 3) ∧ lnkB 5 false 23 (.goto 89, 3, 112, 0, 0, 0) = true := by decide +kernel
theorem ca_26_34 : decode prog_7_method_8_code 34 = .ok (.iaload, 1) ∧ lnkB 5 false 34 (.iaload, 1, 0, 0, 0, 0) = true := by decide +kernel
theorem ck_26_42 : decode prog_7_method_8_code 42 = .ok (.if_icmp .le 14, 3) ∧ lnkB 5 false 42 (.if_icmp .le 14, 3, 56, 0, 0, 0) = true := by decide +kernel
theorem ca_26_52 : decode prog_7_method_8_code 52 = .ok (.iastore, 1) ∧ lnkB 5 false 52 (.iastore, 1, 0, 0, 0, 0) = true := by decide +kernel
theorem ck_26_53 : decode prog_7_method_8_code 53 = .ok (.goto 59, 3) ∧ lnkB 5 false 53 (.goto 59, 3, 112, 0, 0, 0) = true := by decide +kernel
theorem ck_26_63 : decode prog_7_method_8_code 63 = .ok (.if_icmp .ge 49, 3) ∧ lnkB 5 false 63 (.if_icmp .ge 49, 3, 112, 0, 0, 0) = true := by decide +kernel
theorem ca_26_73 : decode prog_7_method_8_code 73 = .ok (.iastore, 1) ∧ lnkB 5 false 73 (.iastore, 1, 0, 0, 0, 0) = true := by decide +kernel
theorem ca_26_83 : decode prog_7_method_8_code 83 = .ok (.iastore, 1) ∧ lnkB 5 false 83 (.iastore, 1, 0, 0, 0, 0) = true := by decide +kernel
theorem ca_26_106 : decode prog_7_method_8_code 106 = .ok (.iaload, 1) ∧ lnkB 5 false 106 (.iaload, 1, 0, 0, 0, 0) = true := by decide +kernel
theorem ca_26_108 : decode prog_7_method_8_code 108 = .ok (.iaload, 1) ∧ lnkB 5 false 108 (.iaload, 1, 0, 0, 0, 0) = true := by decide +kernel
theorem ca_26_111 : decode prog_7_method_8_code 111 = .ok (.iastore, 1) ∧ lnkB 5 false 111 (.iastore, 1, 0, 0, 0, 0) = true := by decide +kernel
theorem ck_26_112 : decode prog_7_method_8_code 112 = .ok (.return_, 1) ∧ lnkB 5 false 112 (.return_, 1, 0, 0, 0, 0) = true := by decide +kernel
abbrev RU_26 (d : Nat) (cp : Nat × Nat) (Post : Option Value → Sto → Prop) : PP := Runs (Ex d) prog_7_method_8_code 5 false 3 none none cp Post
theorem en_26 {d : Nat} {As : List Value} {S : Sto} {mc ms : Nat} {Post : Option Value → Sto → Prop} (hc : cats As ≤ 3) (h : RU_26 d (mc, ms) Post 0 (lv_args 0 As) [] S 0 0) : Ex (d + 1) 26 As S mc ms Post := ⟨by decide, hc, h⟩
def sg_27_0 : List RI := [(.iconst 0, 1, 0, 0, 0, 0), (.istore 4, 2, 0, 0, 0, 0)]
theorem sk_27_0 : segB 5 false prog_7_method_7_code 0 sg_27_0 = true := by decide +kernel
def sg_27_3 : List RI := [(.iload 4, 2, 0, 0, 0, 0), (.aload_n 0, 1, 0, 0, 0, 0), (.getfield 36, 3, 5, 5, 2, 0), (.getfield 105, 3, 9, 4, 2, 0), (.iload_n 1, 1, 0, 0, 0, 0)]
theorem sk_27_3 : segB 5 false prog_7_method_7_code 3 sg_27_3 = true := by decide +kernel
def sg_27_17 : List RI := [(.iload_n 1, 1, 0, 0, 0, 0), (.bipush 6, 2, 0, 0, 0, 6), (.imul, 1, 0, 0, 0, 0), (.iload 4, 2, 0, 0, 0, 0), (.iadd, 1, 0, 0, 0, 0), (.istore 5, 2, 0, 0, 0, 0), (.aload_n 0, 1, 0, 0, 0, 0), (.getfield 32, 3, 5, 4, 2, 0), (.iload_n 2, 1, 0, 0, 0, 0), (.aload_n 0, 1, 0, 0, 0, 0), (.getfield 36, 3, 5, 5, 2, 0), (.getfield 110, 3, 9, 5, 2, 0), (.iload 5, 2, 0, 0, 0, 0)]
theorem sk_27_17 : segB 5 false prog_7_method_7_code 17 sg_27_17 = true := by decide +kernel
def sg_27_44 : List RI := [(.istore 6, 2, 0, 0, 0, 0), (.iconst 0, 1, 0, 0, 0, 0), (.istore 7, 2, 0, 0, 0, 0)]
theorem sk_27_44 : segB 5 false prog_7_method_7_code 44 sg_27_44 = true := by decide +kernel
def sg_27_49 : List RI := [(.iload 7, 2, 0, 0, 0, 0), (.iload 6, 2, 0, 0, 0, 0)]
theorem sk_27_49 : segB 5 false prog_7_method_7_code 49 sg_27_49 = true := by decide +kernel
def sg_27_56 : List RI := [(.aload_n 0, 1, 0, 0, 0, 0), (.aload_n 0, 1, 0, 0, 0, 0), (.getfield 36, 3, 5, 5, 2, 0), (.getfield 119, 3, 9, 6, 2, 0), (.iload 5, 2, 0, 0, 0, 0)]
theorem sk_27_56 : segB 5 false prog_7_method_7_code 56 sg_27_56 = true := by decide +kernel
def sg_27_67 : List RI := [(.aload_n 0, 1, 0, 0, 0, 0), (.getfield 32, 3, 5, 4, 2, 0), (.iload_n 2, 1, 0, 0, 0, 0), (.aload_n 0, 1, 0, 0, 0, 0), (.getfield 36, 3, 5, 5, 2, 0), (.getfield 110, 3, 9, 5, 2, 0), (.iload 5, 2, 0, 0, 0, 0)]
theorem sk_27_67 : segB 5 false prog_7_method_7_code 67 sg_27_67 = true := by decide +kernel
def sg_27_82 : List RI := [(.iload 7, 2, 0, 0, 0, 0)]
theorem sk_27_82 : segB 5 false prog_7_method_7_code 82 sg_27_82 = true := by decide +kernel
def sg_27_87 : List RI := [(.iload_n 3, 1, 0, 0, 0, 0), (.iconst 1, 1, 0, 0, 0, 1), (.iadd, 1, 0, 0, 0, 0)]
theorem sk_27_87 : segB 5 false prog_7_method_7_code 87 sg_27_87 = true := by decide +kernel
def sg_27_93 : List RI := [(.iinc 7 1, 3, 0, 0, 0, 1)]
theorem sk_27_93 : segB 5 false prog_7_method_7_code 93 sg_27_93 = true := by decide +kernel
def sg_27_99 : List RI := [(.iinc 4 1, 3, 0, 0, 0, 1)]
theorem sk_27_99 : segB 5 false prog_7_method_7_code 99 sg_27_99 = true := by decide +kernel
theorem ca_27_13 : decode prog_7_method_7_code 13 = .ok (.iaload, 1) ∧ lnkB 5 false 13 (.iaload, 1, 0, 0, 0, 0) = true := by decide +kernel
theorem ck_27_14 : decode prog_7_method_7_code 14 = .ok (.if_icmp .ge 91, 3) ∧ lnkB 5 false 14 (.if_icmp .ge 91, 3, 105, 0, 0, 0) = true := by decide +kernel
theorem ca_27_40 : decode prog_7_method_7_code 40 = .ok (.iaload, 1) ∧ lnkB 5 false 40 (.iaload, 1, 0, 0, 0, 0) = true := by decide +kernel
theorem ck_27_41 : decode prog_7_method_7_code 41 = .ok (.invokevirtual 113, 3) ∧ lnkB 5 false 41 (.invokevirtual 113, 3, 39, 0, 0, 0) = true := by decide +kernel
theorem ck_27_53 : decode prog_7_method_7_code 53 = .ok (.if_icmp .ge 46, 3) ∧ lnkB 5 false 53 (.if_icmp .ge 46, 3, 99, 0, 0, 0) = true := by decide +kernel
theorem ca_27_66 : decode prog_7_method_7_code 66 = .ok (.iaload, 1) ∧ lnkB 5 false 66 (.iaload, 1, 0, 0, 0, 0) = true := by decide +kernel
theorem ca_27_81 : decode prog_7_method_7_code 81 = .ok (.iaload, 1) ∧ lnkB 5 false 81 (.iaload, 1, 0, 0, 0, 0) = true := by decide +kernel
theorem ck_27_84 : decode prog_7_method_7_code 84 = .ok (.invokevirtual 122, 3) ∧ lnkB 5 false 84 (.invokevirtual 122, 3, 41, 0, 0, 0) = true := by decide +kernel
theorem ck_27_90 : decode prog_7_method_7_code 90 = .ok (.invokevirtual 51, 3) ∧ lnkB 5 false 90 (.invokevirtual 51, 3, 25, 0, 0, 0) = true := by decide +kernel
theorem ck_27_96 : decode prog_7_method_7_code 96 = .ok (.goto (-47), 3) ∧ lnkB 5 false 96 (.goto (-47), 3, 49, 0, 0, 0) = true := by decide +kernel
theorem ck_27_102 : decode prog_7_method_7_code 102 = .ok (.goto (-99), 3) ∧ lnkB 5 false 102 (.goto (-99), 3, 3, 0, 0, 0) = true := by decide +kernel
theorem ck_27_105 : decode prog_7_method_7_code 105 = .ok (.return_, 1) ∧ lnkB 5 false 105 (.return_, 1, 0, 0, 0, 0) = true := by decide +kernel
abbrev RU_27 (d : Nat) (cp : Nat × Nat) (Post : Option Value → Sto → Prop) : PP := Runs (Ex d) prog_7_method_7_code 5 false 8 none none cp Post
theorem en_27 {d : Nat} {As : List Value} {S : Sto} {mc ms : Nat} {Post : Option Value → Sto → Prop} (hc : cats As ≤ 8) (h : RU_27 d (mc, ms) Post 0 (lv_args 0 As) [] S 0 0) : Ex (d + 1) 27 As S mc ms Post := ⟨by decide, hc, h⟩
def sg_28_0 : List RI := [(.iconst 0, 1, 0, 0, 0, 0), (.istore_n 1, 1, 0, 0, 0, 0)]
theorem sk_28_0 : segB 5 false prog_7_method_12_code 0 sg_28_0 = true := by decide +kernel
def sg_28_2 : List RI := [(.iload_n 1, 1, 0, 0, 0, 0), (.iconst 5, 1, 0, 0, 0, 5)]
theorem sk_28_2 : segB 5 false prog_7_method_12_code 2 sg_28_2 = true := by decide +kernel
def sg_28_7 : List RI := [(.aload_n 0, 1, 0, 0, 0, 0), (.getfield 21, 3, 5, 10, 2, 0), (.iload_n 1, 1, 0, 0, 0, 0)]
theorem sk_28_7 : segB 5 false prog_7_method_12_code 7 sg_28_7 = true := by decide +kernel
def sg_28_16 : List RI := [(.aload_n 0, 1, 0, 0, 0, 0), (.iload_n 1, 1, 0, 0, 0, 0)]
theorem sk_28_16 : segB 5 false prog_7_method_12_code 16 sg_28_16 = true := by decide +kernel
def sg_28_21 : List RI := [(.iinc 1 1, 3, 0, 0, 0, 1)]
theorem sk_28_21 : segB 5 false prog_7_method_12_code 21 sg_28_21 = true := by decide +kernel
def sg_28_27 : List RI := [(.aload_n 0, 1, 0, 0, 0, 0), (.getfield 87, 3, 5, 9, 0, 0), (.aload_n 0, 1, 0, 0, 0, 0), (.getfield 84, 3, 5, 1, 0, 0)]
theorem sk_28_27 : segB 5 false prog_7_method_12_code 27 sg_28_27 = true := by decide +kernel
def sg_28_38 : List RI := [(.aload_n 0, 1, 0, 0, 0, 0), (.getfield 9, 3, 5, 0, 2, 0), (.aload_n 0, 1, 0, 0, 0, 0), (.getfield 18, 3, 5, 8, 2, 0), (.aload_n 0, 1, 0, 0, 0, 0), (.getfield 87, 3, 5, 9, 0, 0)]
theorem sk_28_38 : segB 5 false prog_7_method_12_code 38 sg_28_38 = true := by decide +kernel
def sg_28_52 : List RI := [(.bipush 11, 2, 0, 0, 0, 11)]
theorem sk_28_52 : segB 5 false prog_7_method_12_code 52 sg_28_52 = true := by decide +kernel
def sg_28_57 : List RI := [(.aload_n 0, 1, 0, 0, 0, 0), (.dup, 1, 0, 0, 0, 0), (.getfield 87, 3, 5, 9, 0, 0), (.iconst 1, 1, 0, 0, 0, 1), (.iadd, 1, 0, 0, 0, 0), (.putfield 87, 3, 5, 9, 0, 0)]
theorem sk_28_57 : segB 5 false prog_7_method_12_code 57 sg_28_57 = true := by decide +kernel
theorem ck_28_4 : decode prog_7_method_12_code 4 = .ok (.if_icmp .ge 23, 3) ∧ lnkB 5 false 4 (.if_icmp .ge 23, 3, 27, 0, 0, 0) = true := by decide +kernel
theorem ca_28_12 : decode prog_7_method_12_code 12 = .ok (.iaload, 1) ∧ lnkB 5 false 12 (.iaload, 1, 0, 0, 0, 0) = true := by decide +kernel
theorem ck_28_13 : decode prog_7_method_12_code 13 = .ok (.ifCond .le 8, 3) ∧ lnkB 5 false 13 (.ifCond .le 8, 3, 21, 0, 0, 0) = true := by decide +kernel
theorem ck_28_18 : decode prog_7_method_12_code 18 = .ok (.invokevirtual 191, 3) ∧ lnkB 5 false 18 (.invokevirtual 191, 3, 29, 0, 0, 0) = true := by decide +kernel
theorem ck_28_24 : decode prog_7_method_12_code 24 = .ok (.goto (-22), 3) ∧ lnkB 5 false 24 (.goto (-22), 3, 2, 0, 0, 0) = true := by decide +kernel
theorem ck_28_35 : decode prog_7_method_12_code 35 = .ok (.if_icmp .ge 35, 3) ∧ lnkB 5 false 35 (.if_icmp .ge 35, 3, 70, 0, 0, 0) = true := by decide +kernel
theorem ca_28_50 : decode prog_7_method_12_code 50 = .ok (.iaload, 1) ∧ lnkB 5 false 50 (.iaload, 1, 0, 0, 0, 0) = true := by decide +kernel
theorem ca_28_51 : decode prog_7_method_12_code 51 = .ok (.iaload, 1) ∧ lnkB 5 false 51 (.iaload, 1, 0, 0, 0, 0) = true := by decide +kernel
theorem ck_28_54 : decode prog_7_method_12_code 54 = .ok (.if_icmp .eq 16, 3) ∧ lnkB 5 false 54 (.if_icmp .eq 16, 3, 70, 0, 0, 0) = true := by decide +kernel
theorem ck_28_67 : decode prog_7_method_12_code 67 = .ok (.goto (-40), 3) ∧ lnkB 5 false 67 (.goto (-40), 3, 27, 0, 0, 0) = true := by decide +kernel
theorem ck_28_70 : decode prog_7_method_12_code 70 = .ok (.return_, 1) ∧ lnkB 5 false 70 (.return_, 1, 0, 0, 0, 0) = true := by decide +kernel
abbrev RU_28 (d : Nat) (cp : Nat × Nat) (Post : Option Value → Sto → Prop) : PP := Runs (Ex d) prog_7_method_12_code 5 false 2 none none cp Post
theorem en_28 {d : Nat} {As : List Value} {S : Sto} {mc ms : Nat} {Post : Option Value → Sto → Prop} (hc : cats As ≤ 2) (h : RU_28 d (mc, ms) Post 0 (lv_args 0 As) [] S 0 0) : Ex (d + 1) 28 As S mc ms Post := ⟨by decide, hc, h⟩
def sg_29_0 : List RI := [(.aload_n 0, 1, 0, 0, 0, 0), (.getfield 28, 3, 5, 3, 2, 0), (.getfield 138, 3, 3, 0, 2, 0), (.iload_n 1, 1, 0, 0, 0, 0)]
theorem sk_29_0 : segB 5 false prog_7_method_13_code 0 sg_29_0 = true := by decide +kernel
def sg_29_9 : List RI := [(.astore_n 2, 1, 0, 0, 0, 0), (.aload_n 2, 1, 0, 0, 0, 0), (.aload_n 0, 1, 0, 0, 0, 0), (.getfield 24, 3, 5, 2, 2, 0), (.getfield 129, 3, 1, 4, 0, 0)]
theorem sk_29_9 : segB 5 false prog_7_method_13_code 9 sg_29_9 = true := by decide +kernel
def sg_29_24 : List RI := [(.aload_n 0, 1, 0, 0, 0, 0), (.iload_n 1, 1, 0, 0, 0, 0)]
theorem sk_29_24 : segB 5 false prog_7_method_13_code 24 sg_29_24 = true := by decide +kernel
def sg_29_32 : List RI := [(.aload_n 2, 1, 0, 0, 0, 0), (.getfield 201, 3, 2, 5, 0, 0)]
theorem sk_29_32 : segB 5 false prog_7_method_13_code 32 sg_29_32 = true := by decide +kernel
def sg_29_39 : List RI := [(.iconst 0, 1, 0, 0, 0, 0), (.istore_n 3, 1, 0, 0, 0, 0)]
theorem sk_29_39 : segB 5 false prog_7_method_13_code 39 sg_29_39 = true := by decide +kernel
def sg_29_41 : List RI := [(.iload_n 3, 1, 0, 0, 0, 0), (.aload_n 2, 1, 0, 0, 0, 0), (.getfield 205, 3, 2, 2, 0, 0)]
theorem sk_29_41 : segB 5 false prog_7_method_13_code 41 sg_29_41 = true := by decide +kernel
def sg_29_49 : List RI := [(.aload_n 0, 1, 0, 0, 0, 0), (.getfield 21, 3, 5, 10, 2, 0), (.iload_n 1, 1, 0, 0, 0, 0)]
theorem sk_29_49 : segB 5 false prog_7_method_13_code 49 sg_29_49 = true := by decide +kernel
def sg_29_58 : List RI := [(.aload_n 0, 1, 0, 0, 0, 0), (.iload_n 1, 1, 0, 0, 0, 0), (.aload_n 2, 1, 0, 0, 0, 0), (.getfield 208, 3, 2, 1, 0, 0)]
theorem sk_29_58 : segB 5 false prog_7_method_13_code 58 sg_29_58 = true := by decide +kernel
def sg_29_67 : List RI := [(.iinc 3 1, 3, 0, 0, 0, 1)]
theorem sk_29_67 : segB 5 false prog_7_method_13_code 67 sg_29_67 = true := by decide +kernel
def sg_29_76 : List RI := [(.aload_n 2, 1, 0, 0, 0, 0), (.getfield 214, 3, 2, 8, 0, 0), (.iconst (-1), 1, 0, 0, 0, -1)]
theorem sk_29_76 : segB 5 false prog_7_method_13_code 76 sg_29_76 = true := by decide +kernel
def sg_29_84 : List RI := [(.aload_n 2, 1, 0, 0, 0, 0), (.aload_n 0, 1, 0, 0, 0, 0), (.getfield 40, 3, 5, 6, 2, 0), (.getfield 96, 3, 0, 5, 0, 0), (.putfield 214, 3, 2, 8, 0, 0), (.aload_n 0, 1, 0, 0, 0, 0), (.iload_n 1, 1, 0, 0, 0, 0), (.aload_n 2, 1, 0, 0, 0, 0), (.getfield 208, 3, 2, 1, 0, 0)]
theorem sk_29_84 : segB 5 false prog_7_method_13_code 84 sg_29_84 = true := by decide +kernel
theorem ca_29_8 : decode prog_7_method_13_code 8 = .ok (.aaload, 1) ∧ lnkB 5 false 8 (.aaload, 1, 0, 0, 0, 0) = true := by decide +kernel
theorem ck_29_18 : decode prog_7_method_13_code 18 = .ok (.invokevirtual 194, 3) ∧ lnkB 5 false 18 (.invokevirtual 194, 3, 10, 0, 0, 0) = true := by decide +kernel
theorem ck_29_21 : decode prog_7_method_13_code 21 = .ok (.ifCond .eq 11, 3) ∧ lnkB 5 false 21 (.ifCond .eq 11, 3, 32, 0, 0, 0) = true := by decide +kernel
theorem ck_29_26 : decode prog_7_method_13_code 26 = .ok (.invokevirtual 198, 3) ∧ lnkB 5 false 26 (.invokevirtual 198, 3, 30, 0, 0, 0) = true := by decide +kernel
theorem ck_29_29 : decode prog_7_method_13_code 29 = .ok (.goto 75, 3) ∧ lnkB 5 false 29 (.goto 75, 3, 104, 0, 0, 0) = true := by decide +kernel
theorem ck_29_36 : decode prog_7_method_13_code 36 = .ok (.ifCond .eq 40, 3) ∧ lnkB 5 false 36 (.ifCond .eq 40, 3, 76, 0, 0, 0) = true := by decide +kernel
theorem ck_29_46 : decode prog_7_method_13_code 46 = .ok (.if_icmp .ge 27, 3) ∧ lnkB 5 false 46 (.if_icmp .ge 27, 3, 73, 0, 0, 0) = true := by decide +kernel
theorem ca_29_54 : decode prog_7_method_13_code 54 = .ok (.iaload, 1) ∧ lnkB 5 false 54 (.iaload, 1, 0, 0, 0, 0) = true := by decide +kernel
theorem ck_29_55 : decode prog_7_method_13_code 55 = .ok (.ifCond .le 18, 3) ∧ lnkB 5 false 55 (.ifCond .le 18, 3, 73, 0, 0, 0) = true := by decide +kernel
theorem ck_29_64 : decode prog_7_method_13_code 64 = .ok (.invokevirtual 211, 3) ∧ lnkB 5 false 64 (.invokevirtual 211, 3, 31, 0, 0, 0) = true := by decide +kernel
theorem ck_29_70 : decode prog_7_method_13_code 70 = .ok (.goto (-29), 3) ∧ lnkB 5 false 70 (.goto (-29), 3, 41, 0, 0, 0) = true := by decide +kernel
theorem ck_29_73 : decode prog_7_method_13_code 73 = .ok (.goto 31, 3) ∧ lnkB 5 false 73 (.goto 31, 3, 104, 0, 0, 0) = true := by decide +kernel
theorem ck_29_81 : decode prog_7_method_13_code 81 = .ok (.if_icmp .ne 23, 3) ∧ lnkB 5 false 81 (.if_icmp .ne 23, 3, 104, 0, 0, 0) = true := by decide +kernel
theorem ck_29_101 : decode prog_7_method_13_code 101 = .ok (.invokevirtual 211, 3) ∧ lnkB 5 false 101 (.invokevirtual 211, 3, 31, 0, 0, 0) = true := by decide +kernel
theorem ck_29_104 : decode prog_7_method_13_code 104 = .ok (.return_, 1) ∧ lnkB 5 false 104 (.return_, 1, 0, 0, 0, 0) = true := by decide +kernel
abbrev RU_29 (d : Nat) (cp : Nat × Nat) (Post : Option Value → Sto → Prop) : PP := Runs (Ex d) prog_7_method_13_code 5 false 4 none none cp Post
theorem en_29 {d : Nat} {As : List Value} {S : Sto} {mc ms : Nat} {Post : Option Value → Sto → Prop} (hc : cats As ≤ 4) (h : RU_29 d (mc, ms) Post 0 (lv_args 0 As) [] S 0 0) : Ex (d + 1) 29 As S mc ms Post := ⟨by decide, hc, h⟩
def sg_30_0 : List RI := [(.aload_n 0, 1, 0, 0, 0, 0), (.getfield 87, 3, 5, 9, 0, 0), (.istore_n 2, 1, 0, 0, 0, 0)]
theorem sk_30_0 : segB 5 false prog_7_method_14_code 0 sg_30_0 = true := by decide +kernel
def sg_30_5 : List RI := [(.iload_n 2, 1, 0, 0, 0, 0), (.aload_n 0, 1, 0, 0, 0, 0), (.getfield 84, 3, 5, 1, 0, 0)]
theorem sk_30_5 : segB 5 false prog_7_method_14_code 5 sg_30_5 = true := by decide +kernel
def sg_30_13 : List RI := [(.aload_n 0, 1, 0, 0, 0, 0), (.getfield 18, 3, 5, 8, 2, 0), (.iload_n 2, 1, 0, 0, 0, 0)]
theorem sk_30_13 : segB 5 false prog_7_method_14_code 13 sg_30_13 = true := by decide +kernel
def sg_30_19 : List RI := [(.istore_n 3, 1, 0, 0, 0, 0), (.aload_n 0, 1, 0, 0, 0, 0), (.getfield 9, 3, 5, 0, 2, 0), (.iload_n 3, 1, 0, 0, 0, 0)]
theorem sk_30_19 : segB 5 false prog_7_method_14_code 19 sg_30_19 = true := by decide +kernel
def sg_30_26 : List RI := [(.bipush 11, 2, 0, 0, 0, 11)]
theorem sk_30_26 : segB 5 false prog_7_method_14_code 26 sg_30_26 = true := by decide +kernel
def sg_30_31 : List RI := [(.aload_n 0, 1, 0, 0, 0, 0), (.getfield 32, 3, 5, 4, 2, 0), (.getfield 132, 3, 6, 0, 2, 0), (.iload_n 3, 1, 0, 0, 0, 0), (.bipush 32, 2, 0, 0, 0, 32), (.idiv, 1, 0, 0, 0, 0)]
theorem sk_30_31 : segB 5 false prog_7_method_14_code 31 sg_30_31 = true := by decide +kernel
def sg_30_43 : List RI := [(.iload_n 1, 1, 0, 0, 0, 0)]
theorem sk_30_43 : segB 5 false prog_7_method_14_code 43 sg_30_43 = true := by decide +kernel
def sg_30_47 : List RI := [(.aload_n 0, 1, 0, 0, 0, 0), (.getfield 9, 3, 5, 0, 2, 0), (.iload_n 3, 1, 0, 0, 0, 0), (.iconst 4, 1, 0, 0, 0, 4)]
theorem sk_30_47 : segB 5 false prog_7_method_14_code 47 sg_30_47 = true := by decide +kernel
def sg_30_54 : List RI := [(.iinc 2 1, 3, 0, 0, 0, 1)]
theorem sk_30_54 : segB 5 false prog_7_method_14_code 54 sg_30_54 = true := by decide +kernel
def sg_30_60 : List RI := [(.aload_n 0, 1, 0, 0, 0, 0), (.getfield 21, 3, 5, 10, 2, 0), (.iload_n 1, 1, 0, 0, 0, 0), (.iconst 0, 1, 0, 0, 0, 0)]
theorem sk_30_60 : segB 5 false prog_7_method_14_code 60 sg_30_60 = true := by decide +kernel
theorem ck_30_10 : decode prog_7_method_14_code 10 = .ok (.if_icmp .ge 50, 3) ∧ lnkB 5 false 10 (.if_icmp .ge 50, 3, 60, 0, 0, 0) = true := by decide +kernel
theorem ca_30_18 : decode prog_7_method_14_code 18 = .ok (.iaload, 1) ∧ lnkB 5 false 18 (.iaload, 1, 0, 0, 0, 0) = true := by decide +kernel
theorem ca_30_25 : decode prog_7_method_14_code 25 = .ok (.iaload, 1) ∧ lnkB 5 false 25 (.iaload, 1, 0, 0, 0, 0) = true := by decide +kernel
theorem ck_30_28 : decode prog_7_method_14_code 28 = .ok (.if_icmp .ne 26, 3) ∧ lnkB 5 false 28 (.if_icmp .ne 26, 3, 54, 0, 0, 0) = true := by decide +kernel
theorem ca_30_42 : decode prog_7_method_14_code 42 = .ok (.iaload, 1) ∧ lnkB 5 false 42 (.iaload, 1, 0, 0, 0, 0) = true := by decide +kernel
theorem ck_30_44 : decode prog_7_method_14_code 44 = .ok (.if_icmp .ne 10, 3) ∧ lnkB 5 false 44 (.if_icmp .ne 10, 3, 54, 0, 0, 0) = true := by decide +kernel
theorem ca_30_53 : decode prog_7_method_14_code 53 = .ok (.iastore, 1) ∧ lnkB 5 false 53 (.iastore, 1, 0, 0, 0, 0) = true := by decide +kernel
theorem ck_30_57 : decode prog_7_method_14_code 57 = .ok (.goto (-52), 3) ∧ lnkB 5 false 57 (.goto (-52), 3, 5, 0, 0, 0) = true := by decide +kernel
theorem ca_30_66 : decode prog_7_method_14_code 66 = .ok (.iastore, 1) ∧ lnkB 5 false 66 (.iastore, 1, 0, 0, 0, 0) = true := by decide +kernel
theorem ck_30_67 : decode prog_7_method_14_code 67 = .ok (.return_, 1) ∧ lnkB 5 false 67 (.return_, 1, 0, 0, 0, 0) = true := by decide +kernel
abbrev RU_30 (d : Nat) (cp : Nat × Nat) (Post : Option Value → Sto → Prop) : PP := Runs (Ex d) prog_7_method_14_code 5 false 4 none none cp Post
theorem en_30 {d : Nat} {As : List Value} {S : Sto} {mc ms : Nat} {Post : Option Value → Sto → Prop} (hc : cats As ≤ 4) (h : RU_30 d (mc, ms) Post 0 (lv_args 0 As) [] S 0 0) : Ex (d + 1) 30 As S mc ms Post := ⟨by decide, hc, h⟩
def sg_31_0 : List RI := [(.iconst (-1), 1, 0, 0, 0, -1), (.istore_n 3, 1, 0, 0, 0, 0), (.iconst 0, 1, 0, 0, 0, 0), (.istore 4, 2, 0, 0, 0, 0), (.aload_n 0, 1, 0, 0, 0, 0), (.getfield 87, 3, 5, 9, 0, 0), (.istore 5, 2, 0, 0, 0, 0)]
theorem sk_31_0 : segB 5 false prog_7_method_15_code 0 sg_31_0 = true := by decide +kernel
def sg_31_11 : List RI := [(.iload 5, 2, 0, 0, 0, 0), (.aload_n 0, 1, 0, 0, 0, 0), (.getfield 84, 3, 5, 1, 0, 0)]
theorem sk_31_11 : segB 5 false prog_7_method_15_code 11 sg_31_11 = true := by decide +kernel
def sg_31_20 : List RI := [(.iload 4, 2, 0, 0, 0, 0), (.iload_n 2, 1, 0, 0, 0, 0)]
theorem sk_31_20 : segB 5 false prog_7_method_15_code 20 sg_31_20 = true := by decide +kernel
def sg_31_26 : List RI := [(.aload_n 0, 1, 0, 0, 0, 0), (.getfield 18, 3, 5, 8, 2, 0), (.iload 5, 2, 0, 0, 0, 0)]
theorem sk_31_26 : segB 5 false prog_7_method_15_code 26 sg_31_26 = true := by decide +kernel
def sg_31_33 : List RI := [(.istore 6, 2, 0, 0, 0, 0), (.iload 6, 2, 0, 0, 0, 0), (.bipush 32, 2, 0, 0, 0, 32), (.idiv, 1, 0, 0, 0, 0), (.istore 7, 2, 0, 0, 0, 0), (.aload_n 0, 1, 0, 0, 0, 0), (.getfield 9, 3, 5, 0, 2, 0), (.iload 6, 2, 0, 0, 0, 0)]
theorem sk_31_33 : segB 5 false prog_7_method_15_code 33 sg_31_33 = true := by decide +kernel
def sg_31_49 : List RI := [(.bipush 11, 2, 0, 0, 0, 11)]
theorem sk_31_49 : segB 5 false prog_7_method_15_code 49 sg_31_49 = true := by decide +kernel
def sg_31_57 : List RI := [(.iload_n 3, 1, 0, 0, 0, 0), (.iconst (-1), 1, 0, 0, 0, -1)]
theorem sk_31_57 : segB 5 false prog_7_method_15_code 57 sg_31_57 = true := by decide +kernel
def sg_31_62 : List RI := [(.aload_n 0, 1, 0, 0, 0, 0), (.getfield 32, 3, 5, 4, 2, 0), (.getfield 132, 3, 6, 0, 2, 0), (.iload 7, 2, 0, 0, 0, 0)]
theorem sk_31_62 : segB 5 false prog_7_method_15_code 62 sg_31_62 = true := by decide +kernel
def sg_31_72 : List RI := [(.iload_n 1, 1, 0, 0, 0, 0)]
theorem sk_31_72 : segB 5 false prog_7_method_15_code 72 sg_31_72 = true := by decide +kernel
def sg_31_76 : List RI := [(.iload 7, 2, 0, 0, 0, 0), (.istore_n 3, 1, 0, 0, 0, 0), (.aload_n 0, 1, 0, 0, 0, 0), (.getfield 40, 3, 5, 6, 2, 0), (.iload_n 1, 1, 0, 0, 0, 0), (.iload_n 3, 1, 0, 0, 0, 0), (.aload_n 0, 1, 0, 0, 0, 0), (.getfield 24, 3, 5, 2, 2, 0), (.getfield 129, 3, 1, 4, 0, 0)]
theorem sk_31_76 : segB 5 false prog_7_method_15_code 76 sg_31_76 = true := by decide +kernel
def sg_31_95 : List RI := [(.iload 7, 2, 0, 0, 0, 0), (.iload_n 3, 1, 0, 0, 0, 0)]
theorem sk_31_95 : segB 5 false prog_7_method_15_code 95 sg_31_95 = true := by decide +kernel
def sg_31_101 : List RI := [(.aload_n 0, 1, 0, 0, 0, 0), (.getfield 40, 3, 5, 6, 2, 0), (.iload 6, 2, 0, 0, 0, 0), (.bipush 32, 2, 0, 0, 0, 32), (.irem, 1, 0, 0, 0, 0)]
theorem sk_31_101 : segB 5 false prog_7_method_15_code 101 sg_31_101 = true := by decide +kernel
def sg_31_113 : List RI := [(.aload_n 0, 1, 0, 0, 0, 0), (.getfield 9, 3, 5, 0, 2, 0), (.iload 6, 2, 0, 0, 0, 0), (.bipush 12, 2, 0, 0, 0, 12)]
theorem sk_31_113 : segB 5 false prog_7_method_15_code 113 sg_31_113 = true := by decide +kernel
def sg_31_122 : List RI := [(.aload_n 0, 1, 0, 0, 0, 0), (.getfield 21, 3, 5, 10, 2, 0), (.iload_n 1, 1, 0, 0, 0, 0), (.dup2, 1, 0, 0, 0, 0)]
theorem sk_31_122 : segB 5 false prog_7_method_15_code 122 sg_31_122 = true := by decide +kernel
def sg_31_129 : List RI := [(.iconst 1, 1, 0, 0, 0, 1), (.isub, 1, 0, 0, 0, 0)]
theorem sk_31_129 : segB 5 false prog_7_method_15_code 129 sg_31_129 = true := by decide +kernel
def sg_31_132 : List RI := [(.iinc 4 1, 3, 0, 0, 0, 1)]
theorem sk_31_132 : segB 5 false prog_7_method_15_code 132 sg_31_132 = true := by decide +kernel
def sg_31_135 : List RI := [(.iinc 5 1, 3, 0, 0, 0, 1)]
theorem sk_31_135 : segB 5 false prog_7_method_15_code 135 sg_31_135 = true := by decide +kernel
theorem ck_31_17 : decode prog_7_method_15_code 17 = .ok (.if_icmp .ge 124, 3) ∧ lnkB 5 false 17 (.if_icmp .ge 124, 3, 141, 0, 0, 0) = true := by decide +kernel
theorem ck_31_23 : decode prog_7_method_15_code 23 = .ok (.if_icmp .ge 118, 3) ∧ lnkB 5 false 23 (.if_icmp .ge 118, 3, 141, 0, 0, 0) = true := by decide +kernel
theorem ca_31_32 : decode prog_7_method_15_code 32 = .ok (.iaload, 1) ∧ lnkB 5 false 32 (.iaload, 1, 0, 0, 0, 0) = true := by decide +kernel
theorem ca_31_48 : decode prog_7_method_15_code 48 = .ok (.iaload, 1) ∧ lnkB 5 false 48 (.iaload, 1, 0, 0, 0, 0) = true := by decide +kernel
theorem ck_31_51 : decode prog_7_method_15_code 51 = .ok (.if_icmp .eq 6, 3) ∧ lnkB 5 false 51 (.if_icmp .eq 6, 3, 57, 0, 0, 0) = true := by decide +kernel
theorem ck_31_54 : decode prog_7_method_15_code 54 = .ok (.goto 81, 3) ∧ lnkB 5 false 54 (.goto 81, 3, 135, 0, 0, 0) = true := by decide +kernel
theorem ck_31_59 : decode prog_7_method_15_code 59 = .ok (.if_icmp .ne 36, 3) ∧ lnkB 5 false 59 (.if_icmp .ne 36, 3, 95, 0, 0, 0) = true := by decide +kernel
theorem ca_31_71 : decode prog_7_method_15_code 71 = .ok (.iaload, 1) ∧ lnkB 5 false 71 (.iaload, 1, 0, 0, 0, 0) = true := by decide +kernel
theorem ck_31_73 : decode prog_7_method_15_code 73 = .ok (.if_icmp .ne 22, 3) ∧ lnkB 5 false 73 (.if_icmp .ne 22, 3, 95, 0, 0, 0) = true := by decide +kernel
theorem ck_31_92 : decode prog_7_method_15_code 92 = .ok (.invokevirtual 217, 3) ∧ lnkB 5 false 92 (.invokevirtual 217, 3, 2, 0, 0, 0) = true := by decide +kernel
theorem ck_31_98 : decode prog_7_method_15_code 98 = .ok (.if_icmp .ne 37, 3) ∧ lnkB 5 false 98 (.if_icmp .ne 37, 3, 135, 0, 0, 0) = true := by decide +kernel
theorem ck_31_110 : decode prog_7_method_15_code 110 = .ok (.invokevirtual 220, 3) ∧ lnkB 5 false 110 (.invokevirtual 220, 3, 3, 0, 0, 0) = true := by decide +kernel
theorem ca_31_121 : decode prog_7_method_15_code 121 = .ok (.iastore, 1) ∧ lnkB 5 false 121 (.iastore, 1, 0, 0, 0, 0) = true := by decide +kernel
theorem ca_31_128 : decode prog_7_method_15_code 128 = .ok (.iaload, 1) ∧ lnkB 5 false 128 (.iaload, 1, 0, 0, 0, 0) = true := by decide +kernel
theorem ca_31_131 : decode prog_7_method_15_code 131 = .ok (.iastore, 1) ∧ lnkB 5 false 131 (.iastore, 1, 0, 0, 0, 0) = true := by decide +kernel
theorem ck_31_138 : decode prog_7_method_15_code 138 = .ok (.goto (-127), 3) ∧ lnkB 5 false 138 (.goto (-127), 3, 11, 0, 0, 0) = true := by decide +kernel
theorem ck_31_141 : decode prog_7_method_15_code 141 = .ok (.return_, 1) ∧ lnkB 5 false 141 (.return_, 1, 0, 0, 0, 0) = true := by decide +kernel
abbrev RU_31 (d : Nat) (cp : Nat × Nat) (Post : Option Value → Sto → Prop) : PP := Runs (Ex d) prog_7_method_15_code 5 false 8 none none cp Post
theorem en_31 {d : Nat} {As : List Value} {S : Sto} {mc ms : Nat} {Post : Option Value → Sto → Prop} (hc : cats As ≤ 8) (h : RU_31 d (mc, ms) Post 0 (lv_args 0 As) [] S 0 0) : Ex (d + 1) 31 As S mc ms Post := ⟨by decide, hc, h⟩
def sg_32_0 : List RI := [(.aload_n 0, 1, 0, 0, 0, 0), (.getfield 40, 3, 5, 6, 2, 0), (.getfield 93, 3, 0, 6, 0, 0), (.aload_n 0, 1, 0, 0, 0, 0), (.getfield 40, 3, 5, 6, 2, 0), (.getfield 96, 3, 0, 5, 0, 0)]
theorem sk_32_0 : segB 5 false prog_7_method_5_code 0 sg_32_0 = true := by decide +kernel
def sg_32_17 : List RI := [(.aload_n 0, 1, 0, 0, 0, 0), (.getfield 87, 3, 5, 9, 0, 0), (.aload_n 0, 1, 0, 0, 0, 0), (.getfield 84, 3, 5, 1, 0, 0)]
theorem sk_32_17 : segB 5 false prog_7_method_5_code 17 sg_32_17 = true := by decide +kernel
def sg_32_28 : List RI := [(.iconst 1, 1, 0, 0, 0, 1)]
theorem sk_32_28 : segB 5 false prog_7_method_5_code 28 sg_32_28 = true := by decide +kernel
def sg_32_32 : List RI := [(.iconst 0, 1, 0, 0, 0, 0)]
theorem sk_32_32 : segB 5 false prog_7_method_5_code 32 sg_32_32 = true := by decide +kernel
theorem ck_32_14 : decode prog_7_method_5_code 14 = .ok (.if_icmp .lt 18, 3) ∧ lnkB 5 false 14 (.if_icmp .lt 18, 3, 32, 0, 0, 0) = true := by decide +kernel
theorem ck_32_25 : decode prog_7_method_5_code 25 = .ok (.if_icmp .lt 7, 3) ∧ lnkB 5 false 25 (.if_icmp .lt 7, 3, 32, 0, 0, 0) = true := by decide +kernel
theorem ck_32_29 : decode prog_7_method_5_code 29 = .ok (.goto 4, 3) ∧ lnkB 5 false 29 (.goto 4, 3, 33, 0, 0, 0) = true := by decide +kernel
theorem ck_32_33 : decode prog_7_method_5_code 33 = .ok (.ireturn, 1) ∧ lnkB 5 false 33 (.ireturn, 1, 0, 0, 0, 0) = true := by decide +kernel
abbrev RU_32 (d : Nat) (cp : Nat × Nat) (Post : Option Value → Sto → Prop) : PP := Runs (Ex d) prog_7_method_5_code 5 false 1 (some .boolean) none cp Post
theorem en_32 {d : Nat} {As : List Value} {S : Sto} {mc ms : Nat} {Post : Option Value → Sto → Prop} (hc : cats As ≤ 1) (h : RU_32 d (mc, ms) Post 0 (lv_args 0 As) [] S 0 0) : Ex (d + 1) 32 As S mc ms Post := ⟨by decide, hc, h⟩
def sg_33_0 : List RI := [(.aload_n 0, 1, 0, 0, 0, 0), (.getfield 40, 3, 5, 6, 2, 0), (.getfield 96, 3, 0, 5, 0, 0), (.istore_n 1, 1, 0, 0, 0, 0), (.aload_n 0, 1, 0, 0, 0, 0), (.getfield 40, 3, 5, 6, 2, 0), (.getfield 93, 3, 0, 6, 0, 0), (.istore_n 2, 1, 0, 0, 0, 0)]
theorem sk_33_0 : segB 5 false prog_7_method_9_code 0 sg_33_0 = true := by decide +kernel
def sg_33_16 : List RI := [(.iload_n 2, 1, 0, 0, 0, 0), (.iload_n 1, 1, 0, 0, 0, 0)]
theorem sk_33_16 : segB 5 false prog_7_method_9_code 16 sg_33_16 = true := by decide +kernel
def sg_33_21 : List RI := [(.aload_n 0, 1, 0, 0, 0, 0), (.getfield 40, 3, 5, 6, 2, 0), (.getfield 135, 3, 0, 2, 2, 0), (.iload_n 2, 1, 0, 0, 0, 0)]
theorem sk_33_21 : segB 5 false prog_7_method_9_code 21 sg_33_21 = true := by decide +kernel
def sg_33_30 : List RI := [(.aload_n 0, 1, 0, 0, 0, 0), (.getfield 28, 3, 5, 3, 2, 0), (.getfield 138, 3, 3, 0, 2, 0), (.aload_n 0, 1, 0, 0, 0, 0), (.getfield 40, 3, 5, 6, 2, 0), (.getfield 144, 3, 0, 0, 2, 0), (.iload_n 2, 1, 0, 0, 0, 0)]
theorem sk_33_30 : segB 5 false prog_7_method_9_code 30 sg_33_30 = true := by decide +kernel
def sg_33_47 : List RI := [(.getfield 145, 3, 2, 0, 0, 0), (.iadd, 1, 0, 0, 0, 0), (.istore_n 3, 1, 0, 0, 0, 0), (.aload_n 0, 1, 0, 0, 0, 0), (.getfield 40, 3, 5, 6, 2, 0), (.getfield 150, 3, 0, 4, 2, 0), (.iload_n 2, 1, 0, 0, 0, 0)]
theorem sk_33_47 : segB 5 false prog_7_method_9_code 47 sg_33_47 = true := by decide +kernel
def sg_33_61 : List RI := [(.iconst 3, 1, 0, 0, 0, 3)]
theorem sk_33_61 : segB 5 false prog_7_method_9_code 61 sg_33_61 = true := by decide +kernel
def sg_33_65 : List RI := [(.iload_n 3, 1, 0, 0, 0, 0), (.aload_n 0, 1, 0, 0, 0, 0), (.getfield 24, 3, 5, 2, 2, 0), (.getfield 129, 3, 1, 4, 0, 0)]
theorem sk_33_65 : segB 5 false prog_7_method_9_code 65 sg_33_65 = true := by decide +kernel
def sg_33_76 : List RI := [(.aload_n 0, 1, 0, 0, 0, 0), (.iload_n 2, 1, 0, 0, 0, 0)]
theorem sk_33_76 : segB 5 false prog_7_method_9_code 76 sg_33_76 = true := by decide +kernel
def sg_33_81 : List RI := [(.iinc 2 1, 3, 0, 0, 0, 1)]
theorem sk_33_81 : segB 5 false prog_7_method_9_code 81 sg_33_81 = true := by decide +kernel
theorem ck_33_18 : decode prog_7_method_9_code 18 = .ok (.if_icmp .ge 69, 3) ∧ lnkB 5 false 18 (.if_icmp .ge 69, 3, 87, 0, 0, 0) = true := by decide +kernel
theorem ca_33_29 : decode prog_7_method_9_code 29 = .ok (.iaload, 1) ∧ lnkB 5 false 29 (.iaload, 1, 0, 0, 0, 0) = true := by decide +kernel
theorem ca_33_45 : decode prog_7_method_9_code 45 = .ok (.iaload, 1) ∧ lnkB 5 false 45 (.iaload, 1, 0, 0, 0, 0) = true := by decide +kernel
theorem ca_33_46 : decode prog_7_method_9_code 46 = .ok (.aaload, 1) ∧ lnkB 5 false 46 (.aaload, 1, 0, 0, 0, 0) = true := by decide +kernel
theorem ca_33_60 : decode prog_7_method_9_code 60 = .ok (.iaload, 1) ∧ lnkB 5 false 60 (.iaload, 1, 0, 0, 0, 0) = true := by decide +kernel
theorem ck_33_62 : decode prog_7_method_9_code 62 = .ok (.if_icmp .ne 19, 3) ∧ lnkB 5 false 62 (.if_icmp .ne 19, 3, 81, 0, 0, 0) = true := by decide +kernel
theorem ck_33_73 : decode prog_7_method_9_code 73 = .ok (.if_icmp .ne 8, 3) ∧ lnkB 5 false 73 (.if_icmp .ne 8, 3, 81, 0, 0, 0) = true := by decide +kernel
theorem ck_33_78 : decode prog_7_method_9_code 78 = .ok (.invokevirtual 151, 3) ∧ lnkB 5 false 78 (.invokevirtual 151, 3, 34, 0, 0, 0) = true := by decide +kernel
theorem ck_33_84 : decode prog_7_method_9_code 84 = .ok (.goto (-68), 3) ∧ lnkB 5 false 84 (.goto (-68), 3, 16, 0, 0, 0) = true := by decide +kernel
theorem ck_33_87 : decode prog_7_method_9_code 87 = .ok (.return_, 1) ∧ lnkB 5 false 87 (.return_, 1, 0, 0, 0, 0) = true := by decide +kernel
abbrev RU_33 (d : Nat) (cp : Nat × Nat) (Post : Option Value → Sto → Prop) : PP := Runs (Ex d) prog_7_method_9_code 5 false 4 none none cp Post
theorem en_33 {d : Nat} {As : List Value} {S : Sto} {mc ms : Nat} {Post : Option Value → Sto → Prop} (hc : cats As ≤ 4) (h : RU_33 d (mc, ms) Post 0 (lv_args 0 As) [] S 0 0) : Ex (d + 1) 33 As S mc ms Post := ⟨by decide, hc, h⟩
def sg_34_0 : List RI := [(.aload_n 0, 1, 0, 0, 0, 0), (.getfield 40, 3, 5, 6, 2, 0), (.getfield 144, 3, 0, 0, 2, 0), (.iload_n 1, 1, 0, 0, 0, 0)]
theorem sk_34_0 : segB 5 false prog_7_method_10_code 0 sg_34_0 = true := by decide +kernel
def sg_34_9 : List RI := [(.istore_n 2, 1, 0, 0, 0, 0), (.aload_n 0, 1, 0, 0, 0, 0), (.getfield 28, 3, 5, 3, 2, 0), (.iload_n 2, 1, 0, 0, 0, 0), (.aload_n 0, 1, 0, 0, 0, 0), (.getfield 40, 3, 5, 6, 2, 0), (.getfield 135, 3, 0, 2, 2, 0), (.iload_n 1, 1, 0, 0, 0, 0)]
theorem sk_34_9 : segB 5 false prog_7_method_10_code 9 sg_34_9 = true := by decide +kernel
def sg_34_27 : List RI := [(.istore_n 3, 1, 0, 0, 0, 0), (.aload_n 0, 1, 0, 0, 0, 0), (.getfield 40, 3, 5, 6, 2, 0), (.iload_n 1, 1, 0, 0, 0, 0), (.iload_n 3, 1, 0, 0, 0, 0)]
theorem sk_34_27 : segB 5 false prog_7_method_10_code 27 sg_34_27 = true := by decide +kernel
def sg_34_37 : List RI := [(.iconst 1, 1, 0, 0, 0, 1)]
theorem sk_34_37 : segB 5 false prog_7_method_10_code 37 sg_34_37 = true := by decide +kernel
def sg_34_41 : List RI := [(.iconst 0, 1, 0, 0, 0, 0)]
theorem sk_34_41 : segB 5 false prog_7_method_10_code 41 sg_34_41 = true := by decide +kernel
def sg_34_45 : List RI := [(.aload_n 0, 1, 0, 0, 0, 0), (.getfield 28, 3, 5, 3, 2, 0), (.getfield 138, 3, 3, 0, 2, 0), (.iload_n 2, 1, 0, 0, 0, 0)]
theorem sk_34_45 : segB 5 false prog_7_method_10_code 45 sg_34_45 = true := by decide +kernel
def sg_34_54 : List RI := [(.iload_n 1, 1, 0, 0, 0, 0), (.iload_n 3, 1, 0, 0, 0, 0), (.aload_n 0, 1, 0, 0, 0, 0), (.getfield 24, 3, 5, 2, 2, 0), (.getfield 129, 3, 1, 4, 0, 0)]
theorem sk_34_54 : segB 5 false prog_7_method_10_code 54 sg_34_54 = true := by decide +kernel
def sg_34_66 : List RI := [(.iconst 0, 1, 0, 0, 0, 0), (.istore 4, 2, 0, 0, 0, 0)]
theorem sk_34_66 : segB 5 false prog_7_method_10_code 66 sg_34_66 = true := by decide +kernel
def sg_34_69 : List RI := [(.iload 4, 2, 0, 0, 0, 0), (.aload_n 0, 1, 0, 0, 0, 0), (.getfield 40, 3, 5, 6, 2, 0), (.getfield 166, 3, 0, 3, 2, 0), (.iload_n 1, 1, 0, 0, 0, 0)]
theorem sk_34_69 : segB 5 false prog_7_method_10_code 69 sg_34_69 = true := by decide +kernel
def sg_34_83 : List RI := [(.aload_n 0, 1, 0, 0, 0, 0), (.getfield 40, 3, 5, 6, 2, 0), (.getfield 169, 3, 0, 1, 2, 0), (.iload_n 1, 1, 0, 0, 0, 0)]
theorem sk_34_83 : segB 5 false prog_7_method_10_code 83 sg_34_83 = true := by decide +kernel
def sg_34_92 : List RI := [(.bipush 32, 2, 0, 0, 0, 32), (.imul, 1, 0, 0, 0, 0), (.aload_n 0, 1, 0, 0, 0, 0), (.getfield 40, 3, 5, 6, 2, 0), (.iload_n 1, 1, 0, 0, 0, 0), (.iload 4, 2, 0, 0, 0, 0)]
theorem sk_34_92 : segB 5 false prog_7_method_10_code 92 sg_34_92 = true := by decide +kernel
def sg_34_105 : List RI := [(.iadd, 1, 0, 0, 0, 0), (.istore 5, 2, 0, 0, 0, 0), (.iload_n 3, 1, 0, 0, 0, 0)]
theorem sk_34_105 : segB 5 false prog_7_method_10_code 105 sg_34_105 = true := by decide +kernel
def sg_34_112 : List RI := [(.aload_n 0, 1, 0, 0, 0, 0), (.getfield 9, 3, 5, 0, 2, 0), (.iload 5, 2, 0, 0, 0, 0), (.iconst 3, 1, 0, 0, 0, 3)]
theorem sk_34_112 : segB 5 false prog_7_method_10_code 112 sg_34_112 = true := by decide +kernel
def sg_34_123 : List RI := [(.aload_n 0, 1, 0, 0, 0, 0), (.getfield 32, 3, 5, 4, 2, 0), (.getfield 175, 3, 6, 7, 2, 0), (.iload 5, 2, 0, 0, 0, 0)]
theorem sk_34_123 : segB 5 false prog_7_method_10_code 123 sg_34_123 = true := by decide +kernel
def sg_34_136 : List RI := [(.aload_n 0, 1, 0, 0, 0, 0), (.getfield 9, 3, 5, 0, 2, 0), (.iload 5, 2, 0, 0, 0, 0), (.iconst 2, 1, 0, 0, 0, 2)]
theorem sk_34_136 : segB 5 false prog_7_method_10_code 136 sg_34_136 = true := by decide +kernel
def sg_34_147 : List RI := [(.aload_n 0, 1, 0, 0, 0, 0), (.iload 5, 2, 0, 0, 0, 0)]
theorem sk_34_147 : segB 5 false prog_7_method_10_code 147 sg_34_147 = true := by decide +kernel
def sg_34_153 : List RI := [(.iinc 4 1, 3, 0, 0, 0, 1)]
theorem sk_34_153 : segB 5 false prog_7_method_10_code 153 sg_34_153 = true := by decide +kernel
theorem ca_34_8 : decode prog_7_method_10_code 8 = .ok (.iaload, 1) ∧ lnkB 5 false 8 (.iaload, 1, 0, 0, 0, 0) = true := by decide +kernel
theorem ca_34_23 : decode prog_7_method_10_code 23 = .ok (.iaload, 1) ∧ lnkB 5 false 23 (.iaload, 1, 0, 0, 0, 0) = true := by decide +kernel
theorem ck_34_24 : decode prog_7_method_10_code 24 = .ok (.invokevirtual 154, 3) ∧ lnkB 5 false 24 (.invokevirtual 154, 3, 15, 0, 0, 0) = true := by decide +kernel
theorem ck_34_34 : decode prog_7_method_10_code 34 = .ok (.ifCond .eq 7, 3) ∧ lnkB 5 false 34 (.ifCond .eq 7, 3, 41, 0, 0, 0) = true := by decide +kernel
theorem ck_34_38 : decode prog_7_method_10_code 38 = .ok (.goto 4, 3) ∧ lnkB 5 false 38 (.goto 4, 3, 42, 0, 0, 0) = true := by decide +kernel
theorem ck_34_42 : decode prog_7_method_10_code 42 = .ok (.invokevirtual 158, 3) ∧ lnkB 5 false 42 (.invokevirtual 158, 3, 4, 0, 0, 0) = true := by decide +kernel
theorem ca_34_53 : decode prog_7_method_10_code 53 = .ok (.aaload, 1) ∧ lnkB 5 false 53 (.aaload, 1, 0, 0, 0, 0) = true := by decide +kernel
theorem ck_34_63 : decode prog_7_method_10_code 63 = .ok (.invokevirtual 162, 3) ∧ lnkB 5 false 63 (.invokevirtual 162, 3, 11, 0, 0, 0) = true := by decide +kernel
theorem ca_34_79 : decode prog_7_method_10_code 79 = .ok (.iaload, 1) ∧ lnkB 5 false 79 (.iaload, 1, 0, 0, 0, 0) = true := by decide +kernel
theorem ck_34_80 : decode prog_7_method_10_code 80 = .ok (.if_icmp .ge 79, 3) ∧ lnkB 5 false 80 (.if_icmp .ge 79, 3, 159, 0, 0, 0) = true := by decide +kernel
theorem ca_34_91 : decode prog_7_method_10_code 91 = .ok (.iaload, 1) ∧ lnkB 5 false 91 (.iaload, 1, 0, 0, 0, 0) = true := by decide +kernel
theorem ck_34_102 : decode prog_7_method_10_code 102 = .ok (.invokevirtual 172, 3) ∧ lnkB 5 false 102 (.invokevirtual 172, 3, 5, 0, 0, 0) = true := by decide +kernel
theorem ck_34_109 : decode prog_7_method_10_code 109 = .ok (.ifCond .eq 14, 3) ∧ lnkB 5 false 109 (.ifCond .eq 14, 3, 123, 0, 0, 0) = true := by decide +kernel
theorem ca_34_119 : decode prog_7_method_10_code 119 = .ok (.iastore, 1) ∧ lnkB 5 false 119 (.iastore, 1, 0, 0, 0, 0) = true := by decide +kernel
theorem ck_34_120 : decode prog_7_method_10_code 120 = .ok (.goto 33, 3) ∧ lnkB 5 false 120 (.goto 33, 3, 153, 0, 0, 0) = true := by decide +kernel
theorem ca_34_132 : decode prog_7_method_10_code 132 = .ok (.baload, 1) ∧ lnkB 5 false 132 (.baload, 1, 15, 0, 0, 0) = true := by decide +kernel
theorem ck_34_133 : decode prog_7_method_10_code 133 = .ok (.ifCond .ne 14, 3) ∧ lnkB 5 false 133 (.ifCond .ne 14, 3, 147, 0, 0, 0) = true := by decide +kernel
theorem ca_34_143 : decode prog_7_method_10_code 143 = .ok (.iastore, 1) ∧ lnkB 5 false 143 (.iastore, 1, 0, 0, 0, 0) = true := by decide +kernel
theorem ck_34_144 : decode prog_7_method_10_code 144 = .ok (.goto 9, 3) ∧ lnkB 5 false 144 (.goto 9, 3, 153, 0, 0, 0) = true := by decide +kernel
theorem ck_34_150 : decode prog_7_method_10_code 150 = .ok (.invokevirtual 179, 3) ∧ lnkB 5 false 150 (.invokevirtual 179, 3, 35, 0, 0, 0) = true := by decide +kernel
theorem ck_34_156 : decode prog_7_method_10_code 156 = .ok (.goto (-87), 3) ∧ lnkB 5 false 156 (.goto (-87), 3, 69, 0, 0, 0) = true := by decide +kernel
theorem ck_34_159 : decode prog_7_method_10_code 159 = .ok (.return_, 1) ∧ lnkB 5 false 159 (.return_, 1, 0, 0, 0, 0) = true := by decide +kernel
abbrev RU_34 (d : Nat) (cp : Nat × Nat) (Post : Option Value → Sto → Prop) : PP := Runs (Ex d) prog_7_method_10_code 5 false 6 none none cp Post
theorem en_34 {d : Nat} {As : List Value} {S : Sto} {mc ms : Nat} {Post : Option Value → Sto → Prop} (hc : cats As ≤ 6) (h : RU_34 d (mc, ms) Post 0 (lv_args 0 As) [] S 0 0) : Ex (d + 1) 34 As S mc ms Post := ⟨by decide, hc, h⟩
def sg_35_0 : List RI := [(.aload_n 0, 1, 0, 0, 0, 0), (.getfield 9, 3, 5, 0, 2, 0), (.iload_n 1, 1, 0, 0, 0, 0), (.bipush 10, 2, 0, 0, 0, 10)]
theorem sk_35_0 : segB 5 false prog_7_method_11_code 0 sg_35_0 = true := by decide +kernel
def sg_35_8 : List RI := [(.aload_n 0, 1, 0, 0, 0, 0), (.getfield 32, 3, 5, 4, 2, 0), (.iload_n 1, 1, 0, 0, 0, 0), (.aload_n 0, 1, 0, 0, 0, 0), (.getfield 24, 3, 5, 2, 2, 0), (.getfield 129, 3, 1, 4, 0, 0)]
theorem sk_35_8 : segB 5 false prog_7_method_11_code 8 sg_35_8 = true := by decide +kernel
def sg_35_23 : List RI := [(.aload_n 0, 1, 0, 0, 0, 0), (.getfield 15, 3, 5, 7, 2, 0), (.iload_n 1, 1, 0, 0, 0, 0)]
theorem sk_35_23 : segB 5 false prog_7_method_11_code 23 sg_35_23 = true := by decide +kernel
def sg_35_29 : List RI := [(.istore_n 2, 1, 0, 0, 0, 0), (.iconst 0, 1, 0, 0, 0, 0), (.istore_n 3, 1, 0, 0, 0, 0)]
theorem sk_35_29 : segB 5 false prog_7_method_11_code 29 sg_35_29 = true := by decide +kernel
def sg_35_32 : List RI := [(.iload_n 3, 1, 0, 0, 0, 0), (.aload_n 0, 1, 0, 0, 0, 0), (.getfield 36, 3, 5, 5, 2, 0), (.getfield 185, 3, 9, 7, 0, 0)]
theorem sk_35_32 : segB 5 false prog_7_method_11_code 32 sg_35_32 = true := by decide +kernel
def sg_35_43 : List RI := [(.iload_n 2, 1, 0, 0, 0, 0), (.iload_n 3, 1, 0, 0, 0, 0), (.ishr, 1, 0, 0, 0, 0), (.iconst 1, 1, 0, 0, 0, 1), (.iand, 1, 0, 0, 0, 0)]
theorem sk_35_43 : segB 5 false prog_7_method_11_code 43 sg_35_43 = true := by decide +kernel
def sg_35_51 : List RI := [(.aload_n 0, 1, 0, 0, 0, 0), (.iload_n 3, 1, 0, 0, 0, 0), (.iload_n 1, 1, 0, 0, 0, 0), (.aload_n 0, 1, 0, 0, 0, 0), (.getfield 36, 3, 5, 5, 2, 0), (.getfield 188, 3, 9, 3, 2, 0), (.iload_n 3, 1, 0, 0, 0, 0)]
theorem sk_35_51 : segB 5 false prog_7_method_11_code 51 sg_35_51 = true := by decide +kernel
def sg_35_66 : List RI := [(.iinc 3 1, 3, 0, 0, 0, 1)]
theorem sk_35_66 : segB 5 false prog_7_method_11_code 66 sg_35_66 = true := by decide +kernel
theorem ca_35_7 : decode prog_7_method_11_code 7 = .ok (.iastore, 1) ∧ lnkB 5 false 7 (.iastore, 1, 0, 0, 0, 0) = true := by decide +kernel
theorem ck_35_20 : decode prog_7_method_11_code 20 = .ok (.invokevirtual 182, 3) ∧ lnkB 5 false 20 (.invokevirtual 182, 3, 42, 0, 0, 0) = true := by decide +kernel
theorem ca_35_28 : decode prog_7_method_11_code 28 = .ok (.iaload, 1) ∧ lnkB 5 false 28 (.iaload, 1, 0, 0, 0, 0) = true := by decide +kernel
theorem ck_35_40 : decode prog_7_method_11_code 40 = .ok (.if_icmp .ge 32, 3) ∧ lnkB 5 false 40 (.if_icmp .ge 32, 3, 72, 0, 0, 0) = true := by decide +kernel
theorem ck_35_48 : decode prog_7_method_11_code 48 = .ok (.ifCond .eq 18, 3) ∧ lnkB 5 false 48 (.ifCond .eq 18, 3, 66, 0, 0, 0) = true := by decide +kernel
theorem ca_35_62 : decode prog_7_method_11_code 62 = .ok (.iaload, 1) ∧ lnkB 5 false 62 (.iaload, 1, 0, 0, 0, 0) = true := by decide +kernel
theorem ck_35_63 : decode prog_7_method_11_code 63 = .ok (.invokevirtual 102, 3) ∧ lnkB 5 false 63 (.invokevirtual 102, 3, 27, 0, 0, 0) = true := by decide +kernel
theorem ck_35_69 : decode prog_7_method_11_code 69 = .ok (.goto (-37), 3) ∧ lnkB 5 false 69 (.goto (-37), 3, 32, 0, 0, 0) = true := by decide +kernel
theorem ck_35_72 : decode prog_7_method_11_code 72 = .ok (.return_, 1) ∧ lnkB 5 false 72 (.return_, 1, 0, 0, 0, 0) = true := by decide +kernel
abbrev RU_35 (d : Nat) (cp : Nat × Nat) (Post : Option Value → Sto → Prop) : PP := Runs (Ex d) prog_7_method_11_code 5 false 4 none none cp Post
theorem en_35 {d : Nat} {As : List Value} {S : Sto} {mc ms : Nat} {Post : Option Value → Sto → Prop} (hc : cats As ≤ 4) (h : RU_35 d (mc, ms) Post 0 (lv_args 0 As) [] S 0 0) : Ex (d + 1) 35 As S mc ms Post := ⟨by decide, hc, h⟩
def sg_36_0 : List RI := [(.aload_n 0, 1, 0, 0, 0, 0), (.getfield 40, 3, 5, 6, 2, 0), (.getfield 93, 3, 0, 6, 0, 0), (.istore_n 1, 1, 0, 0, 0, 0)]
theorem sk_36_0 : segB 5 false prog_7_method_16_code 0 sg_36_0 = true := by decide +kernel
def sg_36_8 : List RI := [(.iload_n 1, 1, 0, 0, 0, 0), (.aload_n 0, 1, 0, 0, 0, 0), (.getfield 40, 3, 5, 6, 2, 0), (.getfield 96, 3, 0, 5, 0, 0)]
theorem sk_36_8 : segB 5 false prog_7_method_16_code 8 sg_36_8 = true := by decide +kernel
def sg_36_19 : List RI := [(.aload_n 0, 1, 0, 0, 0, 0), (.getfield 40, 3, 5, 6, 2, 0), (.getfield 150, 3, 0, 4, 2, 0), (.iload_n 1, 1, 0, 0, 0, 0)]
theorem sk_36_19 : segB 5 false prog_7_method_16_code 19 sg_36_19 = true := by decide +kernel
def sg_36_28 : List RI := [(.iconst 3, 1, 0, 0, 0, 3)]
theorem sk_36_28 : segB 5 false prog_7_method_16_code 28 sg_36_28 = true := by decide +kernel
def sg_36_32 : List RI := [(.aload_n 0, 1, 0, 0, 0, 0), (.getfield 40, 3, 5, 6, 2, 0), (.getfield 150, 3, 0, 4, 2, 0), (.iload_n 1, 1, 0, 0, 0, 0), (.iconst 2, 1, 0, 0, 0, 2)]
theorem sk_36_32 : segB 5 false prog_7_method_16_code 32 sg_36_32 = true := by decide +kernel
def sg_36_42 : List RI := [(.aload_n 0, 1, 0, 0, 0, 0), (.getfield 28, 3, 5, 3, 2, 0), (.getfield 138, 3, 3, 0, 2, 0), (.aload_n 0, 1, 0, 0, 0, 0), (.getfield 40, 3, 5, 6, 2, 0), (.getfield 144, 3, 0, 0, 2, 0), (.iload_n 1, 1, 0, 0, 0, 0)]
theorem sk_36_42 : segB 5 false prog_7_method_16_code 42 sg_36_42 = true := by decide +kernel
def sg_36_59 : List RI := [(.astore_n 2, 1, 0, 0, 0, 0), (.aload_n 2, 1, 0, 0, 0, 0), (.getfield 214, 3, 2, 8, 0, 0), (.iload_n 1, 1, 0, 0, 0, 0)]
theorem sk_36_59 : segB 5 false prog_7_method_16_code 59 sg_36_59 = true := by decide +kernel
def sg_36_68 : List RI := [(.aload_n 2, 1, 0, 0, 0, 0), (.aload_n 0, 1, 0, 0, 0, 0), (.getfield 24, 3, 5, 2, 2, 0), (.getfield 129, 3, 1, 4, 0, 0)]
theorem sk_36_68 : segB 5 false prog_7_method_16_code 68 sg_36_68 = true := by decide +kernel
def sg_36_79 : List RI := [(.iinc 1 1, 3, 0, 0, 0, 1)]
theorem sk_36_79 : segB 5 false prog_7_method_16_code 79 sg_36_79 = true := by decide +kernel
def sg_36_85 : List RI := [(.iconst 0, 1, 0, 0, 0, 0), (.istore_n 1, 1, 0, 0, 0, 0)]
theorem sk_36_85 : segB 5 false prog_7_method_16_code 85 sg_36_85 = true := by decide +kernel
def sg_36_87 : List RI := [(.iload_n 1, 1, 0, 0, 0, 0), (.aload_n 0, 1, 0, 0, 0, 0), (.getfield 84, 3, 5, 1, 0, 0)]
theorem sk_36_87 : segB 5 false prog_7_method_16_code 87 sg_36_87 = true := by decide +kernel
def sg_36_95 : List RI := [(.aload_n 0, 1, 0, 0, 0, 0), (.getfield 18, 3, 5, 8, 2, 0), (.iload_n 1, 1, 0, 0, 0, 0)]
theorem sk_36_95 : segB 5 false prog_7_method_16_code 95 sg_36_95 = true := by decide +kernel
def sg_36_101 : List RI := [(.istore_n 2, 1, 0, 0, 0, 0), (.aload_n 0, 1, 0, 0, 0, 0), (.getfield 9, 3, 5, 0, 2, 0), (.iload_n 2, 1, 0, 0, 0, 0)]
theorem sk_36_101 : segB 5 false prog_7_method_16_code 101 sg_36_101 = true := by decide +kernel
def sg_36_108 : List RI := [(.bipush 11, 2, 0, 0, 0, 11)]
theorem sk_36_108 : segB 5 false prog_7_method_16_code 108 sg_36_108 = true := by decide +kernel
def sg_36_113 : List RI := [(.aload_n 0, 1, 0, 0, 0, 0), (.getfield 9, 3, 5, 0, 2, 0), (.iload_n 2, 1, 0, 0, 0, 0)]
theorem sk_36_113 : segB 5 false prog_7_method_16_code 113 sg_36_113 = true := by decide +kernel
def sg_36_119 : List RI := [(.bipush 12, 2, 0, 0, 0, 12)]
theorem sk_36_119 : segB 5 false prog_7_method_16_code 119 sg_36_119 = true := by decide +kernel
def sg_36_124 : List RI := [(.aload_n 0, 1, 0, 0, 0, 0), (.getfield 9, 3, 5, 0, 2, 0), (.iload_n 2, 1, 0, 0, 0, 0), (.iconst 5, 1, 0, 0, 0, 5)]
theorem sk_36_124 : segB 5 false prog_7_method_16_code 124 sg_36_124 = true := by decide +kernel
def sg_36_131 : List RI := [(.iinc 1 1, 3, 0, 0, 0, 1)]
theorem sk_36_131 : segB 5 false prog_7_method_16_code 131 sg_36_131 = true := by decide +kernel
theorem ck_36_16 : decode prog_7_method_16_code 16 = .ok (.if_icmp .ge 69, 3) ∧ lnkB 5 false 16 (.if_icmp .ge 69, 3, 85, 0, 0, 0) = true := by decide +kernel
theorem ca_36_27 : decode prog_7_method_16_code 27 = .ok (.iaload, 1) ∧ lnkB 5 false 27 (.iaload, 1, 0, 0, 0, 0) = true := by decide +kernel
theorem ck_36_29 : decode prog_7_method_16_code 29 = .ok (.if_icmp .ne 50, 3) ∧ lnkB 5 false 29 (.if_icmp .ne 50, 3, 79, 0, 0, 0) = true := by decide +kernel
theorem ca_36_41 : decode prog_7_method_16_code 41 = .ok (.iastore, 1) ∧ lnkB 5 false 41 (.iastore, 1, 0, 0, 0, 0) = true := by decide +kernel
theorem ca_36_57 : decode prog_7_method_16_code 57 = .ok (.iaload, 1) ∧ lnkB 5 false 57 (.iaload, 1, 0, 0, 0, 0) = true := by decide +kernel
theorem ca_36_58 : decode prog_7_method_16_code 58 = .ok (.aaload, 1) ∧ lnkB 5 false 58 (.aaload, 1, 0, 0, 0, 0) = true := by decide +kernel
theorem ck_36_65 : decode prog_7_method_16_code 65 = .ok (.if_icmp .ne 14, 3) ∧ lnkB 5 false 65 (.if_icmp .ne 14, 3, 79, 0, 0, 0) = true := by decide +kernel
theorem ck_36_76 : decode prog_7_method_16_code 76 = .ok (.invokevirtual 223, 3) ∧ lnkB 5 false 76 (.invokevirtual 223, 3, 12, 0, 0, 0) = true := by decide +kernel
theorem ck_36_82 : decode prog_7_method_16_code 82 = .ok (.goto (-74), 3) ∧ lnkB 5 false 82 (.goto (-74), 3, 8, 0, 0, 0) = true := by decide +kernel
theorem ck_36_92 : decode prog_7_method_16_code 92 = .ok (.if_icmp .ge 45, 3) ∧ lnkB 5 false 92 (.if_icmp .ge 45, 3, 137, 0, 0, 0) = true := by decide +kernel
theorem ca_36_100 : decode prog_7_method_16_code 100 = .ok (.iaload, 1) ∧ lnkB 5 false 100 (.iaload, 1, 0, 0, 0, 0) = true := by decide +kernel
theorem ca_36_107 : decode prog_7_method_16_code 107 = .ok (.iaload, 1) ∧ lnkB 5 false 107 (.iaload, 1, 0, 0, 0, 0) = true := by decide +kernel
theorem ck_36_110 : decode prog_7_method_16_code 110 = .ok (.if_icmp .eq 14, 3) ∧ lnkB 5 false 110 (.if_icmp .eq 14, 3, 124, 0, 0, 0) = true := by decide +kernel
theorem ca_36_118 : decode prog_7_method_16_code 118 = .ok (.iaload, 1) ∧ lnkB 5 false 118 (.iaload, 1, 0, 0, 0, 0) = true := by decide +kernel
theorem ck_36_121 : decode prog_7_method_16_code 121 = .ok (.if_icmp .ne 10, 3) ∧ lnkB 5 false 121 (.if_icmp .ne 10, 3, 131, 0, 0, 0) = true := by decide +kernel
theorem ca_36_130 : decode prog_7_method_16_code 130 = .ok (.iastore, 1) ∧ lnkB 5 false 130 (.iastore, 1, 0, 0, 0, 0) = true := by decide +kernel
theorem ck_36_134 : decode prog_7_method_16_code 134 = .ok (.goto (-47), 3) ∧ lnkB 5 false 134 (.goto (-47), 3, 87, 0, 0, 0) = true := by decide +kernel
theorem ck_36_137 : decode prog_7_method_16_code 137 = .ok (.return_, 1) ∧ lnkB 5 false 137 (.return_, 1, 0, 0, 0, 0) = true := by decide +kernel
abbrev RU_36 (d : Nat) (cp : Nat × Nat) (Post : Option Value → Sto → Prop) : PP := Runs (Ex d) prog_7_method_16_code 5 false 3 none none cp Post
theorem en_36 {d : Nat} {As : List Value} {S : Sto} {mc ms : Nat} {Post : Option Value → Sto → Prop} (hc : cats As ≤ 3) (h : RU_36 d (mc, ms) Post 0 (lv_args 0 As) [] S 0 0) : Ex (d + 1) 36 As S mc ms Post := ⟨by decide, hc, h⟩
def sg_37_0 : List RI := [(.iconst 0, 1, 0, 0, 0, 0), (.istore_n 1, 1, 0, 0, 0, 0), (.iconst 0, 1, 0, 0, 0, 0), (.istore_n 2, 1, 0, 0, 0, 0)]
theorem sk_37_0 : segB 5 false prog_7_method_3_code 0 sg_37_0 = true := by decide +kernel
def sg_37_4 : List RI := [(.iload_n 2, 1, 0, 0, 0, 0), (.sipush 192, 3, 0, 0, 0, 192)]
theorem sk_37_4 : segB 5 false prog_7_method_3_code 4 sg_37_4 = true := by decide +kernel
def sg_37_11 : List RI := [(.aload_n 0, 1, 0, 0, 0, 0), (.getfield 9, 3, 5, 0, 2, 0), (.iload_n 2, 1, 0, 0, 0, 0)]
theorem sk_37_11 : segB 5 false prog_7_method_3_code 11 sg_37_11 = true := by decide +kernel
def sg_37_17 : List RI := [(.iconst 1, 1, 0, 0, 0, 1), (.iconst 5, 1, 0, 0, 0, 5)]
theorem sk_37_17 : segB 5 false prog_7_method_3_code 17 sg_37_17 = true := by decide +kernel
def sg_37_25 : List RI := [(.iinc 1 1, 3, 0, 0, 0, 1)]
theorem sk_37_25 : segB 5 false prog_7_method_3_code 25 sg_37_25 = true := by decide +kernel
def sg_37_28 : List RI := [(.iinc 2 1, 3, 0, 0, 0, 1)]
theorem sk_37_28 : segB 5 false prog_7_method_3_code 28 sg_37_28 = true := by decide +kernel
def sg_37_34 : List RI := [(.iload_n 1, 1, 0, 0, 0, 0)]
theorem sk_37_34 : segB 5 false prog_7_method_3_code 34 sg_37_34 = true := by decide +kernel
theorem ck_37_8 : decode prog_7_method_3_code 8 = .ok (.if_icmp .ge 26, 3) ∧ lnkB 5 false 8 (.if_icmp .ge 26, 3, 34, 0, 0, 0) = true := by decide +kernel
theorem ca_37_16 : decode prog_7_method_3_code 16 = .ok (.iaload, 1) ∧ lnkB 5 false 16 (.iaload, 1, 0, 0, 0, 0) = true := by decide +kernel
theorem ck_37_19 : decode prog_7_method_3_code 19 = .ok (.invokestatic 74, 3) ∧ lnkB 5 false 19 (.invokestatic 74, 3, 57, 1, 0, 0) = true := by decide +kernel
theorem ck_37_22 : decode prog_7_method_3_code 22 = .ok (.ifCond .eq 6, 3) ∧ lnkB 5 false 22 (.ifCond .eq 6, 3, 28, 0, 0, 0) = true := by decide +kernel
theorem ck_37_31 : decode prog_7_method_3_code 31 = .ok (.goto (-27), 3) ∧ lnkB 5 false 31 (.goto (-27), 3, 4, 0, 0, 0) = true := by decide +kernel
theorem ck_37_35 : decode prog_7_method_3_code 35 = .ok (.ireturn, 1) ∧ lnkB 5 false 35 (.ireturn, 1, 0, 0, 0, 0) = true := by decide +kernel
abbrev RU_37 (d : Nat) (cp : Nat × Nat) (Post : Option Value → Sto → Prop) : PP := Runs (Ex d) prog_7_method_3_code 5 false 3 (some .int) none cp Post
theorem en_37 {d : Nat} {As : List Value} {S : Sto} {mc ms : Nat} {Post : Option Value → Sto → Prop} (hc : cats As ≤ 3) (h : RU_37 d (mc, ms) Post 0 (lv_args 0 As) [] S 0 0) : Ex (d + 1) 37 As S mc ms Post := ⟨by decide, hc, h⟩
def sg_38_0 : List RI := [(.aload_n 0, 1, 0, 0, 0, 0), (.invokespecial 3, 3, 0, 4, 0, 0), (.aload_n 0, 1, 0, 0, 0, 0), (.bipush 6, 2, 0, 0, 0, 6), (.newarray .int, 2, 13, 0, 0, 0), (.putfield 9, 3, 6, 0, 2, 0), (.aload_n 0, 1, 0, 0, 0, 0), (.bipush 6, 2, 0, 0, 0, 6), (.newarray .int, 2, 13, 0, 0, 0), (.putfield 15, 3, 6, 1, 2, 0), (.aload_n 0, 1, 0, 0, 0, 0), (.bipush 6, 2, 0, 0, 0, 6), (.newarray .int, 2, 13, 0, 0, 0), (.putfield 18, 3, 6, 2, 2, 0), (.aload_n 0, 1, 0, 0, 0, 0), (.bipush 24, 2, 0, 0, 0, 24), (.newarray .int, 2, 13, 0, 0, 0), (.putfield 21, 3, 6, 3, 2, 0), (.aload_n 0, 1, 0, 0, 0, 0), (.bipush 24, 2, 0, 0, 0, 24), (.newarray .int, 2, 13, 0, 0, 0), (.putfield 24, 3, 6, 4, 2, 0), (.aload_n 0, 1, 0, 0, 0, 0), (.bipush 24, 2, 0, 0, 0, 24), (.newarray .int, 2, 13, 0, 0, 0), (.putfield 27, 3, 6, 5, 2, 0), (.aload_n 0, 1, 0, 0, 0, 0), (.bipush 24, 2, 0, 0, 0, 24), (.newarray .boolean, 2, 15, 0, 0, 0), (.putfield 30, 3, 6, 6, 2, 0), (.aload_n 0, 1, 0, 0, 0, 0), (.sipush 192, 3, 0, 0, 0, 192), (.newarray .boolean, 2, 15, 0, 0, 0), (.putfield 34, 3, 6, 7, 2, 0), (.aload_n 0, 1, 0, 0, 0, 0), (.sipush 192, 3, 0, 0, 0, 192), (.newarray .int, 2, 13, 0, 0, 0), (.putfield 37, 3, 6, 8, 2, 0), (.aload_n 0, 1, 0, 0, 0, 0), (.sipush 768, 3, 0, 0, 0, 768), (.newarray .int, 2, 13, 0, 0, 0), (.putfield 40, 3, 6, 9, 2, 0), (.aload_n 0, 1, 0, 0, 0, 0), (.sipush 768, 3, 0, 0, 0, 768), (.newarray .int, 2, 13, 0, 0, 0), (.putfield 43, 3, 6, 10, 2, 0), (.aload_n 0, 1, 0, 0, 0, 0), (.sipush 768, 3, 0, 0, 0, 768), (.newarray .int, 2, 13, 0, 0, 0), (.putfield 46, 3, 6, 11, 2, 0), (.aload_n 0, 1, 0, 0, 0, 0), (.sipush 768, 3, 0, 0, 0, 768), (.newarray .int, 2, 13, 0, 0, 0), (.putfield 49, 3, 6, 12, 2, 0), (.aload_n 0, 1, 0, 0, 0, 0), (.getfield 15, 3, 6, 1, 2, 0), (.iconst 1, 1, 0, 0, 0, 1)]
theorem sk_38_0 : segB 6 true prog_8_method_1_code 0 sg_38_0 = true := by decide +kernel
def sg_38_122 : List RI := [(.aload_n 0, 1, 0, 0, 0, 0), (.getfield 27, 3, 6, 5, 2, 0), (.iconst 5, 1, 0, 0, 0, 5)]
theorem sk_38_122 : segB 6 true prog_8_method_1_code 122 sg_38_122 = true := by decide +kernel
def sg_38_130 : List RI := [(.aload_n 0, 1, 0, 0, 0, 0), (.getfield 43, 3, 6, 10, 2, 0), (.iconst (-1), 1, 0, 0, 0, -1)]
theorem sk_38_130 : segB 6 true prog_8_method_1_code 130 sg_38_130 = true := by decide +kernel
theorem ck_38_119 : decode prog_8_method_1_code 119 = .ok (.invokestatic 52, 3) ∧ lnkB 6 true 119 (.invokestatic 52, 3, 130, 0, 0, 0) = true := by decide +kernel
theorem ck_38_127 : decode prog_8_method_1_code 127 = .ok (.invokestatic 52, 3) ∧ lnkB 6 true 127 (.invokestatic 52, 3, 130, 0, 0, 0) = true := by decide +kernel
theorem ck_38_135 : decode prog_8_method_1_code 135 = .ok (.invokestatic 52, 3) ∧ lnkB 6 true 135 (.invokestatic 52, 3, 130, 0, 0, 0) = true := by decide +kernel
theorem ck_38_138 : decode prog_8_method_1_code 138 = .ok (.return_, 1) ∧ lnkB 6 true 138 (.return_, 1, 0, 0, 0, 0) = true := by decide +kernel
abbrev RU_38 (d : Nat) (cp : Nat × Nat) (Post : Option Value → Sto → Prop) : PP := Runs (Ex d) prog_8_method_1_code 6 true 1 none none cp Post
theorem en_38 {d : Nat} {As : List Value} {S : Sto} {mc ms : Nat} {Post : Option Value → Sto → Prop} (hc : cats As ≤ 1) (h : RU_38 d (mc, ms) Post 0 (lv_args 0 As) [] S 0 0) : Ex (d + 1) 38 As S mc ms Post := ⟨by decide, hc, h⟩
def sg_39_0 : List RI := [(.aload_n 0, 1, 0, 0, 0, 0), (.iload_n 1, 1, 0, 0, 0, 0), (.iload_n 2, 1, 0, 0, 0, 0)]
theorem sk_39_0 : segB 6 false prog_8_method_4_code 0 sg_39_0 = true := by decide +kernel
def sg_39_6 : List RI := [(.istore_n 3, 1, 0, 0, 0, 0), (.iload_n 1, 1, 0, 0, 0, 0), (.iconst 4, 1, 0, 0, 0, 4), (.imul, 1, 0, 0, 0, 0), (.iload_n 2, 1, 0, 0, 0, 0), (.iadd, 1, 0, 0, 0, 0), (.istore 4, 2, 0, 0, 0, 0), (.aload_n 0, 1, 0, 0, 0, 0), (.getfield 21, 3, 6, 3, 2, 0), (.iload_n 3, 1, 0, 0, 0, 0)]
theorem sk_39_6 : segB 6 false prog_8_method_4_code 6 sg_39_6 = true := by decide +kernel
def sg_39_48 : List RI := [(.aload_n 0, 1, 0, 0, 0, 0), (.getfield 43, 3, 6, 10, 2, 0), (.iload 4, 2, 0, 0, 0, 0)]
theorem sk_39_48 : segB 6 false prog_8_method_4_code 48 sg_39_48 = true := by decide +kernel
def sg_39_55 : List RI := [(.iconst (-1), 1, 0, 0, 0, -1)]
theorem sk_39_55 : segB 6 false prog_8_method_4_code 55 sg_39_55 = true := by decide +kernel
def sg_39_59 : List RI := [(.iconst 0, 1, 0, 0, 0, 0)]
theorem sk_39_59 : segB 6 false prog_8_method_4_code 59 sg_39_59 = true := by decide +kernel
def sg_39_63 : List RI := [(.iconst 1, 1, 0, 0, 0, 1)]
theorem sk_39_63 : segB 6 false prog_8_method_4_code 63 sg_39_63 = true := by decide +kernel
def sg_39_65 : List RI := [(.aload_n 0, 1, 0, 0, 0, 0), (.getfield 46, 3, 6, 11, 2, 0), (.iload 4, 2, 0, 0, 0, 0)]
theorem sk_39_65 : segB 6 false prog_8_method_4_code 65 sg_39_65 = true := by decide +kernel
def sg_39_72 : List RI := [(.aload_n 0, 1, 0, 0, 0, 0), (.getfield 27, 3, 6, 5, 2, 0), (.iload_n 3, 1, 0, 0, 0, 0)]
theorem sk_39_72 : segB 6 false prog_8_method_4_code 72 sg_39_72 = true := by decide +kernel
def sg_39_78 : List RI := [(.invokestatic 62, 3, 0, 2, 0, 0)]
theorem sk_39_78 : segB 6 false prog_8_method_4_code 78 sg_39_78 = true := by decide +kernel
def sg_39_82 : List RI := [(.iconst 0, 1, 0, 0, 0, 0)]
theorem sk_39_82 : segB 6 false prog_8_method_4_code 82 sg_39_82 = true := by decide +kernel
theorem ck_39_3 : decode prog_8_method_4_code 3 = .ok (.invokevirtual 58, 3) ∧ lnkB 6 false 3 (.invokevirtual 58, 3, 40, 0, 0, 0) = true := by decide +kernel
theorem ca_39_19 : decode prog_8_method_4_code 19 = .ok (.iaload, 1) ∧ lnkB 6 false 19 (.iaload, 1, 0, 0, 0, 0) = true := by decide +kernel
theorem ck_39_20 : decode prog_8_method_4_code 20 = .ok (.lookupswitch 62 #[(1, 28), (2, 45)], 28) ∧ lnkB 6 false 20 (.lookupswitch 62 #[(1, 28), (2, 45)], 28, 0, 0, 0, 0) = true := by decide +kernel
theorem ca_39_54 : decode prog_8_method_4_code 54 = .ok (.iaload, 1) ∧ lnkB 6 false 54 (.iaload, 1, 0, 0, 0, 0) = true := by decide +kernel
theorem ck_39_56 : decode prog_8_method_4_code 56 = .ok (.if_icmp .ne 7, 3) ∧ lnkB 6 false 56 (.if_icmp .ne 7, 3, 63, 0, 0, 0) = true := by decide +kernel
theorem ck_39_60 : decode prog_8_method_4_code 60 = .ok (.goto 4, 3) ∧ lnkB 6 false 60 (.goto 4, 3, 64, 0, 0, 0) = true := by decide +kernel
theorem ck_39_64 : decode prog_8_method_4_code 64 = .ok (.ireturn, 1) ∧ lnkB 6 false 64 (.ireturn, 1, 0, 0, 0, 0) = true := by decide +kernel
theorem ca_39_71 : decode prog_8_method_4_code 71 = .ok (.iaload, 1) ∧ lnkB 6 false 71 (.iaload, 1, 0, 0, 0, 0) = true := by decide +kernel
theorem ca_39_77 : decode prog_8_method_4_code 77 = .ok (.iaload, 1) ∧ lnkB 6 false 77 (.iaload, 1, 0, 0, 0, 0) = true := by decide +kernel
theorem ck_39_81 : decode prog_8_method_4_code 81 = .ok (.ireturn, 1) ∧ lnkB 6 false 81 (.ireturn, 1, 0, 0, 0, 0) = true := by decide +kernel
theorem ck_39_83 : decode prog_8_method_4_code 83 = .ok (.ireturn, 1) ∧ lnkB 6 false 83 (.ireturn, 1, 0, 0, 0, 0) = true := by decide +kernel
abbrev RU_39 (d : Nat) (cp : Nat × Nat) (Post : Option Value → Sto → Prop) : PP := Runs (Ex d) prog_8_method_4_code 6 false 5 (some .int) none cp Post
theorem en_39 {d : Nat} {As : List Value} {S : Sto} {mc ms : Nat} {Post : Option Value → Sto → Prop} (hc : cats As ≤ 5) (h : RU_39 d (mc, ms) Post 0 (lv_args 0 As) [] S 0 0) : Ex (d + 1) 39 As S mc ms Post := ⟨by decide, hc, h⟩
def sg_40_0 : List RI := [(.iload_n 1, 1, 0, 0, 0, 0), (.bipush 32, 2, 0, 0, 0, 32), (.idiv, 1, 0, 0, 0, 0), (.iconst 4, 1, 0, 0, 0, 4), (.imul, 1, 0, 0, 0, 0), (.iload_n 2, 1, 0, 0, 0, 0), (.iadd, 1, 0, 0, 0, 0)]
theorem sk_40_0 : segB 6 false prog_8_method_3_code 0 sg_40_0 = true := by decide +kernel
theorem ck_40_8 : decode prog_8_method_3_code 8 = .ok (.ireturn, 1) ∧ lnkB 6 false 8 (.ireturn, 1, 0, 0, 0, 0) = true := by decide +kernel
abbrev RU_40 (d : Nat) (cp : Nat × Nat) (Post : Option Value → Sto → Prop) : PP := Runs (Ex d) prog_8_method_3_code 6 false 3 (some .int) none cp Post
theorem en_40 {d : Nat} {As : List Value} {S : Sto} {mc ms : Nat} {Post : Option Value → Sto → Prop} (hc : cats As ≤ 3) (h : RU_40 d (mc, ms) Post 0 (lv_args 0 As) [] S 0 0) : Ex (d + 1) 40 As S mc ms Post := ⟨by decide, hc, h⟩
def sg_41_0 : List RI := [(.aload_n 0, 1, 0, 0, 0, 0), (.iload_n 1, 1, 0, 0, 0, 0), (.iload_n 2, 1, 0, 0, 0, 0)]
theorem sk_41_0 : segB 6 false prog_8_method_5_code 0 sg_41_0 = true := by decide +kernel
def sg_41_6 : List RI := [(.istore 4, 2, 0, 0, 0, 0), (.iload_n 1, 1, 0, 0, 0, 0), (.iconst 4, 1, 0, 0, 0, 4), (.imul, 1, 0, 0, 0, 0), (.iload_n 2, 1, 0, 0, 0, 0), (.iadd, 1, 0, 0, 0, 0), (.istore 5, 2, 0, 0, 0, 0), (.aload_n 0, 1, 0, 0, 0, 0), (.getfield 21, 3, 6, 3, 2, 0), (.iload 4, 2, 0, 0, 0, 0)]
theorem sk_41_6 : segB 6 false prog_8_method_5_code 6 sg_41_6 = true := by decide +kernel
def sg_41_22 : List RI := [(.iconst 1, 1, 0, 0, 0, 1)]
theorem sk_41_22 : segB 6 false prog_8_method_5_code 22 sg_41_22 = true := by decide +kernel
def sg_41_26 : List RI := [(.aload_n 0, 1, 0, 0, 0, 0), (.getfield 43, 3, 6, 10, 2, 0), (.iload 5, 2, 0, 0, 0, 0)]
theorem sk_41_26 : segB 6 false prog_8_method_5_code 26 sg_41_26 = true := by decide +kernel
def sg_41_36 : List RI := [(.aload_n 0, 1, 0, 0, 0, 0), (.getfield 49, 3, 6, 12, 2, 0), (.iload 5, 2, 0, 0, 0, 0)]
theorem sk_41_36 : segB 6 false prog_8_method_5_code 36 sg_41_36 = true := by decide +kernel
def sg_41_43 : List RI := [(.iload_n 3, 1, 0, 0, 0, 0), (.iconst 5, 1, 0, 0, 0, 5), (.imul, 1, 0, 0, 0, 0), (.iushr, 1, 0, 0, 0, 0)]
theorem sk_41_43 : segB 6 false prog_8_method_5_code 43 sg_41_43 = true := by decide +kernel
def sg_41_47 : List RI := [(.istore 6, 2, 0, 0, 0, 0), (.aload_n 0, 1, 0, 0, 0, 0), (.getfield 24, 3, 6, 4, 2, 0), (.iload 4, 2, 0, 0, 0, 0)]
theorem sk_41_47 : segB 6 false prog_8_method_5_code 47 sg_41_47 = true := by decide +kernel
def sg_41_56 : List RI := [(.bipush 32, 2, 0, 0, 0, 32), (.imul, 1, 0, 0, 0, 0), (.iload 6, 2, 0, 0, 0, 0), (.bipush 31, 2, 0, 0, 0, 31), (.iand, 1, 0, 0, 0, 0), (.iadd, 1, 0, 0, 0, 0)]
theorem sk_41_56 : segB 6 false prog_8_method_5_code 56 sg_41_56 = true := by decide +kernel
theorem ck_41_3 : decode prog_8_method_5_code 3 = .ok (.invokevirtual 58, 3) ∧ lnkB 6 false 3 (.invokevirtual 58, 3, 40, 0, 0, 0) = true := by decide +kernel
theorem ca_41_21 : decode prog_8_method_5_code 21 = .ok (.iaload, 1) ∧ lnkB 6 false 21 (.iaload, 1, 0, 0, 0, 0) = true := by decide +kernel
theorem ck_41_23 : decode prog_8_method_5_code 23 = .ok (.if_icmp .ne 13, 3) ∧ lnkB 6 false 23 (.if_icmp .ne 13, 3, 36, 0, 0, 0) = true := by decide +kernel
theorem ca_41_32 : decode prog_8_method_5_code 32 = .ok (.iaload, 1) ∧ lnkB 6 false 32 (.iaload, 1, 0, 0, 0, 0) = true := by decide +kernel
theorem ck_41_33 : decode prog_8_method_5_code 33 = .ok (.goto 14, 3) ∧ lnkB 6 false 33 (.goto 14, 3, 47, 0, 0, 0) = true := by decide +kernel
theorem ca_41_42 : decode prog_8_method_5_code 42 = .ok (.iaload, 1) ∧ lnkB 6 false 42 (.iaload, 1, 0, 0, 0, 0) = true := by decide +kernel
theorem ca_41_55 : decode prog_8_method_5_code 55 = .ok (.iaload, 1) ∧ lnkB 6 false 55 (.iaload, 1, 0, 0, 0, 0) = true := by decide +kernel
theorem ck_41_65 : decode prog_8_method_5_code 65 = .ok (.ireturn, 1) ∧ lnkB 6 false 65 (.ireturn, 1, 0, 0, 0, 0) = true := by decide +kernel
abbrev RU_41 (d : Nat) (cp : Nat × Nat) (Post : Option Value → Sto → Prop) : PP := Runs (Ex d) prog_8_method_5_code 6 false 7 (some .int) none cp Post
theorem en_41 {d : Nat} {As : List Value} {S : Sto} {mc ms : Nat} {Post : Option Value → Sto → Prop} (hc : cats As ≤ 7) (h : RU_41 d (mc, ms) Post 0 (lv_args 0 As) [] S 0 0) : Ex (d + 1) 41 As S mc ms Post := ⟨by decide, hc, h⟩
def sg_42_0 : List RI := [(.aload_n 0, 1, 0, 0, 0, 0), (.getfield 18, 3, 6, 2, 2, 0), (.iload_n 1, 1, 0, 0, 0, 0), (.bipush 32, 2, 0, 0, 0, 32), (.idiv, 1, 0, 0, 0, 0)]
theorem sk_42_0 : segB 6 false prog_8_method_2_code 0 sg_42_0 = true := by decide +kernel
def sg_42_9 : List RI := [(.istore_n 3, 1, 0, 0, 0, 0), (.iload_n 3, 1, 0, 0, 0, 0)]
theorem sk_42_9 : segB 6 false prog_8_method_2_code 9 sg_42_9 = true := by decide +kernel
def sg_42_14 : List RI := [(.aload_n 0, 1, 0, 0, 0, 0), (.getfield 37, 3, 6, 8, 2, 0), (.iload_n 1, 1, 0, 0, 0, 0), (.iload_n 2, 1, 0, 0, 0, 0), (.iload_n 3, 1, 0, 0, 0, 0), (.iadd, 1, 0, 0, 0, 0)]
theorem sk_42_14 : segB 6 false prog_8_method_2_code 14 sg_42_14 = true := by decide +kernel
theorem ca_42_8 : decode prog_8_method_2_code 8 = .ok (.iaload, 1) ∧ lnkB 6 false 8 (.iaload, 1, 0, 0, 0, 0) = true := by decide +kernel
theorem ck_42_11 : decode prog_8_method_2_code 11 = .ok (.ifCond .le 12, 3) ∧ lnkB 6 false 11 (.ifCond .le 12, 3, 23, 0, 0, 0) = true := by decide +kernel
theorem ca_42_22 : decode prog_8_method_2_code 22 = .ok (.iastore, 1) ∧ lnkB 6 false 22 (.iastore, 1, 0, 0, 0, 0) = true := by decide +kernel
theorem ck_42_23 : decode prog_8_method_2_code 23 = .ok (.return_, 1) ∧ lnkB 6 false 23 (.return_, 1, 0, 0, 0, 0) = true := by decide +kernel
abbrev RU_42 (d : Nat) (cp : Nat × Nat) (Post : Option Value → Sto → Prop) : PP := Runs (Ex d) prog_8_method_2_code 6 false 4 none none cp Post
theorem en_42 {d : Nat} {As : List Value} {S : Sto} {mc ms : Nat} {Post : Option Value → Sto → Prop} (hc : cats As ≤ 4) (h : RU_42 d (mc, ms) Post 0 (lv_args 0 As) [] S 0 0) : Ex (d + 1) 42 As S mc ms Post := ⟨by decide, hc, h⟩
def sg_43_0 : List RI := [(.aload_n 0, 1, 0, 0, 0, 0), (.invokespecial 3, 3, 0, 4, 0, 0), (.aload_n 0, 1, 0, 0, 0, 0), (.sipush 200, 3, 0, 0, 0, 200), (.newarray .int, 2, 13, 0, 0, 0), (.putfield 9, 3, 7, 0, 2, 0)]
theorem sk_43_0 : segB 7 true prog_9_method_1_code 0 sg_43_0 = true := by decide +kernel
theorem ck_43_13 : decode prog_9_method_1_code 13 = .ok (.return_, 1) ∧ lnkB 7 true 13 (.return_, 1, 0, 0, 0, 0) = true := by decide +kernel
abbrev RU_43 (d : Nat) (cp : Nat × Nat) (Post : Option Value → Sto → Prop) : PP := Runs (Ex d) prog_9_method_1_code 7 true 1 none none cp Post
theorem en_43 {d : Nat} {As : List Value} {S : Sto} {mc ms : Nat} {Post : Option Value → Sto → Prop} (hc : cats As ≤ 1) (h : RU_43 d (mc, ms) Post 0 (lv_args 0 As) [] S 0 0) : Ex (d + 1) 43 As S mc ms Post := ⟨by decide, hc, h⟩
def sg_44_0 : List RI := [(.bipush 24, 2, 0, 0, 0, 24), (.istore_n 2, 1, 0, 0, 0, 0)]
theorem sk_44_0 : segB 7 false prog_9_method_2_code 0 sg_44_0 = true := by decide +kernel
def sg_44_3 : List RI := [(.iload_n 2, 1, 0, 0, 0, 0)]
theorem sk_44_3 : segB 7 false prog_9_method_2_code 3 sg_44_3 = true := by decide +kernel
def sg_44_7 : List RI := [(.aload_n 0, 1, 0, 0, 0, 0), (.getfield 15, 3, 7, 1, 0, 0), (.sipush 200, 3, 0, 0, 0, 200)]
theorem sk_44_7 : segB 7 false prog_9_method_2_code 7 sg_44_7 = true := by decide +kernel
def sg_44_17 : List RI := [(.aload_n 0, 1, 0, 0, 0, 0), (.getfield 9, 3, 7, 0, 2, 0), (.aload_n 0, 1, 0, 0, 0, 0), (.getfield 15, 3, 7, 1, 0, 0), (.iload_n 1, 1, 0, 0, 0, 0), (.iload_n 2, 1, 0, 0, 0, 0), (.iushr, 1, 0, 0, 0, 0), (.sipush 255, 3, 0, 0, 0, 255), (.iand, 1, 0, 0, 0, 0)]
theorem sk_44_17 : segB 7 false prog_9_method_2_code 17 sg_44_17 = true := by decide +kernel
def sg_44_33 : List RI := [(.aload_n 0, 1, 0, 0, 0, 0), (.dup, 1, 0, 0, 0, 0), (.getfield 15, 3, 7, 1, 0, 0), (.iconst 1, 1, 0, 0, 0, 1), (.iadd, 1, 0, 0, 0, 0), (.putfield 15, 3, 7, 1, 0, 0), (.iinc 2 (-8), 3, 0, 0, 0, -8)]
theorem sk_44_33 : segB 7 false prog_9_method_2_code 33 sg_44_33 = true := by decide +kernel
theorem ck_44_4 : decode prog_9_method_2_code 4 = .ok (.ifCond .lt 45, 3) ∧ lnkB 7 false 4 (.ifCond .lt 45, 3, 49, 0, 0, 0) = true := by decide +kernel
theorem ck_44_14 : decode prog_9_method_2_code 14 = .ok (.if_icmp .ge 35, 3) ∧ lnkB 7 false 14 (.if_icmp .ge 35, 3, 49, 0, 0, 0) = true := by decide +kernel
theorem ca_44_32 : decode prog_9_method_2_code 32 = .ok (.iastore, 1) ∧ lnkB 7 false 32 (.iastore, 1, 0, 0, 0, 0) = true := by decide +kernel
theorem ck_44_46 : decode prog_9_method_2_code 46 = .ok (.goto (-43), 3) ∧ lnkB 7 false 46 (.goto (-43), 3, 3, 0, 0, 0) = true := by decide +kernel
theorem ck_44_49 : decode prog_9_method_2_code 49 = .ok (.return_, 1) ∧ lnkB 7 false 49 (.return_, 1, 0, 0, 0, 0) = true := by decide +kernel
abbrev RU_44 (d : Nat) (cp : Nat × Nat) (Post : Option Value → Sto → Prop) : PP := Runs (Ex d) prog_9_method_2_code 7 false 3 none none cp Post
theorem en_44 {d : Nat} {As : List Value} {S : Sto} {mc ms : Nat} {Post : Option Value → Sto → Prop} (hc : cats As ≤ 3) (h : RU_44 d (mc, ms) Post 0 (lv_args 0 As) [] S 0 0) : Ex (d + 1) 44 As S mc ms Post := ⟨by decide, hc, h⟩
def sg_45_0 : List RI := [(.aload_n 0, 1, 0, 0, 0, 0), (.invokespecial 3, 3, 0, 4, 0, 0), (.aload_n 0, 1, 0, 0, 0, 0), (.sipush 3500, 3, 0, 0, 0, 3500), (.newarray .int, 2, 13, 0, 0, 0), (.putfield 11, 3, 8, 0, 2, 0), (.aload_n 0, 1, 0, 0, 0, 0), (.aload_n 1, 1, 0, 0, 0, 0), (.putfield 15, 3, 8, 2, 2, 0), (.aload_n 0, 1, 0, 0, 0, 0), (.aload_n 2, 1, 0, 0, 0, 0), (.putfield 19, 3, 8, 3, 2, 0), (.aload_n 0, 1, 0, 0, 0, 0), (.aload_n 3, 1, 0, 0, 0, 0), (.putfield 23, 3, 8, 4, 2, 0)]
theorem sk_45_0 : segB 8 true prog_10_method_1_code 0 sg_45_0 = true := by decide +kernel
theorem ck_45_28 : decode prog_10_method_1_code 28 = .ok (.return_, 1) ∧ lnkB 8 true 28 (.return_, 1, 0, 0, 0, 0) = true := by decide +kernel
abbrev RU_45 (d : Nat) (cp : Nat × Nat) (Post : Option Value → Sto → Prop) : PP := Runs (Ex d) prog_10_method_1_code 8 true 4 none none cp Post
theorem en_45 {d : Nat} {As : List Value} {S : Sto} {mc ms : Nat} {Post : Option Value → Sto → Prop} (hc : cats As ≤ 4) (h : RU_45 d (mc, ms) Post 0 (lv_args 0 As) [] S 0 0) : Ex (d + 1) 45 As S mc ms Post := ⟨by decide, hc, h⟩
def sg_46_0 : List RI := [(.aload_n 0, 1, 0, 0, 0, 0), (.iconst 0, 1, 0, 0, 0, 0), (.putfield 26, 3, 8, 1, 0, 0), (.aload_n 0, 1, 0, 0, 0, 0), (.iconst 0, 1, 0, 0, 0, 0), (.putfield 30, 3, 8, 5, 0, 0), (.aload_n 0, 1, 0, 0, 0, 0), (.iconst 0, 1, 0, 0, 0, 0), (.iload_n 1, 1, 0, 0, 0, 0), (.iconst 1, 1, 0, 0, 0, 1)]
theorem sk_46_0 : segB 8 false prog_10_method_2_code 0 sg_46_0 = true := by decide +kernel
def sg_46_17 : List RI := [(.pop, 1, 0, 0, 0, 0), (.aload_n 0, 1, 0, 0, 0, 0), (.getfield 30, 3, 8, 5, 0, 0)]
theorem sk_46_17 : segB 8 false prog_10_method_2_code 17 sg_46_17 = true := by decide +kernel
theorem ck_46_14 : decode prog_10_method_2_code 14 = .ok (.invokevirtual 34, 3) ∧ lnkB 8 false 14 (.invokevirtual 34, 3, 47, 0, 0, 0) = true := by decide +kernel
theorem ck_46_22 : decode prog_10_method_2_code 22 = .ok (.ireturn, 1) ∧ lnkB 8 false 22 (.ireturn, 1, 0, 0, 0, 0) = true := by decide +kernel
abbrev RU_46 (d : Nat) (cp : Nat × Nat) (Post : Option Value → Sto → Prop) : PP := Runs (Ex d) prog_10_method_2_code 8 false 2 (some .boolean) none cp Post
theorem en_46 {d : Nat} {As : List Value} {S : Sto} {mc ms : Nat} {Post : Option Value → Sto → Prop} (hc : cats As ≤ 2) (h : RU_46 d (mc, ms) Post 0 (lv_args 0 As) [] S 0 0) : Ex (d + 1) 46 As S mc ms Post := ⟨by decide, hc, h⟩
def sg_47_0 : List RI := [(.aload_n 0, 1, 0, 0, 0, 0), (.getfield 23, 3, 8, 4, 2, 0), (.iload_n 2, 1, 0, 0, 0, 0)]
theorem sk_47_0 : segB 8 false prog_10_method_3_code 0 sg_47_0 = true := by decide +kernel
def sg_47_6 : List RI := [(.bipush 10, 2, 0, 0, 0, 10)]
theorem sk_47_6 : segB 8 false prog_10_method_3_code 6 sg_47_6 = true := by decide +kernel
def sg_47_11 : List RI := [(.iload_n 3, 1, 0, 0, 0, 0), (.iconst 5, 1, 0, 0, 0, 5)]
theorem sk_47_11 : segB 8 false prog_10_method_3_code 11 sg_47_11 = true := by decide +kernel
def sg_47_16 : List RI := [(.iload_n 1, 1, 0, 0, 0, 0), (.iconst (-1), 1, 0, 0, 0, -1)]
theorem sk_47_16 : segB 8 false prog_10_method_3_code 16 sg_47_16 = true := by decide +kernel
def sg_47_21 : List RI := [(.aload_n 0, 1, 0, 0, 0, 0), (.aload_n 0, 1, 0, 0, 0, 0), (.getfield 23, 3, 8, 4, 2, 0), (.iload_n 2, 1, 0, 0, 0, 0)]
theorem sk_47_21 : segB 8 false prog_10_method_3_code 21 sg_47_21 = true := by decide +kernel
def sg_47_32 : List RI := [(.aload_n 0, 1, 0, 0, 0, 0), (.getfield 26, 3, 8, 1, 0, 0), (.istore 4, 2, 0, 0, 0, 0), (.aload_n 0, 1, 0, 0, 0, 0), (.iconst 1, 1, 0, 0, 0, 1)]
theorem sk_47_32 : segB 8 false prog_10_method_3_code 32 sg_47_32 = true := by decide +kernel
def sg_47_43 : List RI := [(.iconst 0, 1, 0, 0, 0, 0), (.istore 5, 2, 0, 0, 0, 0)]
theorem sk_47_43 : segB 8 false prog_10_method_3_code 43 sg_47_43 = true := by decide +kernel
def sg_47_46 : List RI := [(.iload 5, 2, 0, 0, 0, 0), (.aload_n 0, 1, 0, 0, 0, 0), (.getfield 19, 3, 8, 3, 2, 0), (.getfield 48, 3, 9, 4, 2, 0), (.iload_n 1, 1, 0, 0, 0, 0)]
theorem sk_47_46 : segB 8 false prog_10_method_3_code 46 sg_47_46 = true := by decide +kernel
def sg_47_60 : List RI := [(.iload_n 1, 1, 0, 0, 0, 0), (.bipush 6, 2, 0, 0, 0, 6), (.imul, 1, 0, 0, 0, 0), (.iload 5, 2, 0, 0, 0, 0), (.iadd, 1, 0, 0, 0, 0), (.istore 6, 2, 0, 0, 0, 0), (.aload_n 0, 1, 0, 0, 0, 0), (.iload 6, 2, 0, 0, 0, 0), (.iload_n 2, 1, 0, 0, 0, 0), (.iload_n 3, 1, 0, 0, 0, 0)]
theorem sk_47_60 : segB 8 false prog_10_method_3_code 60 sg_47_60 = true := by decide +kernel
def sg_47_77 : List RI := [(.istore 7, 2, 0, 0, 0, 0), (.iload 7, 2, 0, 0, 0, 0)]
theorem sk_47_77 : segB 8 false prog_10_method_3_code 77 sg_47_77 = true := by decide +kernel
def sg_47_84 : List RI := [(.aload_n 0, 1, 0, 0, 0, 0), (.getfield 15, 3, 8, 2, 2, 0), (.getfield 56, 3, 6, 6, 2, 0), (.aload_n 0, 1, 0, 0, 0, 0), (.getfield 15, 3, 8, 2, 2, 0), (.iload_n 2, 1, 0, 0, 0, 0), (.aload_n 0, 1, 0, 0, 0, 0), (.getfield 19, 3, 8, 3, 2, 0), (.getfield 62, 3, 9, 5, 2, 0), (.iload 6, 2, 0, 0, 0, 0)]
theorem sk_47_84 : segB 8 false prog_10_method_3_code 84 sg_47_84 = true := by decide +kernel
def sg_47_113 : List RI := [(.aload_n 0, 1, 0, 0, 0, 0), (.iload 4, 2, 0, 0, 0, 0), (.putfield 26, 3, 8, 1, 0, 0), (.aload_n 0, 1, 0, 0, 0, 0), (.bipush 6, 2, 0, 0, 0, 6)]
theorem sk_47_113 : segB 8 false prog_10_method_3_code 113 sg_47_113 = true := by decide +kernel
def sg_47_126 : List RI := [(.iinc 5 1, 3, 0, 0, 0, 1)]
theorem sk_47_126 : segB 8 false prog_10_method_3_code 126 sg_47_126 = true := by decide +kernel
def sg_47_132 : List RI := [(.iconst 1, 1, 0, 0, 0, 1)]
theorem sk_47_132 : segB 8 false prog_10_method_3_code 132 sg_47_132 = true := by decide +kernel
theorem ca_47_5 : decode prog_10_method_3_code 5 = .ok (.iaload, 1) ∧ lnkB 8 false 5 (.iaload, 1, 0, 0, 0, 0) = true := by decide +kernel
theorem ck_47_8 : decode prog_10_method_3_code 8 = .ok (.if_icmp .ne 13, 3) ∧ lnkB 8 false 8 (.if_icmp .ne 13, 3, 21, 0, 0, 0) = true := by decide +kernel
theorem ck_47_13 : decode prog_10_method_3_code 13 = .ok (.if_icmp .gt 8, 3) ∧ lnkB 8 false 13 (.if_icmp .gt 8, 3, 21, 0, 0, 0) = true := by decide +kernel
theorem ck_47_18 : decode prog_10_method_3_code 18 = .ok (.if_icmp .ne 14, 3) ∧ lnkB 8 false 18 (.if_icmp .ne 14, 3, 32, 0, 0, 0) = true := by decide +kernel
theorem ca_47_27 : decode prog_10_method_3_code 27 = .ok (.iaload, 1) ∧ lnkB 8 false 27 (.iaload, 1, 0, 0, 0, 0) = true := by decide +kernel
theorem ck_47_28 : decode prog_10_method_3_code 28 = .ok (.invokevirtual 40, 3) ∧ lnkB 8 false 28 (.invokevirtual 40, 3, 48, 0, 0, 0) = true := by decide +kernel
theorem ck_47_31 : decode prog_10_method_3_code 31 = .ok (.ireturn, 1) ∧ lnkB 8 false 31 (.ireturn, 1, 0, 0, 0, 0) = true := by decide +kernel
theorem ck_47_40 : decode prog_10_method_3_code 40 = .ok (.invokevirtual 44, 3) ∧ lnkB 8 false 40 (.invokevirtual 44, 3, 49, 0, 0, 0) = true := by decide +kernel
theorem ca_47_56 : decode prog_10_method_3_code 56 = .ok (.iaload, 1) ∧ lnkB 8 false 56 (.iaload, 1, 0, 0, 0, 0) = true := by decide +kernel
theorem ck_47_57 : decode prog_10_method_3_code 57 = .ok (.if_icmp .ge 75, 3) ∧ lnkB 8 false 57 (.if_icmp .ge 75, 3, 132, 0, 0, 0) = true := by decide +kernel
theorem ck_47_74 : decode prog_10_method_3_code 74 = .ok (.invokevirtual 53, 3) ∧ lnkB 8 false 74 (.invokevirtual 53, 3, 50, 0, 0, 0) = true := by decide +kernel
theorem ck_47_81 : decode prog_10_method_3_code 81 = .ok (.ifCond .ne 45, 3) ∧ lnkB 8 false 81 (.ifCond .ne 45, 3, 126, 0, 0, 0) = true := by decide +kernel
theorem ca_47_105 : decode prog_10_method_3_code 105 = .ok (.iaload, 1) ∧ lnkB 8 false 105 (.iaload, 1, 0, 0, 0, 0) = true := by decide +kernel
theorem ck_47_106 : decode prog_10_method_3_code 106 = .ok (.invokevirtual 65, 3) ∧ lnkB 8 false 106 (.invokevirtual 65, 3, 40, 0, 0, 0) = true := by decide +kernel
theorem ca_47_109 : decode prog_10_method_3_code 109 = .ok (.baload, 1) ∧ lnkB 8 false 109 (.baload, 1, 15, 0, 0, 0) = true := by decide +kernel
theorem ck_47_110 : decode prog_10_method_3_code 110 = .ok (.ifCond .eq 16, 3) ∧ lnkB 8 false 110 (.ifCond .eq 16, 3, 126, 0, 0, 0) = true := by decide +kernel
theorem ck_47_122 : decode prog_10_method_3_code 122 = .ok (.invokevirtual 40, 3) ∧ lnkB 8 false 122 (.invokevirtual 40, 3, 48, 0, 0, 0) = true := by decide +kernel
theorem ck_47_125 : decode prog_10_method_3_code 125 = .ok (.ireturn, 1) ∧ lnkB 8 false 125 (.ireturn, 1, 0, 0, 0, 0) = true := by decide +kernel
theorem ck_47_129 : decode prog_10_method_3_code 129 = .ok (.goto (-83), 3) ∧ lnkB 8 false 129 (.goto (-83), 3, 46, 0, 0, 0) = true := by decide +kernel
theorem ck_47_133 : decode prog_10_method_3_code 133 = .ok (.ireturn, 1) ∧ lnkB 8 false 133 (.ireturn, 1, 0, 0, 0, 0) = true := by decide +kernel
abbrev RU_47 (d : Nat) (cp : Nat × Nat) (Post : Option Value → Sto → Prop) : PP := Runs (Ex d) prog_10_method_3_code 8 false 8 (some .boolean) none cp Post
theorem en_47 {d : Nat} {As : List Value} {S : Sto} {mc ms : Nat} {Post : Option Value → Sto → Prop} (hc : cats As ≤ 8) (h : RU_47 d (mc, ms) Post 0 (lv_args 0 As) [] S 0 0) : Ex (d + 1) 47 As S mc ms Post := ⟨by decide, hc, h⟩
def sg_48_0 : List RI := [(.aload_n 0, 1, 0, 0, 0, 0), (.iconst 1, 1, 0, 0, 0, 1), (.putfield 30, 3, 8, 5, 0, 0), (.aload_n 0, 1, 0, 0, 0, 0), (.iconst 0, 1, 0, 0, 0, 0)]
theorem sk_48_0 : segB 8 false prog_10_method_5_code 0 sg_48_0 = true := by decide +kernel
def sg_48_10 : List RI := [(.aload_n 0, 1, 0, 0, 0, 0), (.iload_n 1, 1, 0, 0, 0, 0)]
theorem sk_48_10 : segB 8 false prog_10_method_5_code 10 sg_48_10 = true := by decide +kernel
def sg_48_15 : List RI := [(.iconst 0, 1, 0, 0, 0, 0)]
theorem sk_48_15 : segB 8 false prog_10_method_5_code 15 sg_48_15 = true := by decide +kernel
theorem ck_48_7 : decode prog_10_method_5_code 7 = .ok (.invokevirtual 44, 3) ∧ lnkB 8 false 7 (.invokevirtual 44, 3, 49, 0, 0, 0) = true := by decide +kernel
theorem ck_48_12 : decode prog_10_method_5_code 12 = .ok (.invokevirtual 44, 3) ∧ lnkB 8 false 12 (.invokevirtual 44, 3, 49, 0, 0, 0) = true := by decide +kernel
theorem ck_48_16 : decode prog_10_method_5_code 16 = .ok (.ireturn, 1) ∧ lnkB 8 false 16 (.ireturn, 1, 0, 0, 0, 0) = true := by decide +kernel
abbrev RU_48 (d : Nat) (cp : Nat × Nat) (Post : Option Value → Sto → Prop) : PP := Runs (Ex d) prog_10_method_5_code 8 false 2 (some .boolean) none cp Post
theorem en_48 {d : Nat} {As : List Value} {S : Sto} {mc ms : Nat} {Post : Option Value → Sto → Prop} (hc : cats As ≤ 2) (h : RU_48 d (mc, ms) Post 0 (lv_args 0 As) [] S 0 0) : Ex (d + 1) 48 As S mc ms Post := ⟨by decide, hc, h⟩
def sg_49_0 : List RI := [(.aload_n 0, 1, 0, 0, 0, 0), (.getfield 26, 3, 8, 1, 0, 0), (.sipush 3500, 3, 0, 0, 0, 3500)]
theorem sk_49_0 : segB 8 false prog_10_method_6_code 0 sg_49_0 = true := by decide +kernel
def sg_49_10 : List RI := [(.aload_n 0, 1, 0, 0, 0, 0), (.getfield 11, 3, 8, 0, 2, 0), (.aload_n 0, 1, 0, 0, 0, 0), (.getfield 26, 3, 8, 1, 0, 0), (.iload_n 1, 1, 0, 0, 0, 0)]
theorem sk_49_10 : segB 8 false prog_10_method_6_code 10 sg_49_10 = true := by decide +kernel
def sg_49_20 : List RI := [(.aload_n 0, 1, 0, 0, 0, 0), (.dup, 1, 0, 0, 0, 0), (.getfield 26, 3, 8, 1, 0, 0), (.iconst 1, 1, 0, 0, 0, 1), (.iadd, 1, 0, 0, 0, 0), (.putfield 26, 3, 8, 1, 0, 0)]
theorem sk_49_20 : segB 8 false prog_10_method_6_code 20 sg_49_20 = true := by decide +kernel
theorem ck_49_7 : decode prog_10_method_6_code 7 = .ok (.if_icmp .ge 23, 3) ∧ lnkB 8 false 7 (.if_icmp .ge 23, 3, 30, 0, 0, 0) = true := by decide +kernel
theorem ca_49_19 : decode prog_10_method_6_code 19 = .ok (.iastore, 1) ∧ lnkB 8 false 19 (.iastore, 1, 0, 0, 0, 0) = true := by decide +kernel
theorem ck_49_30 : decode prog_10_method_6_code 30 = .ok (.return_, 1) ∧ lnkB 8 false 30 (.return_, 1, 0, 0, 0, 0) = true := by decide +kernel
abbrev RU_49 (d : Nat) (cp : Nat × Nat) (Post : Option Value → Sto → Prop) : PP := Runs (Ex d) prog_10_method_6_code 8 false 2 none none cp Post
theorem en_49 {d : Nat} {As : List Value} {S : Sto} {mc ms : Nat} {Post : Option Value → Sto → Prop} (hc : cats As ≤ 2) (h : RU_49 d (mc, ms) Post 0 (lv_args 0 As) [] S 0 0) : Ex (d + 1) 49 As S mc ms Post := ⟨by decide, hc, h⟩
def sg_50_0 : List RI := [(.aload_n 0, 1, 0, 0, 0, 0), (.getfield 19, 3, 8, 3, 2, 0), (.getfield 62, 3, 9, 5, 2, 0), (.iload_n 1, 1, 0, 0, 0, 0)]
theorem sk_50_0 : segB 8 false prog_10_method_4_code 0 sg_50_0 = true := by decide +kernel
def sg_50_9 : List RI := [(.istore 4, 2, 0, 0, 0, 0), (.aload_n 0, 1, 0, 0, 0, 0), (.getfield 15, 3, 8, 2, 2, 0), (.getfield 69, 3, 6, 3, 2, 0), (.aload_n 0, 1, 0, 0, 0, 0), (.getfield 15, 3, 8, 2, 2, 0), (.iload_n 2, 1, 0, 0, 0, 0), (.iload 4, 2, 0, 0, 0, 0)]
theorem sk_50_9 : segB 8 false prog_10_method_4_code 9 sg_50_9 = true := by decide +kernel
def sg_50_29 : List RI := [(.istore 5, 2, 0, 0, 0, 0), (.iload 5, 2, 0, 0, 0, 0)]
theorem sk_50_29 : segB 8 false prog_10_method_4_code 29 sg_50_29 = true := by decide +kernel
def sg_50_36 : List RI := [(.aload_n 0, 1, 0, 0, 0, 0), (.aload_n 0, 1, 0, 0, 0, 0), (.getfield 15, 3, 8, 2, 2, 0), (.getfield 72, 3, 6, 9, 2, 0), (.iload_n 2, 1, 0, 0, 0, 0), (.iconst 4, 1, 0, 0, 0, 4), (.imul, 1, 0, 0, 0, 0), (.iload 4, 2, 0, 0, 0, 0), (.iadd, 1, 0, 0, 0, 0)]
theorem sk_50_36 : segB 8 false prog_10_method_4_code 36 sg_50_36 = true := by decide +kernel
def sg_50_54 : List RI := [(.iconst 1, 1, 0, 0, 0, 1)]
theorem sk_50_54 : segB 8 false prog_10_method_4_code 54 sg_50_54 = true := by decide +kernel
def sg_50_56 : List RI := [(.aload_n 0, 1, 0, 0, 0, 0), (.getfield 15, 3, 8, 2, 2, 0), (.iload_n 2, 1, 0, 0, 0, 0), (.iload 4, 2, 0, 0, 0, 0)]
theorem sk_50_56 : segB 8 false prog_10_method_4_code 56 sg_50_56 = true := by decide +kernel
def sg_50_66 : List RI := [(.istore 6, 2, 0, 0, 0, 0), (.iload 5, 2, 0, 0, 0, 0), (.iconst 2, 1, 0, 0, 0, 2)]
theorem sk_50_66 : segB 8 false prog_10_method_4_code 66 sg_50_66 = true := by decide +kernel
def sg_50_74 : List RI := [(.aload_n 0, 1, 0, 0, 0, 0), (.iload 6, 2, 0, 0, 0, 0)]
theorem sk_50_74 : segB 8 false prog_10_method_4_code 74 sg_50_74 = true := by decide +kernel
def sg_50_83 : List RI := [(.iload 6, 2, 0, 0, 0, 0)]
theorem sk_50_83 : segB 8 false prog_10_method_4_code 83 sg_50_83 = true := by decide +kernel
def sg_50_88 : List RI := [(.aload_n 0, 1, 0, 0, 0, 0), (.iconst 2, 1, 0, 0, 0, 2)]
theorem sk_50_88 : segB 8 false prog_10_method_4_code 88 sg_50_88 = true := by decide +kernel
def sg_50_94 : List RI := [(.iconst 1, 1, 0, 0, 0, 1), (.istore 7, 2, 0, 0, 0, 0), (.iconst 0, 1, 0, 0, 0, 0), (.istore 8, 2, 0, 0, 0, 0)]
theorem sk_50_94 : segB 8 false prog_10_method_4_code 94 sg_50_94 = true := by decide +kernel
def sg_50_100 : List RI := [(.iload 8, 2, 0, 0, 0, 0), (.iload 6, 2, 0, 0, 0, 0)]
theorem sk_50_100 : segB 8 false prog_10_method_4_code 100 sg_50_100 = true := by decide +kernel
def sg_50_107 : List RI := [(.aload_n 0, 1, 0, 0, 0, 0), (.aload_n 0, 1, 0, 0, 0, 0), (.getfield 19, 3, 8, 3, 2, 0), (.getfield 78, 3, 9, 6, 2, 0), (.iload_n 1, 1, 0, 0, 0, 0)]
theorem sk_50_107 : segB 8 false prog_10_method_4_code 107 sg_50_107 = true := by decide +kernel
def sg_50_117 : List RI := [(.aload_n 0, 1, 0, 0, 0, 0), (.getfield 15, 3, 8, 2, 2, 0), (.iload_n 2, 1, 0, 0, 0, 0), (.iload 4, 2, 0, 0, 0, 0), (.iload 8, 2, 0, 0, 0, 0)]
theorem sk_50_117 : segB 8 false prog_10_method_4_code 117 sg_50_117 = true := by decide +kernel
def sg_50_129 : List RI := [(.iload_n 3, 1, 0, 0, 0, 0), (.iconst 1, 1, 0, 0, 0, 1), (.iadd, 1, 0, 0, 0, 0)]
theorem sk_50_129 : segB 8 false prog_10_method_4_code 129 sg_50_129 = true := by decide +kernel
def sg_50_135 : List RI := [(.istore 9, 2, 0, 0, 0, 0), (.iload 7, 2, 0, 0, 0, 0)]
theorem sk_50_135 : segB 8 false prog_10_method_4_code 135 sg_50_135 = true := by decide +kernel
def sg_50_142 : List RI := [(.iload 9, 2, 0, 0, 0, 0)]
theorem sk_50_142 : segB 8 false prog_10_method_4_code 142 sg_50_142 = true := by decide +kernel
def sg_50_147 : List RI := [(.iconst 1, 1, 0, 0, 0, 1)]
theorem sk_50_147 : segB 8 false prog_10_method_4_code 147 sg_50_147 = true := by decide +kernel
def sg_50_151 : List RI := [(.iconst 0, 1, 0, 0, 0, 0)]
theorem sk_50_151 : segB 8 false prog_10_method_4_code 151 sg_50_151 = true := by decide +kernel
def sg_50_152 : List RI := [(.istore 7, 2, 0, 0, 0, 0), (.iinc 8 1, 3, 0, 0, 0, 1)]
theorem sk_50_152 : segB 8 false prog_10_method_4_code 152 sg_50_152 = true := by decide +kernel
def sg_50_160 : List RI := [(.iload 7, 2, 0, 0, 0, 0)]
theorem sk_50_160 : segB 8 false prog_10_method_4_code 160 sg_50_160 = true := by decide +kernel
theorem ca_50_8 : decode prog_10_method_4_code 8 = .ok (.iaload, 1) ∧ lnkB 8 false 8 (.iaload, 1, 0, 0, 0, 0) = true := by decide +kernel
theorem ck_50_25 : decode prog_10_method_4_code 25 = .ok (.invokevirtual 65, 3) ∧ lnkB 8 false 25 (.invokevirtual 65, 3, 40, 0, 0, 0) = true := by decide +kernel
theorem ca_50_28 : decode prog_10_method_4_code 28 = .ok (.iaload, 1) ∧ lnkB 8 false 28 (.iaload, 1, 0, 0, 0, 0) = true := by decide +kernel
theorem ck_50_33 : decode prog_10_method_4_code 33 = .ok (.ifCond .ne 23, 3) ∧ lnkB 8 false 33 (.ifCond .ne 23, 3, 56, 0, 0, 0) = true := by decide +kernel
theorem ca_50_50 : decode prog_10_method_4_code 50 = .ok (.iaload, 1) ∧ lnkB 8 false 50 (.iaload, 1, 0, 0, 0, 0) = true := by decide +kernel
theorem ck_50_51 : decode prog_10_method_4_code 51 = .ok (.invokevirtual 44, 3) ∧ lnkB 8 false 51 (.invokevirtual 44, 3, 49, 0, 0, 0) = true := by decide +kernel
theorem ck_50_55 : decode prog_10_method_4_code 55 = .ok (.ireturn, 1) ∧ lnkB 8 false 55 (.ireturn, 1, 0, 0, 0, 0) = true := by decide +kernel
theorem ck_50_63 : decode prog_10_method_4_code 63 = .ok (.invokevirtual 75, 3) ∧ lnkB 8 false 63 (.invokevirtual 75, 3, 39, 0, 0, 0) = true := by decide +kernel
theorem ck_50_71 : decode prog_10_method_4_code 71 = .ok (.if_icmp .ne 12, 3) ∧ lnkB 8 false 71 (.if_icmp .ne 12, 3, 83, 0, 0, 0) = true := by decide +kernel
theorem ck_50_77 : decode prog_10_method_4_code 77 = .ok (.invokevirtual 44, 3) ∧ lnkB 8 false 77 (.invokevirtual 44, 3, 49, 0, 0, 0) = true := by decide +kernel
theorem ck_50_80 : decode prog_10_method_4_code 80 = .ok (.goto 14, 3) ∧ lnkB 8 false 80 (.goto 14, 3, 94, 0, 0, 0) = true := by decide +kernel
theorem ck_50_85 : decode prog_10_method_4_code 85 = .ok (.ifCond .ne 9, 3) ∧ lnkB 8 false 85 (.ifCond .ne 9, 3, 94, 0, 0, 0) = true := by decide +kernel
theorem ck_50_90 : decode prog_10_method_4_code 90 = .ok (.invokevirtual 40, 3) ∧ lnkB 8 false 90 (.invokevirtual 40, 3, 48, 0, 0, 0) = true := by decide +kernel
theorem ck_50_93 : decode prog_10_method_4_code 93 = .ok (.ireturn, 1) ∧ lnkB 8 false 93 (.ireturn, 1, 0, 0, 0, 0) = true := by decide +kernel
theorem ck_50_104 : decode prog_10_method_4_code 104 = .ok (.if_icmp .ge 56, 3) ∧ lnkB 8 false 104 (.if_icmp .ge 56, 3, 160, 0, 0, 0) = true := by decide +kernel
theorem ca_50_116 : decode prog_10_method_4_code 116 = .ok (.iaload, 1) ∧ lnkB 8 false 116 (.iaload, 1, 0, 0, 0, 0) = true := by decide +kernel
theorem ck_50_126 : decode prog_10_method_4_code 126 = .ok (.invokevirtual 81, 3) ∧ lnkB 8 false 126 (.invokevirtual 81, 3, 41, 0, 0, 0) = true := by decide +kernel
theorem ck_50_132 : decode prog_10_method_4_code 132 = .ok (.invokevirtual 34, 3) ∧ lnkB 8 false 132 (.invokevirtual 34, 3, 47, 0, 0, 0) = true := by decide +kernel
theorem ck_50_139 : decode prog_10_method_4_code 139 = .ok (.ifCond .eq 12, 3) ∧ lnkB 8 false 139 (.ifCond .eq 12, 3, 151, 0, 0, 0) = true := by decide +kernel
theorem ck_50_144 : decode prog_10_method_4_code 144 = .ok (.ifCond .eq 7, 3) ∧ lnkB 8 false 144 (.ifCond .eq 7, 3, 151, 0, 0, 0) = true := by decide +kernel
theorem ck_50_148 : decode prog_10_method_4_code 148 = .ok (.goto 4, 3) ∧ lnkB 8 false 148 (.goto 4, 3, 152, 0, 0, 0) = true := by decide +kernel
theorem ck_50_157 : decode prog_10_method_4_code 157 = .ok (.goto (-57), 3) ∧ lnkB 8 false 157 (.goto (-57), 3, 100, 0, 0, 0) = true := by decide +kernel
theorem ck_50_162 : decode prog_10_method_4_code 162 = .ok (.ireturn, 1) ∧ lnkB 8 false 162 (.ireturn, 1, 0, 0, 0, 0) = true := by decide +kernel
abbrev RU_50 (d : Nat) (cp : Nat × Nat) (Post : Option Value → Sto → Prop) : PP := Runs (Ex d) prog_10_method_4_code 8 false 10 (some .boolean) none cp Post
theorem en_50 {d : Nat} {As : List Value} {S : Sto} {mc ms : Nat} {Post : Option Value → Sto → Prop} (hc : cats As ≤ 10) (h : RU_50 d (mc, ms) Post 0 (lv_args 0 As) [] S 0 0) : Ex (d + 1) 50 As S mc ms Post := ⟨by decide, hc, h⟩
def sg_51_0 : List RI := [(.aload_n 0, 1, 0, 0, 0, 0), (.invokespecial 3, 3, 0, 4, 0, 0), (.aload_n 0, 1, 0, 0, 0, 0), (.bipush 20, 2, 0, 0, 0, 20), (.newarray .int, 2, 13, 0, 0, 0), (.putfield 9, 3, 9, 0, 2, 0), (.aload_n 0, 1, 0, 0, 0, 0), (.bipush 20, 2, 0, 0, 0, 20), (.newarray .int, 2, 13, 0, 0, 0), (.putfield 15, 3, 9, 1, 2, 0), (.aload_n 0, 1, 0, 0, 0, 0), (.bipush 20, 2, 0, 0, 0, 20), (.newarray .int, 2, 13, 0, 0, 0), (.putfield 18, 3, 9, 2, 2, 0), (.aload_n 0, 1, 0, 0, 0, 0), (.bipush 20, 2, 0, 0, 0, 20), (.newarray .int, 2, 13, 0, 0, 0), (.putfield 21, 3, 9, 3, 2, 0), (.aload_n 0, 1, 0, 0, 0, 0), (.bipush 20, 2, 0, 0, 0, 20), (.newarray .int, 2, 13, 0, 0, 0), (.putfield 24, 3, 9, 4, 2, 0), (.aload_n 0, 1, 0, 0, 0, 0), (.bipush 120, 2, 0, 0, 0, 120), (.newarray .int, 2, 13, 0, 0, 0), (.putfield 27, 3, 9, 5, 2, 0), (.aload_n 0, 1, 0, 0, 0, 0), (.bipush 120, 2, 0, 0, 0, 120), (.newarray .int, 2, 13, 0, 0, 0), (.putfield 30, 3, 9, 6, 2, 0)]
theorem sk_51_0 : segB 9 true prog_11_method_1_code 0 sg_51_0 = true := by decide +kernel
theorem ck_51_60 : decode prog_11_method_1_code 60 = .ok (.return_, 1) ∧ lnkB 9 true 60 (.return_, 1, 0, 0, 0, 0) = true := by decide +kernel
abbrev RU_51 (d : Nat) (cp : Nat × Nat) (Post : Option Value → Sto → Prop) : PP := Runs (Ex d) prog_11_method_1_code 9 true 1 none none cp Post
theorem en_51 {d : Nat} {As : List Value} {S : Sto} {mc ms : Nat} {Post : Option Value → Sto → Prop} (hc : cats As ≤ 1) (h : RU_51 d (mc, ms) Post 0 (lv_args 0 As) [] S 0 0) : Ex (d + 1) 51 As S mc ms Post := ⟨by decide, hc, h⟩
def sg_52_0 : List RI := [(.lconst 0, 1, 0, 0, 0, 0), (.lstore_n 2, 1, 0, 0, 0, 0), (.iconst 0, 1, 0, 0, 0, 0), (.istore 4, 2, 0, 0, 0, 0)]
theorem sk_52_0 : segB 9 false prog_11_method_2_code 0 sg_52_0 = true := by decide +kernel
def sg_52_5 : List RI := [(.iload 4, 2, 0, 0, 0, 0), (.aload_n 0, 1, 0, 0, 0, 0), (.getfield 33, 3, 9, 7, 0, 0)]
theorem sk_52_5 : segB 9 false prog_11_method_2_code 5 sg_52_5 = true := by decide +kernel
def sg_52_14 : List RI := [(.lload_n 2, 1, 0, 0, 0, 0), (.aload_n 0, 1, 0, 0, 0, 0), (.iload 4, 2, 0, 0, 0, 0), (.aload_n 1, 1, 0, 0, 0, 0)]
theorem sk_52_14 : segB 9 false prog_11_method_2_code 14 sg_52_14 = true := by decide +kernel
def sg_52_22 : List RI := [(.ladd, 1, 0, 0, 0, 0), (.lstore_n 2, 1, 0, 0, 0, 0), (.iinc 4 1, 3, 0, 0, 0, 1)]
theorem sk_52_22 : segB 9 false prog_11_method_2_code 22 sg_52_22 = true := by decide +kernel
def sg_52_30 : List RI := [(.lload_n 2, 1, 0, 0, 0, 0), (.ldc2_w 41, 3, 0, 0, 0, 2000000000), (.invokestatic 43, 3, 0, 3, 0, 0), (.l2i, 1, 0, 0, 0, 0)]
theorem sk_52_30 : segB 9 false prog_11_method_2_code 30 sg_52_30 = true := by decide +kernel
theorem ck_52_11 : decode prog_11_method_2_code 11 = .ok (.if_icmp .ge 19, 3) ∧ lnkB 9 false 11 (.if_icmp .ge 19, 3, 30, 0, 0, 0) = true := by decide +kernel
theorem ck_52_19 : decode prog_11_method_2_code 19 = .ok (.invokevirtual 37, 3) ∧ lnkB 9 false 19 (.invokevirtual 37, 3, 53, 0, 0, 0) = true := by decide +kernel
theorem ck_52_27 : decode prog_11_method_2_code 27 = .ok (.goto (-22), 3) ∧ lnkB 9 false 27 (.goto (-22), 3, 5, 0, 0, 0) = true := by decide +kernel
theorem ck_52_38 : decode prog_11_method_2_code 38 = .ok (.ireturn, 1) ∧ lnkB 9 false 38 (.ireturn, 1, 0, 0, 0, 0) = true := by decide +kernel
abbrev RU_52 (d : Nat) (cp : Nat × Nat) (Post : Option Value → Sto → Prop) : PP := Runs (Ex d) prog_11_method_2_code 9 false 5 (some .int) none cp Post
theorem en_52 {d : Nat} {As : List Value} {S : Sto} {mc ms : Nat} {Post : Option Value → Sto → Prop} (hc : cats As ≤ 5) (h : RU_52 d (mc, ms) Post 0 (lv_args 0 As) [] S 0 0) : Ex (d + 1) 52 As S mc ms Post := ⟨by decide, hc, h⟩
def sg_53_0 : List RI := [(.aload_n 2, 1, 0, 0, 0, 0), (.getfield 49, 3, 6, 1, 2, 0), (.aload_n 0, 1, 0, 0, 0, 0), (.getfield 9, 3, 9, 0, 2, 0), (.iload_n 1, 1, 0, 0, 0, 0)]
theorem sk_53_0 : segB 9 false prog_11_method_4_code 0 sg_53_0 = true := by decide +kernel
def sg_53_11 : List RI := [(.i2l, 1, 0, 0, 0, 0), (.aload_n 0, 1, 0, 0, 0, 0), (.getfield 18, 3, 9, 2, 2, 0), (.iload_n 1, 1, 0, 0, 0, 0)]
theorem sk_53_11 : segB 9 false prog_11_method_4_code 11 sg_53_11 = true := by decide +kernel
def sg_53_18 : List RI := [(.i2l, 1, 0, 0, 0, 0), (.lmul, 1, 0, 0, 0, 0)]
theorem sk_53_18 : segB 9 false prog_11_method_4_code 18 sg_53_18 = true := by decide +kernel
theorem ca_53_9 : decode prog_11_method_4_code 9 = .ok (.iaload, 1) ∧ lnkB 9 false 9 (.iaload, 1, 0, 0, 0, 0) = true := by decide +kernel
theorem ca_53_10 : decode prog_11_method_4_code 10 = .ok (.iaload, 1) ∧ lnkB 9 false 10 (.iaload, 1, 0, 0, 0, 0) = true := by decide +kernel
theorem ca_53_17 : decode prog_11_method_4_code 17 = .ok (.iaload, 1) ∧ lnkB 9 false 17 (.iaload, 1, 0, 0, 0, 0) = true := by decide +kernel
theorem ck_53_20 : decode prog_11_method_4_code 20 = .ok (.lreturn, 1) ∧ lnkB 9 false 20 (.lreturn, 1, 0, 0, 0, 0) = true := by decide +kernel
abbrev RU_53 (d : Nat) (cp : Nat × Nat) (Post : Option Value → Sto → Prop) : PP := Runs (Ex d) prog_11_method_4_code 9 false 3 (some .long) none cp Post
theorem en_53 {d : Nat} {As : List Value} {S : Sto} {mc ms : Nat} {Post : Option Value → Sto → Prop} (hc : cats As ≤ 3) (h : RU_53 d (mc, ms) Post 0 (lv_args 0 As) [] S 0 0) : Ex (d + 1) 53 As S mc ms Post := ⟨by decide, hc, h⟩
def sg_54_0 : List RI := [(.lconst 0, 1, 0, 0, 0, 0), (.lstore_n 3, 1, 0, 0, 0, 0), (.iconst 0, 1, 0, 0, 0, 0), (.istore 5, 2, 0, 0, 0, 0)]
theorem sk_54_0 : segB 9 false prog_11_method_3_code 0 sg_54_0 = true := by decide +kernel
def sg_54_5 : List RI := [(.iload 5, 2, 0, 0, 0, 0), (.aload_n 0, 1, 0, 0, 0, 0), (.getfield 33, 3, 9, 7, 0, 0)]
theorem sk_54_5 : segB 9 false prog_11_method_3_code 5 sg_54_5 = true := by decide +kernel
def sg_54_14 : List RI := [(.lload_n 3, 1, 0, 0, 0, 0), (.aload_n 0, 1, 0, 0, 0, 0), (.iload 5, 2, 0, 0, 0, 0), (.aload_n 2, 1, 0, 0, 0, 0)]
theorem sk_54_14 : segB 9 false prog_11_method_3_code 14 sg_54_14 = true := by decide +kernel
def sg_54_22 : List RI := [(.ladd, 1, 0, 0, 0, 0), (.lstore_n 3, 1, 0, 0, 0, 0), (.lload_n 3, 1, 0, 0, 0, 0), (.iload_n 1, 1, 0, 0, 0, 0), (.i2l, 1, 0, 0, 0, 0), (.lcmp, 1, 0, 0, 0, 0)]
theorem sk_54_22 : segB 9 false prog_11_method_3_code 22 sg_54_22 = true := by decide +kernel
def sg_54_31 : List RI := [(.aload_n 0, 1, 0, 0, 0, 0), (.getfield 15, 3, 9, 1, 2, 0), (.iload 5, 2, 0, 0, 0, 0)]
theorem sk_54_31 : segB 9 false prog_11_method_3_code 31 sg_54_31 = true := by decide +kernel
def sg_54_39 : List RI := [(.iinc 5 1, 3, 0, 0, 0, 1)]
theorem sk_54_39 : segB 9 false prog_11_method_3_code 39 sg_54_39 = true := by decide +kernel
def sg_54_45 : List RI := [(.iconst (-1), 1, 0, 0, 0, -1)]
theorem sk_54_45 : segB 9 false prog_11_method_3_code 45 sg_54_45 = true := by decide +kernel
theorem ck_54_11 : decode prog_11_method_3_code 11 = .ok (.if_icmp .ge 34, 3) ∧ lnkB 9 false 11 (.if_icmp .ge 34, 3, 45, 0, 0, 0) = true := by decide +kernel
theorem ck_54_19 : decode prog_11_method_3_code 19 = .ok (.invokevirtual 37, 3) ∧ lnkB 9 false 19 (.invokevirtual 37, 3, 53, 0, 0, 0) = true := by decide +kernel
theorem ck_54_28 : decode prog_11_method_3_code 28 = .ok (.ifCond .le 11, 3) ∧ lnkB 9 false 28 (.ifCond .le 11, 3, 39, 0, 0, 0) = true := by decide +kernel
theorem ca_54_37 : decode prog_11_method_3_code 37 = .ok (.iaload, 1) ∧ lnkB 9 false 37 (.iaload, 1, 0, 0, 0, 0) = true := by decide +kernel
theorem ck_54_38 : decode prog_11_method_3_code 38 = .ok (.ireturn, 1) ∧ lnkB 9 false 38 (.ireturn, 1, 0, 0, 0, 0) = true := by decide +kernel
theorem ck_54_42 : decode prog_11_method_3_code 42 = .ok (.goto (-37), 3) ∧ lnkB 9 false 42 (.goto (-37), 3, 5, 0, 0, 0) = true := by decide +kernel
theorem ck_54_46 : decode prog_11_method_3_code 46 = .ok (.ireturn, 1) ∧ lnkB 9 false 46 (.ireturn, 1, 0, 0, 0, 0) = true := by decide +kernel
abbrev RU_54 (d : Nat) (cp : Nat × Nat) (Post : Option Value → Sto → Prop) : PP := Runs (Ex d) prog_11_method_3_code 9 false 6 (some .int) none cp Post
theorem en_54 {d : Nat} {As : List Value} {S : Sto} {mc ms : Nat} {Post : Option Value → Sto → Prop} (hc : cats As ≤ 6) (h : RU_54 d (mc, ms) Post 0 (lv_args 0 As) [] S 0 0) : Ex (d + 1) 54 As S mc ms Post := ⟨by decide, hc, h⟩
def sg_55_0 : List RI := [(.aload_n 0, 1, 0, 0, 0, 0), (.invokespecial 3, 3, 0, 4, 0, 0), (.aload_n 0, 1, 0, 0, 0, 0), (.new 9, 3, 1, 0, 0, 0), (.dup, 1, 0, 0, 0, 0)]
theorem sk_55_0 : segB 10 true prog_1_method_1_code 0 sg_55_0 = true := by decide +kernel
def sg_55_12 : List RI := [(.putfield 12, 3, 10, 0, 2, 0), (.aload_n 0, 1, 0, 0, 0, 0), (.new 16, 3, 3, 0, 0, 0), (.dup, 1, 0, 0, 0, 0)]
theorem sk_55_12 : segB 10 true prog_1_method_1_code 12 sg_55_12 = true := by decide +kernel
def sg_55_23 : List RI := [(.putfield 19, 3, 10, 1, 2, 0), (.aload_n 0, 1, 0, 0, 0, 0), (.new 23, 3, 6, 0, 0, 0), (.dup, 1, 0, 0, 0, 0)]
theorem sk_55_23 : segB 10 true prog_1_method_1_code 23 sg_55_23 = true := by decide +kernel
def sg_55_34 : List RI := [(.putfield 26, 3, 10, 2, 2, 0), (.aload_n 0, 1, 0, 0, 0, 0), (.new 30, 3, 7, 0, 0, 0), (.dup, 1, 0, 0, 0, 0)]
theorem sk_55_34 : segB 10 true prog_1_method_1_code 34 sg_55_34 = true := by decide +kernel
def sg_55_45 : List RI := [(.putfield 33, 3, 10, 3, 2, 0), (.aload_n 0, 1, 0, 0, 0, 0), (.new 37, 3, 9, 0, 0, 0), (.dup, 1, 0, 0, 0, 0)]
theorem sk_55_45 : segB 10 true prog_1_method_1_code 45 sg_55_45 = true := by decide +kernel
def sg_55_56 : List RI := [(.putfield 40, 3, 10, 4, 2, 0), (.aload_n 0, 1, 0, 0, 0, 0), (.new 44, 3, 4, 0, 0, 0), (.dup, 1, 0, 0, 0, 0), (.aload_n 0, 1, 0, 0, 0, 0), (.getfield 40, 3, 10, 4, 2, 0), (.aload_n 0, 1, 0, 0, 0, 0), (.getfield 26, 3, 10, 2, 2, 0)]
theorem sk_55_56 : segB 10 true prog_1_method_1_code 56 sg_55_56 = true := by decide +kernel
def sg_55_75 : List RI := [(.putfield 49, 3, 10, 5, 2, 0), (.aload_n 0, 1, 0, 0, 0, 0), (.new 53, 3, 0, 0, 0, 0), (.dup, 1, 0, 0, 0, 0)]
theorem sk_55_75 : segB 10 true prog_1_method_1_code 75 sg_55_75 = true := by decide +kernel
def sg_55_86 : List RI := [(.putfield 56, 3, 10, 6, 2, 0), (.aload_n 0, 1, 0, 0, 0, 0), (.new 60, 3, 5, 0, 0, 0), (.dup, 1, 0, 0, 0, 0), (.aload_n 0, 1, 0, 0, 0, 0), (.getfield 12, 3, 10, 0, 2, 0), (.aload_n 0, 1, 0, 0, 0, 0), (.getfield 19, 3, 10, 1, 2, 0), (.aload_n 0, 1, 0, 0, 0, 0), (.getfield 26, 3, 10, 2, 2, 0), (.aload_n 0, 1, 0, 0, 0, 0), (.getfield 40, 3, 10, 4, 2, 0), (.aload_n 0, 1, 0, 0, 0, 0), (.getfield 56, 3, 10, 6, 2, 0)]
theorem sk_55_86 : segB 10 true prog_1_method_1_code 86 sg_55_86 = true := by decide +kernel
def sg_55_117 : List RI := [(.putfield 65, 3, 10, 7, 2, 0), (.aload_n 0, 1, 0, 0, 0, 0), (.new 69, 3, 8, 0, 0, 0), (.dup, 1, 0, 0, 0, 0), (.aload_n 0, 1, 0, 0, 0, 0), (.getfield 26, 3, 10, 2, 2, 0), (.aload_n 0, 1, 0, 0, 0, 0), (.getfield 40, 3, 10, 4, 2, 0), (.aload_n 0, 1, 0, 0, 0, 0), (.getfield 65, 3, 10, 7, 2, 0), (.getfield 71, 3, 5, 0, 2, 0)]
theorem sk_55_117 : segB 10 true prog_1_method_1_code 117 sg_55_117 = true := by decide +kernel
def sg_55_143 : List RI := [(.putfield 78, 3, 10, 8, 2, 0), (.aload_n 0, 1, 0, 0, 0, 0), (.iconst (-1), 1, 0, 0, 0, -1), (.putfield 82, 3, 10, 9, 0, 0)]
theorem sk_55_143 : segB 10 true prog_1_method_1_code 143 sg_55_143 = true := by decide +kernel
theorem ck_55_9 : decode prog_1_method_1_code 9 = .ok (.invokespecial 11, 3) ∧ lnkB 10 true 9 (.invokespecial 11, 3, 6, 0, 0, 0) = true := by decide +kernel
theorem ck_55_20 : decode prog_1_method_1_code 20 = .ok (.invokespecial 18, 3) ∧ lnkB 10 true 20 (.invokespecial 18, 3, 13, 0, 0, 0) = true := by decide +kernel
theorem ck_55_31 : decode prog_1_method_1_code 31 = .ok (.invokespecial 25, 3) ∧ lnkB 10 true 31 (.invokespecial 25, 3, 38, 0, 0, 0) = true := by decide +kernel
theorem ck_55_42 : decode prog_1_method_1_code 42 = .ok (.invokespecial 32, 3) ∧ lnkB 10 true 42 (.invokespecial 32, 3, 43, 1, 0, 0) = true := by decide +kernel
theorem ck_55_53 : decode prog_1_method_1_code 53 = .ok (.invokespecial 39, 3) ∧ lnkB 10 true 53 (.invokespecial 39, 3, 51, 1, 0, 0) = true := by decide +kernel
theorem ck_55_72 : decode prog_1_method_1_code 72 = .ok (.invokespecial 46, 3) ∧ lnkB 10 true 72 (.invokespecial 46, 3, 16, 0, 0, 0) = true := by decide +kernel
theorem ck_55_83 : decode prog_1_method_1_code 83 = .ok (.invokespecial 55, 3) ∧ lnkB 10 true 83 (.invokespecial 55, 3, 0, 1, 0, 0) = true := by decide +kernel
theorem ck_55_114 : decode prog_1_method_1_code 114 = .ok (.invokespecial 62, 3) ∧ lnkB 10 true 114 (.invokespecial 62, 3, 22, 0, 0, 0) = true := by decide +kernel
theorem ck_55_140 : decode prog_1_method_1_code 140 = .ok (.invokespecial 75, 3) ∧ lnkB 10 true 140 (.invokespecial 75, 3, 45, 0, 0, 0) = true := by decide +kernel
theorem ck_55_151 : decode prog_1_method_1_code 151 = .ok (.return_, 1) ∧ lnkB 10 true 151 (.return_, 1, 0, 0, 0, 0) = true := by decide +kernel
abbrev RU_55 (d : Nat) (cp : Nat × Nat) (Post : Option Value → Sto → Prop) : PP := Runs (Ex d) prog_1_method_1_code 10 true 1 none none cp Post
theorem en_55 {d : Nat} {As : List Value} {S : Sto} {mc ms : Nat} {Post : Option Value → Sto → Prop} (hc : cats As ≤ 1) (h : RU_55 d (mc, ms) Post 0 (lv_args 0 As) [] S 0 0) : Ex (d + 1) 55 As S mc ms Post := ⟨by decide, hc, h⟩
def sg_56_0 : List RI := [(.iload_n 1, 1, 0, 0, 0, 0), (.iconst 0, 1, 0, 0, 0, 0), (.iconst 4, 1, 0, 0, 0, 4)]
theorem sk_56_0 : segB 10 false prog_1_method_2_code 0 sg_56_0 = true := by decide +kernel
def sg_56_9 : List RI := [(.iload_n 2, 1, 0, 0, 0, 0), (.iconst 1, 1, 0, 0, 0, 1), (.bipush 9, 2, 0, 0, 0, 9)]
theorem sk_56_9 : segB 10 false prog_1_method_2_code 9 sg_56_9 = true := by decide +kernel
def sg_56_19 : List RI := [(.iload_n 3, 1, 0, 0, 0, 0), (.iconst 1, 1, 0, 0, 0, 1), (.bipush 8, 2, 0, 0, 0, 8)]
theorem sk_56_19 : segB 10 false prog_1_method_2_code 19 sg_56_19 = true := by decide +kernel
def sg_56_29 : List RI := [(.iload 4, 2, 0, 0, 0, 0), (.iconst 1, 1, 0, 0, 0, 1), (.bipush 8, 2, 0, 0, 0, 8)]
theorem sk_56_29 : segB 10 false prog_1_method_2_code 29 sg_56_29 = true := by decide +kernel
def sg_56_40 : List RI := [(.iload 5, 2, 0, 0, 0, 0), (.iconst 0, 1, 0, 0, 0, 0), (.bipush 9, 2, 0, 0, 0, 9)]
theorem sk_56_40 : segB 10 false prog_1_method_2_code 40 sg_56_40 = true := by decide +kernel
def sg_56_51 : List RI := [(.iload 6, 2, 0, 0, 0, 0), (.iconst 1, 1, 0, 0, 0, 1), (.bipush 99, 2, 0, 0, 0, 99)]
theorem sk_56_51 : segB 10 false prog_1_method_2_code 51 sg_56_51 = true := by decide +kernel
def sg_56_62 : List RI := [(.iconst 0, 1, 0, 0, 0, 0)]
theorem sk_56_62 : segB 10 false prog_1_method_2_code 62 sg_56_62 = true := by decide +kernel
def sg_56_64 : List RI := [(.aload_n 0, 1, 0, 0, 0, 0), (.getfield 19, 3, 10, 1, 2, 0), (.getfield 90, 3, 3, 0, 2, 0), (.iload_n 1, 1, 0, 0, 0, 0)]
theorem sk_56_64 : segB 10 false prog_1_method_2_code 64 sg_56_64 = true := by decide +kernel
def sg_56_73 : List RI := [(.astore 7, 2, 0, 0, 0, 0), (.aload 7, 2, 0, 0, 0, 0), (.iload_n 2, 1, 0, 0, 0, 0), (.putfield 94, 3, 2, 0, 0, 0), (.aload 7, 2, 0, 0, 0, 0), (.iload_n 3, 1, 0, 0, 0, 0), (.putfield 99, 3, 2, 1, 0, 0), (.aload 7, 2, 0, 0, 0, 0), (.iload 4, 2, 0, 0, 0, 0), (.putfield 102, 3, 2, 2, 0, 0), (.aload 7, 2, 0, 0, 0, 0), (.iload 5, 2, 0, 0, 0, 0), (.putfield 105, 3, 2, 3, 0, 0), (.aload 7, 2, 0, 0, 0, 0), (.iload 6, 2, 0, 0, 0, 0), (.putfield 108, 3, 2, 4, 0, 0), (.aload 7, 2, 0, 0, 0, 0)]
theorem sk_56_73 : segB 10 false prog_1_method_2_code 73 sg_56_73 = true := by decide +kernel
def sg_56_113 : List RI := [(.iconst 1, 1, 0, 0, 0, 1)]
theorem sk_56_113 : segB 10 false prog_1_method_2_code 113 sg_56_113 = true := by decide +kernel
theorem ck_56_3 : decode prog_1_method_2_code 3 = .ok (.invokestatic 86, 3) ∧ lnkB 10 false 3 (.invokestatic 86, 3, 57, 0, 0, 0) = true := by decide +kernel
theorem ck_56_6 : decode prog_1_method_2_code 6 = .ok (.ifCond .eq 56, 3) ∧ lnkB 10 false 6 (.ifCond .eq 56, 3, 62, 0, 0, 0) = true := by decide +kernel
theorem ck_56_13 : decode prog_1_method_2_code 13 = .ok (.invokestatic 86, 3) ∧ lnkB 10 false 13 (.invokestatic 86, 3, 57, 0, 0, 0) = true := by decide +kernel
theorem ck_56_16 : decode prog_1_method_2_code 16 = .ok (.ifCond .eq 46, 3) ∧ lnkB 10 false 16 (.ifCond .eq 46, 3, 62, 0, 0, 0) = true := by decide +kernel
theorem ck_56_23 : decode prog_1_method_2_code 23 = .ok (.invokestatic 86, 3) ∧ lnkB 10 false 23 (.invokestatic 86, 3, 57, 0, 0, 0) = true := by decide +kernel
theorem ck_56_26 : decode prog_1_method_2_code 26 = .ok (.ifCond .eq 36, 3) ∧ lnkB 10 false 26 (.ifCond .eq 36, 3, 62, 0, 0, 0) = true := by decide +kernel
theorem ck_56_34 : decode prog_1_method_2_code 34 = .ok (.invokestatic 86, 3) ∧ lnkB 10 false 34 (.invokestatic 86, 3, 57, 0, 0, 0) = true := by decide +kernel
theorem ck_56_37 : decode prog_1_method_2_code 37 = .ok (.ifCond .eq 25, 3) ∧ lnkB 10 false 37 (.ifCond .eq 25, 3, 62, 0, 0, 0) = true := by decide +kernel
theorem ck_56_45 : decode prog_1_method_2_code 45 = .ok (.invokestatic 86, 3) ∧ lnkB 10 false 45 (.invokestatic 86, 3, 57, 0, 0, 0) = true := by decide +kernel
theorem ck_56_48 : decode prog_1_method_2_code 48 = .ok (.ifCond .eq 14, 3) ∧ lnkB 10 false 48 (.ifCond .eq 14, 3, 62, 0, 0, 0) = true := by decide +kernel
theorem ck_56_56 : decode prog_1_method_2_code 56 = .ok (.invokestatic 86, 3) ∧ lnkB 10 false 56 (.invokestatic 86, 3, 57, 0, 0, 0) = true := by decide +kernel
theorem ck_56_59 : decode prog_1_method_2_code 59 = .ok (.ifCond .ne 5, 3) ∧ lnkB 10 false 59 (.ifCond .ne 5, 3, 64, 0, 0, 0) = true := by decide +kernel
theorem ck_56_63 : decode prog_1_method_2_code 63 = .ok (.ireturn, 1) ∧ lnkB 10 false 63 (.ireturn, 1, 0, 0, 0, 0) = true := by decide +kernel
theorem ca_56_72 : decode prog_1_method_2_code 72 = .ok (.aaload, 1) ∧ lnkB 10 false 72 (.aaload, 1, 0, 0, 0, 0) = true := by decide +kernel
theorem ck_56_110 : decode prog_1_method_2_code 110 = .ok (.invokevirtual 111, 3) ∧ lnkB 10 false 110 (.invokevirtual 111, 3, 9, 0, 0, 0) = true := by decide +kernel
theorem ck_56_114 : decode prog_1_method_2_code 114 = .ok (.ireturn, 1) ∧ lnkB 10 false 114 (.ireturn, 1, 0, 0, 0, 0) = true := by decide +kernel
abbrev RU_56 (d : Nat) (cp : Nat × Nat) (Post : Option Value → Sto → Prop) : PP := Runs (Ex d) prog_1_method_2_code 10 false 8 (some .boolean) none cp Post
theorem en_56 {d : Nat} {As : List Value} {S : Sto} {mc ms : Nat} {Post : Option Value → Sto → Prop} (hc : cats As ≤ 8) (h : RU_56 d (mc, ms) Post 0 (lv_args 0 As) [] S 0 0) : Ex (d + 1) 56 As S mc ms Post := ⟨by decide, hc, h⟩
end
section
/-! ===== the code: segments, control instructions, entries of methods 57 to 79 ===== -/
def sg_57_0 : List RI := [(.iload_n 0, 1, 0, 0, 0, 0), (.iload_n 1, 1, 0, 0, 0, 0)]
theorem sk_57_0 : segB 10 false prog_1_method_22_code 0 sg_57_0 = true := by decide +kernel
def sg_57_5 : List RI := [(.iload_n 0, 1, 0, 0, 0, 0), (.iload_n 2, 1, 0, 0, 0, 0)]
theorem sk_57_5 : segB 10 false prog_1_method_22_code 5 sg_57_5 = true := by decide +kernel
def sg_57_10 : List RI := [(.iconst 1, 1, 0, 0, 0, 1)]
theorem sk_57_10 : segB 10 false prog_1_method_22_code 10 sg_57_10 = true := by decide +kernel
def sg_57_14 : List RI := [(.iconst 0, 1, 0, 0, 0, 0)]
theorem sk_57_14 : segB 10 false prog_1_method_22_code 14 sg_57_14 = true := by decide +kernel
theorem ck_57_2 : decode prog_1_method_22_code 2 = .ok (.if_icmp .lt 12, 3) ∧ lnkB 10 false 2 (.if_icmp .lt 12, 3, 14, 0, 0, 0) = true := by decide +kernel
theorem ck_57_7 : decode prog_1_method_22_code 7 = .ok (.if_icmp .gt 7, 3) ∧ lnkB 10 false 7 (.if_icmp .gt 7, 3, 14, 0, 0, 0) = true := by decide +kernel
theorem ck_57_11 : decode prog_1_method_22_code 11 = .ok (.goto 4, 3) ∧ lnkB 10 false 11 (.goto 4, 3, 15, 0, 0, 0) = true := by decide +kernel
theorem ck_57_15 : decode prog_1_method_22_code 15 = .ok (.ireturn, 1) ∧ lnkB 10 false 15 (.ireturn, 1, 0, 0, 0, 0) = true := by decide +kernel
abbrev RU_57 (d : Nat) (cp : Nat × Nat) (Post : Option Value → Sto → Prop) : PP := Runs (Ex d) prog_1_method_22_code 10 false 3 (some .boolean) none cp Post
theorem en_57 {d : Nat} {As : List Value} {S : Sto} {mc ms : Nat} {Post : Option Value → Sto → Prop} (hc : cats As ≤ 3) (h : RU_57 d (mc, ms) Post 0 (lv_args 0 As) [] S 0 0) : Ex (d + 1) 57 As S mc ms Post := ⟨by decide, hc, h⟩
def sg_58_0 : List RI := [(.iload_n 1, 1, 0, 0, 0, 0), (.iconst 0, 1, 0, 0, 0, 0), (.iconst 4, 1, 0, 0, 0, 4)]
theorem sk_58_0 : segB 10 false prog_1_method_3_code 0 sg_58_0 = true := by decide +kernel
def sg_58_9 : List RI := [(.iload_n 3, 1, 0, 0, 0, 0), (.iconst 0, 1, 0, 0, 0, 0), (.ldc 114, 2, 0, 0, 0, 100000)]
theorem sk_58_9 : segB 10 false prog_1_method_3_code 9 sg_58_9 = true := by decide +kernel
def sg_58_19 : List RI := [(.iload_n 2, 1, 0, 0, 0, 0), (.iconst 0, 1, 0, 0, 0, 0), (.iload_n 3, 1, 0, 0, 0, 0)]
theorem sk_58_19 : segB 10 false prog_1_method_3_code 19 sg_58_19 = true := by decide +kernel
def sg_58_28 : List RI := [(.aload_n 0, 1, 0, 0, 0, 0), (.getfield 19, 3, 10, 1, 2, 0), (.getfield 115, 3, 3, 1, 0, 0), (.bipush 20, 2, 0, 0, 0, 20)]
theorem sk_58_28 : segB 10 false prog_1_method_3_code 28 sg_58_28 = true := by decide +kernel
def sg_58_40 : List RI := [(.iconst (-1), 1, 0, 0, 0, -1)]
theorem sk_58_40 : segB 10 false prog_1_method_3_code 40 sg_58_40 = true := by decide +kernel
def sg_58_42 : List RI := [(.aload_n 0, 1, 0, 0, 0, 0), (.getfield 19, 3, 10, 1, 2, 0), (.iload_n 1, 1, 0, 0, 0, 0), (.iload_n 2, 1, 0, 0, 0, 0), (.iload_n 3, 1, 0, 0, 0, 0)]
theorem sk_58_42 : segB 10 false prog_1_method_3_code 42 sg_58_42 = true := by decide +kernel
theorem ck_58_3 : decode prog_1_method_3_code 3 = .ok (.invokestatic 86, 3) ∧ lnkB 10 false 3 (.invokestatic 86, 3, 57, 0, 0, 0) = true := by decide +kernel
theorem ck_58_6 : decode prog_1_method_3_code 6 = .ok (.ifCond .eq 34, 3) ∧ lnkB 10 false 6 (.ifCond .eq 34, 3, 40, 0, 0, 0) = true := by decide +kernel
theorem ck_58_13 : decode prog_1_method_3_code 13 = .ok (.invokestatic 86, 3) ∧ lnkB 10 false 13 (.invokestatic 86, 3, 57, 0, 0, 0) = true := by decide +kernel
theorem ck_58_16 : decode prog_1_method_3_code 16 = .ok (.ifCond .eq 24, 3) ∧ lnkB 10 false 16 (.ifCond .eq 24, 3, 40, 0, 0, 0) = true := by decide +kernel
theorem ck_58_22 : decode prog_1_method_3_code 22 = .ok (.invokestatic 86, 3) ∧ lnkB 10 false 22 (.invokestatic 86, 3, 57, 0, 0, 0) = true := by decide +kernel
theorem ck_58_25 : decode prog_1_method_3_code 25 = .ok (.ifCond .eq 15, 3) ∧ lnkB 10 false 25 (.ifCond .eq 15, 3, 40, 0, 0, 0) = true := by decide +kernel
theorem ck_58_37 : decode prog_1_method_3_code 37 = .ok (.if_icmp .lt 5, 3) ∧ lnkB 10 false 37 (.if_icmp .lt 5, 3, 42, 0, 0, 0) = true := by decide +kernel
theorem ck_58_41 : decode prog_1_method_3_code 41 = .ok (.ireturn, 1) ∧ lnkB 10 false 41 (.ireturn, 1, 0, 0, 0, 0) = true := by decide +kernel
theorem ck_58_49 : decode prog_1_method_3_code 49 = .ok (.invokevirtual 118, 3) ∧ lnkB 10 false 49 (.invokevirtual 118, 3, 14, 0, 0, 0) = true := by decide +kernel
theorem ck_58_52 : decode prog_1_method_3_code 52 = .ok (.ireturn, 1) ∧ lnkB 10 false 52 (.ireturn, 1, 0, 0, 0, 0) = true := by decide +kernel
abbrev RU_58 (d : Nat) (cp : Nat × Nat) (Post : Option Value → Sto → Prop) : PP := Runs (Ex d) prog_1_method_3_code 10 false 4 (some .int) none cp Post
theorem en_58 {d : Nat} {As : List Value} {S : Sto} {mc ms : Nat} {Post : Option Value → Sto → Prop} (hc : cats As ≤ 4) (h : RU_58 d (mc, ms) Post 0 (lv_args 0 As) [] S 0 0) : Ex (d + 1) 58 As S mc ms Post := ⟨by decide, hc, h⟩
def sg_59_0 : List RI := [(.iload_n 1, 1, 0, 0, 0, 0), (.iconst 0, 1, 0, 0, 0, 0), (.iconst 5, 1, 0, 0, 0, 5)]
theorem sk_59_0 : segB 10 false prog_1_method_4_code 0 sg_59_0 = true := by decide +kernel
def sg_59_9 : List RI := [(.iload_n 2, 1, 0, 0, 0, 0), (.iconst 0, 1, 0, 0, 0, 0), (.iconst 4, 1, 0, 0, 0, 4)]
theorem sk_59_9 : segB 10 false prog_1_method_4_code 9 sg_59_9 = true := by decide +kernel
def sg_59_18 : List RI := [(.iload_n 3, 1, 0, 0, 0, 0), (.iconst 1, 1, 0, 0, 0, 1), (.bipush 9, 2, 0, 0, 0, 9)]
theorem sk_59_18 : segB 10 false prog_1_method_4_code 18 sg_59_18 = true := by decide +kernel
def sg_59_28 : List RI := [(.iload 4, 2, 0, 0, 0, 0), (.iconst 0, 1, 0, 0, 0, 0), (.sipush 999, 3, 0, 0, 0, 999)]
theorem sk_59_28 : segB 10 false prog_1_method_4_code 28 sg_59_28 = true := by decide +kernel
def sg_59_40 : List RI := [(.iconst 0, 1, 0, 0, 0, 0)]
theorem sk_59_40 : segB 10 false prog_1_method_4_code 40 sg_59_40 = true := by decide +kernel
def sg_59_42 : List RI := [(.aload_n 0, 1, 0, 0, 0, 0), (.getfield 26, 3, 10, 2, 2, 0), (.getfield 122, 3, 6, 0, 2, 0), (.iload_n 1, 1, 0, 0, 0, 0), (.iload_n 2, 1, 0, 0, 0, 0)]
theorem sk_59_42 : segB 10 false prog_1_method_4_code 42 sg_59_42 = true := by decide +kernel
def sg_59_52 : List RI := [(.aload_n 0, 1, 0, 0, 0, 0), (.getfield 26, 3, 10, 2, 2, 0), (.getfield 125, 3, 6, 1, 2, 0), (.iload_n 1, 1, 0, 0, 0, 0), (.iload_n 3, 1, 0, 0, 0, 0)]
theorem sk_59_52 : segB 10 false prog_1_method_4_code 52 sg_59_52 = true := by decide +kernel
def sg_59_62 : List RI := [(.aload_n 0, 1, 0, 0, 0, 0), (.getfield 26, 3, 10, 2, 2, 0), (.getfield 128, 3, 6, 2, 2, 0), (.iload_n 1, 1, 0, 0, 0, 0), (.iload 4, 2, 0, 0, 0, 0)]
theorem sk_59_62 : segB 10 false prog_1_method_4_code 62 sg_59_62 = true := by decide +kernel
def sg_59_73 : List RI := [(.iconst 0, 1, 0, 0, 0, 0), (.istore 5, 2, 0, 0, 0, 0)]
theorem sk_59_73 : segB 10 false prog_1_method_4_code 73 sg_59_73 = true := by decide +kernel
def sg_59_76 : List RI := [(.iload 5, 2, 0, 0, 0, 0), (.bipush 32, 2, 0, 0, 0, 32)]
theorem sk_59_76 : segB 10 false prog_1_method_4_code 76 sg_59_76 = true := by decide +kernel
def sg_59_83 : List RI := [(.aload_n 0, 1, 0, 0, 0, 0), (.getfield 26, 3, 10, 2, 2, 0), (.getfield 131, 3, 6, 8, 2, 0), (.iload_n 1, 1, 0, 0, 0, 0), (.bipush 32, 2, 0, 0, 0, 32), (.imul, 1, 0, 0, 0, 0), (.iload 5, 2, 0, 0, 0, 0), (.iadd, 1, 0, 0, 0, 0), (.iconst 0, 1, 0, 0, 0, 0)]
theorem sk_59_83 : segB 10 false prog_1_method_4_code 83 sg_59_83 = true := by decide +kernel
def sg_59_99 : List RI := [(.iinc 5 1, 3, 0, 0, 0, 1)]
theorem sk_59_99 : segB 10 false prog_1_method_4_code 99 sg_59_99 = true := by decide +kernel
def sg_59_105 : List RI := [(.iconst 1, 1, 0, 0, 0, 1)]
theorem sk_59_105 : segB 10 false prog_1_method_4_code 105 sg_59_105 = true := by decide +kernel
theorem ck_59_3 : decode prog_1_method_4_code 3 = .ok (.invokestatic 86, 3) ∧ lnkB 10 false 3 (.invokestatic 86, 3, 57, 0, 0, 0) = true := by decide +kernel
theorem ck_59_6 : decode prog_1_method_4_code 6 = .ok (.ifCond .eq 34, 3) ∧ lnkB 10 false 6 (.ifCond .eq 34, 3, 40, 0, 0, 0) = true := by decide +kernel
theorem ck_59_12 : decode prog_1_method_4_code 12 = .ok (.invokestatic 86, 3) ∧ lnkB 10 false 12 (.invokestatic 86, 3, 57, 0, 0, 0) = true := by decide +kernel
theorem ck_59_15 : decode prog_1_method_4_code 15 = .ok (.ifCond .eq 25, 3) ∧ lnkB 10 false 15 (.ifCond .eq 25, 3, 40, 0, 0, 0) = true := by decide +kernel
theorem ck_59_22 : decode prog_1_method_4_code 22 = .ok (.invokestatic 86, 3) ∧ lnkB 10 false 22 (.invokestatic 86, 3, 57, 0, 0, 0) = true := by decide +kernel
theorem ck_59_25 : decode prog_1_method_4_code 25 = .ok (.ifCond .eq 15, 3) ∧ lnkB 10 false 25 (.ifCond .eq 15, 3, 40, 0, 0, 0) = true := by decide +kernel
theorem ck_59_34 : decode prog_1_method_4_code 34 = .ok (.invokestatic 86, 3) ∧ lnkB 10 false 34 (.invokestatic 86, 3, 57, 0, 0, 0) = true := by decide +kernel
theorem ck_59_37 : decode prog_1_method_4_code 37 = .ok (.ifCond .ne 5, 3) ∧ lnkB 10 false 37 (.ifCond .ne 5, 3, 42, 0, 0, 0) = true := by decide +kernel
theorem ck_59_41 : decode prog_1_method_4_code 41 = .ok (.ireturn, 1) ∧ lnkB 10 false 41 (.ireturn, 1, 0, 0, 0, 0) = true := by decide +kernel
theorem ca_59_51 : decode prog_1_method_4_code 51 = .ok (.iastore, 1) ∧ lnkB 10 false 51 (.iastore, 1, 0, 0, 0, 0) = true := by decide +kernel
theorem ca_59_61 : decode prog_1_method_4_code 61 = .ok (.iastore, 1) ∧ lnkB 10 false 61 (.iastore, 1, 0, 0, 0, 0) = true := by decide +kernel
theorem ca_59_72 : decode prog_1_method_4_code 72 = .ok (.iastore, 1) ∧ lnkB 10 false 72 (.iastore, 1, 0, 0, 0, 0) = true := by decide +kernel
theorem ck_59_80 : decode prog_1_method_4_code 80 = .ok (.if_icmp .ge 25, 3) ∧ lnkB 10 false 80 (.if_icmp .ge 25, 3, 105, 0, 0, 0) = true := by decide +kernel
theorem ca_59_98 : decode prog_1_method_4_code 98 = .ok (.iastore, 1) ∧ lnkB 10 false 98 (.iastore, 1, 0, 0, 0, 0) = true := by decide +kernel
theorem ck_59_102 : decode prog_1_method_4_code 102 = .ok (.goto (-26), 3) ∧ lnkB 10 false 102 (.goto (-26), 3, 76, 0, 0, 0) = true := by decide +kernel
theorem ck_59_106 : decode prog_1_method_4_code 106 = .ok (.ireturn, 1) ∧ lnkB 10 false 106 (.ireturn, 1, 0, 0, 0, 0) = true := by decide +kernel
abbrev RU_59 (d : Nat) (cp : Nat × Nat) (Post : Option Value → Sto → Prop) : PP := Runs (Ex d) prog_1_method_4_code 10 false 6 (some .boolean) none cp Post
theorem en_59 {d : Nat} {As : List Value} {S : Sto} {mc ms : Nat} {Post : Option Value → Sto → Prop} (hc : cats As ≤ 6) (h : RU_59 d (mc, ms) Post 0 (lv_args 0 As) [] S 0 0) : Ex (d + 1) 59 As S mc ms Post := ⟨by decide, hc, h⟩
def sg_60_0 : List RI := [(.iload_n 1, 1, 0, 0, 0, 0), (.iconst 0, 1, 0, 0, 0, 0), (.iconst 5, 1, 0, 0, 0, 5)]
theorem sk_60_0 : segB 10 false prog_1_method_5_code 0 sg_60_0 = true := by decide +kernel
def sg_60_9 : List RI := [(.iload_n 2, 1, 0, 0, 0, 0), (.iconst 0, 1, 0, 0, 0, 0), (.iconst 3, 1, 0, 0, 0, 3)]
theorem sk_60_9 : segB 10 false prog_1_method_5_code 9 sg_60_9 = true := by decide +kernel
def sg_60_18 : List RI := [(.iload_n 3, 1, 0, 0, 0, 0), (.iconst 0, 1, 0, 0, 0, 0), (.iconst 2, 1, 0, 0, 0, 2)]
theorem sk_60_18 : segB 10 false prog_1_method_5_code 18 sg_60_18 = true := by decide +kernel
def sg_60_27 : List RI := [(.iload 4, 2, 0, 0, 0, 0), (.iconst 0, 1, 0, 0, 0, 0), (.iconst 5, 1, 0, 0, 0, 5)]
theorem sk_60_27 : segB 10 false prog_1_method_5_code 27 sg_60_27 = true := by decide +kernel
def sg_60_37 : List RI := [(.iload 5, 2, 0, 0, 0, 0), (.iconst 1, 1, 0, 0, 0, 1), (.iconst 5, 1, 0, 0, 0, 5)]
theorem sk_60_37 : segB 10 false prog_1_method_5_code 37 sg_60_37 = true := by decide +kernel
def sg_60_47 : List RI := [(.iconst 0, 1, 0, 0, 0, 0)]
theorem sk_60_47 : segB 10 false prog_1_method_5_code 47 sg_60_47 = true := by decide +kernel
def sg_60_49 : List RI := [(.iload_n 1, 1, 0, 0, 0, 0), (.iconst 4, 1, 0, 0, 0, 4), (.imul, 1, 0, 0, 0, 0), (.iload_n 2, 1, 0, 0, 0, 0), (.iadd, 1, 0, 0, 0, 0), (.istore 7, 2, 0, 0, 0, 0), (.aload_n 0, 1, 0, 0, 0, 0), (.getfield 26, 3, 10, 2, 2, 0), (.getfield 134, 3, 6, 3, 2, 0), (.iload 7, 2, 0, 0, 0, 0), (.iload_n 3, 1, 0, 0, 0, 0)]
theorem sk_60_49 : segB 10 false prog_1_method_5_code 49 sg_60_49 = true := by decide +kernel
def sg_60_67 : List RI := [(.aload_n 0, 1, 0, 0, 0, 0), (.getfield 26, 3, 10, 2, 2, 0), (.getfield 137, 3, 6, 4, 2, 0), (.iload 7, 2, 0, 0, 0, 0), (.iload 4, 2, 0, 0, 0, 0)]
theorem sk_60_67 : segB 10 false prog_1_method_5_code 67 sg_60_67 = true := by decide +kernel
def sg_60_79 : List RI := [(.aload_n 0, 1, 0, 0, 0, 0), (.getfield 26, 3, 10, 2, 2, 0), (.getfield 140, 3, 6, 5, 2, 0), (.iload 7, 2, 0, 0, 0, 0), (.iload 5, 2, 0, 0, 0, 0)]
theorem sk_60_79 : segB 10 false prog_1_method_5_code 79 sg_60_79 = true := by decide +kernel
def sg_60_91 : List RI := [(.aload_n 0, 1, 0, 0, 0, 0), (.getfield 26, 3, 10, 2, 2, 0), (.getfield 143, 3, 6, 6, 2, 0), (.iload 7, 2, 0, 0, 0, 0), (.iload 6, 2, 0, 0, 0, 0)]
theorem sk_60_91 : segB 10 false prog_1_method_5_code 91 sg_60_91 = true := by decide +kernel
def sg_60_103 : List RI := [(.iconst 1, 1, 0, 0, 0, 1)]
theorem sk_60_103 : segB 10 false prog_1_method_5_code 103 sg_60_103 = true := by decide +kernel
theorem ck_60_3 : decode prog_1_method_5_code 3 = .ok (.invokestatic 86, 3) ∧ lnkB 10 false 3 (.invokestatic 86, 3, 57, 0, 0, 0) = true := by decide +kernel
theorem ck_60_6 : decode prog_1_method_5_code 6 = .ok (.ifCond .eq 41, 3) ∧ lnkB 10 false 6 (.ifCond .eq 41, 3, 47, 0, 0, 0) = true := by decide +kernel
theorem ck_60_12 : decode prog_1_method_5_code 12 = .ok (.invokestatic 86, 3) ∧ lnkB 10 false 12 (.invokestatic 86, 3, 57, 0, 0, 0) = true := by decide +kernel
theorem ck_60_15 : decode prog_1_method_5_code 15 = .ok (.ifCond .eq 32, 3) ∧ lnkB 10 false 15 (.ifCond .eq 32, 3, 47, 0, 0, 0) = true := by decide +kernel
theorem ck_60_21 : decode prog_1_method_5_code 21 = .ok (.invokestatic 86, 3) ∧ lnkB 10 false 21 (.invokestatic 86, 3, 57, 0, 0, 0) = true := by decide +kernel
theorem ck_60_24 : decode prog_1_method_5_code 24 = .ok (.ifCond .eq 23, 3) ∧ lnkB 10 false 24 (.ifCond .eq 23, 3, 47, 0, 0, 0) = true := by decide +kernel
theorem ck_60_31 : decode prog_1_method_5_code 31 = .ok (.invokestatic 86, 3) ∧ lnkB 10 false 31 (.invokestatic 86, 3, 57, 0, 0, 0) = true := by decide +kernel
theorem ck_60_34 : decode prog_1_method_5_code 34 = .ok (.ifCond .eq 13, 3) ∧ lnkB 10 false 34 (.ifCond .eq 13, 3, 47, 0, 0, 0) = true := by decide +kernel
theorem ck_60_41 : decode prog_1_method_5_code 41 = .ok (.invokestatic 86, 3) ∧ lnkB 10 false 41 (.invokestatic 86, 3, 57, 0, 0, 0) = true := by decide +kernel
theorem ck_60_44 : decode prog_1_method_5_code 44 = .ok (.ifCond .ne 5, 3) ∧ lnkB 10 false 44 (.ifCond .ne 5, 3, 49, 0, 0, 0) = true := by decide +kernel
theorem ck_60_48 : decode prog_1_method_5_code 48 = .ok (.ireturn, 1) ∧ lnkB 10 false 48 (.ireturn, 1, 0, 0, 0, 0) = true := by decide +kernel
theorem ca_60_66 : decode prog_1_method_5_code 66 = .ok (.iastore, 1) ∧ lnkB 10 false 66 (.iastore, 1, 0, 0, 0, 0) = true := by decide +kernel
theorem ca_60_78 : decode prog_1_method_5_code 78 = .ok (.iastore, 1) ∧ lnkB 10 false 78 (.iastore, 1, 0, 0, 0, 0) = true := by decide +kernel
theorem ca_60_90 : decode prog_1_method_5_code 90 = .ok (.iastore, 1) ∧ lnkB 10 false 90 (.iastore, 1, 0, 0, 0, 0) = true := by decide +kernel
theorem ca_60_102 : decode prog_1_method_5_code 102 = .ok (.bastore, 1) ∧ lnkB 10 false 102 (.bastore, 1, 15, 0, 0, 0) = true := by decide +kernel
theorem ck_60_104 : decode prog_1_method_5_code 104 = .ok (.ireturn, 1) ∧ lnkB 10 false 104 (.ireturn, 1, 0, 0, 0, 0) = true := by decide +kernel
abbrev RU_60 (d : Nat) (cp : Nat × Nat) (Post : Option Value → Sto → Prop) : PP := Runs (Ex d) prog_1_method_5_code 10 false 8 (some .boolean) none cp Post
theorem en_60 {d : Nat} {As : List Value} {S : Sto} {mc ms : Nat} {Post : Option Value → Sto → Prop} (hc : cats As ≤ 8) (h : RU_60 d (mc, ms) Post 0 (lv_args 0 As) [] S 0 0) : Ex (d + 1) 60 As S mc ms Post := ⟨by decide, hc, h⟩
def sg_61_0 : List RI := [(.iload_n 1, 1, 0, 0, 0, 0), (.iload_n 2, 1, 0, 0, 0, 0)]
theorem sk_61_0 : segB 10 false prog_1_method_6_code 0 sg_61_0 = true := by decide +kernel
def sg_61_8 : List RI := [(.iconst 0, 1, 0, 0, 0, 0)]
theorem sk_61_8 : segB 10 false prog_1_method_6_code 8 sg_61_8 = true := by decide +kernel
def sg_61_10 : List RI := [(.iload_n 1, 1, 0, 0, 0, 0), (.bipush 32, 2, 0, 0, 0, 32), (.imul, 1, 0, 0, 0, 0), (.iload_n 2, 1, 0, 0, 0, 0), (.iadd, 1, 0, 0, 0, 0), (.istore 4, 2, 0, 0, 0, 0), (.aload_n 0, 1, 0, 0, 0, 0), (.getfield 26, 3, 10, 2, 2, 0), (.getfield 151, 3, 6, 7, 2, 0), (.iload 4, 2, 0, 0, 0, 0)]
theorem sk_61_10 : segB 10 false prog_1_method_6_code 10 sg_61_10 = true := by decide +kernel
def sg_61_28 : List RI := [(.iload_n 3, 1, 0, 0, 0, 0)]
theorem sk_61_28 : segB 10 false prog_1_method_6_code 28 sg_61_28 = true := by decide +kernel
def sg_61_32 : List RI := [(.iconst 0, 1, 0, 0, 0, 0)]
theorem sk_61_32 : segB 10 false prog_1_method_6_code 32 sg_61_32 = true := by decide +kernel
def sg_61_34 : List RI := [(.aload_n 0, 1, 0, 0, 0, 0), (.getfield 26, 3, 10, 2, 2, 0), (.getfield 151, 3, 6, 7, 2, 0), (.iload 4, 2, 0, 0, 0, 0), (.iload_n 3, 1, 0, 0, 0, 0)]
theorem sk_61_34 : segB 10 false prog_1_method_6_code 34 sg_61_34 = true := by decide +kernel
def sg_61_45 : List RI := [(.aload_n 0, 1, 0, 0, 0, 0), (.getfield 26, 3, 10, 2, 2, 0), (.getfield 131, 3, 6, 8, 2, 0), (.iload 4, 2, 0, 0, 0, 0), (.iconst 0, 1, 0, 0, 0, 0)]
theorem sk_61_45 : segB 10 false prog_1_method_6_code 45 sg_61_45 = true := by decide +kernel
def sg_61_56 : List RI := [(.iconst 1, 1, 0, 0, 0, 1)]
theorem sk_61_56 : segB 10 false prog_1_method_6_code 56 sg_61_56 = true := by decide +kernel
theorem ck_61_2 : decode prog_1_method_6_code 2 = .ok (.invokestatic 147, 3) ∧ lnkB 10 false 2 (.invokestatic 147, 3, 62, 0, 0, 0) = true := by decide +kernel
theorem ck_61_5 : decode prog_1_method_6_code 5 = .ok (.ifCond .ne 5, 3) ∧ lnkB 10 false 5 (.ifCond .ne 5, 3, 10, 0, 0, 0) = true := by decide +kernel
theorem ck_61_9 : decode prog_1_method_6_code 9 = .ok (.ireturn, 1) ∧ lnkB 10 false 9 (.ireturn, 1, 0, 0, 0, 0) = true := by decide +kernel
theorem ca_61_27 : decode prog_1_method_6_code 27 = .ok (.baload, 1) ∧ lnkB 10 false 27 (.baload, 1, 15, 0, 0, 0) = true := by decide +kernel
theorem ck_61_29 : decode prog_1_method_6_code 29 = .ok (.if_icmp .ne 5, 3) ∧ lnkB 10 false 29 (.if_icmp .ne 5, 3, 34, 0, 0, 0) = true := by decide +kernel
theorem ck_61_33 : decode prog_1_method_6_code 33 = .ok (.ireturn, 1) ∧ lnkB 10 false 33 (.ireturn, 1, 0, 0, 0, 0) = true := by decide +kernel
theorem ca_61_44 : decode prog_1_method_6_code 44 = .ok (.bastore, 1) ∧ lnkB 10 false 44 (.bastore, 1, 15, 0, 0, 0) = true := by decide +kernel
theorem ca_61_55 : decode prog_1_method_6_code 55 = .ok (.iastore, 1) ∧ lnkB 10 false 55 (.iastore, 1, 0, 0, 0, 0) = true := by decide +kernel
theorem ck_61_57 : decode prog_1_method_6_code 57 = .ok (.ireturn, 1) ∧ lnkB 10 false 57 (.ireturn, 1, 0, 0, 0, 0) = true := by decide +kernel
abbrev RU_61 (d : Nat) (cp : Nat × Nat) (Post : Option Value → Sto → Prop) : PP := Runs (Ex d) prog_1_method_6_code 10 false 5 (some .boolean) none cp Post
theorem en_61 {d : Nat} {As : List Value} {S : Sto} {mc ms : Nat} {Post : Option Value → Sto → Prop} (hc : cats As ≤ 5) (h : RU_61 d (mc, ms) Post 0 (lv_args 0 As) [] S 0 0) : Ex (d + 1) 61 As S mc ms Post := ⟨by decide, hc, h⟩
def sg_62_0 : List RI := [(.iload_n 0, 1, 0, 0, 0, 0), (.iconst 0, 1, 0, 0, 0, 0), (.iconst 5, 1, 0, 0, 0, 5)]
theorem sk_62_0 : segB 10 false prog_1_method_23_code 0 sg_62_0 = true := by decide +kernel
def sg_62_9 : List RI := [(.iload_n 1, 1, 0, 0, 0, 0), (.iconst 0, 1, 0, 0, 0, 0), (.bipush 31, 2, 0, 0, 0, 31)]
theorem sk_62_9 : segB 10 false prog_1_method_23_code 9 sg_62_9 = true := by decide +kernel
def sg_62_19 : List RI := [(.iconst 1, 1, 0, 0, 0, 1)]
theorem sk_62_19 : segB 10 false prog_1_method_23_code 19 sg_62_19 = true := by decide +kernel
def sg_62_23 : List RI := [(.iconst 0, 1, 0, 0, 0, 0)]
theorem sk_62_23 : segB 10 false prog_1_method_23_code 23 sg_62_23 = true := by decide +kernel
theorem ck_62_3 : decode prog_1_method_23_code 3 = .ok (.invokestatic 86, 3) ∧ lnkB 10 false 3 (.invokestatic 86, 3, 57, 0, 0, 0) = true := by decide +kernel
theorem ck_62_6 : decode prog_1_method_23_code 6 = .ok (.ifCond .eq 17, 3) ∧ lnkB 10 false 6 (.ifCond .eq 17, 3, 23, 0, 0, 0) = true := by decide +kernel
theorem ck_62_13 : decode prog_1_method_23_code 13 = .ok (.invokestatic 86, 3) ∧ lnkB 10 false 13 (.invokestatic 86, 3, 57, 0, 0, 0) = true := by decide +kernel
theorem ck_62_16 : decode prog_1_method_23_code 16 = .ok (.ifCond .eq 7, 3) ∧ lnkB 10 false 16 (.ifCond .eq 7, 3, 23, 0, 0, 0) = true := by decide +kernel
theorem ck_62_20 : decode prog_1_method_23_code 20 = .ok (.goto 4, 3) ∧ lnkB 10 false 20 (.goto 4, 3, 24, 0, 0, 0) = true := by decide +kernel
theorem ck_62_24 : decode prog_1_method_23_code 24 = .ok (.ireturn, 1) ∧ lnkB 10 false 24 (.ireturn, 1, 0, 0, 0, 0) = true := by decide +kernel
abbrev RU_62 (d : Nat) (cp : Nat × Nat) (Post : Option Value → Sto → Prop) : PP := Runs (Ex d) prog_1_method_23_code 10 false 2 (some .boolean) none cp Post
theorem en_62 {d : Nat} {As : List Value} {S : Sto} {mc ms : Nat} {Post : Option Value → Sto → Prop} (hc : cats As ≤ 2) (h : RU_62 d (mc, ms) Post 0 (lv_args 0 As) [] S 0 0) : Ex (d + 1) 62 As S mc ms Post := ⟨by decide, hc, h⟩
def sg_63_0 : List RI := [(.iload_n 1, 1, 0, 0, 0, 0), (.iload_n 2, 1, 0, 0, 0, 0), (.iload_n 3, 1, 0, 0, 0, 0)]
theorem sk_63_0 : segB 10 false prog_1_method_7_code 0 sg_63_0 = true := by decide +kernel
def sg_63_9 : List RI := [(.iload 4, 2, 0, 0, 0, 0), (.ldc 157, 2, 0, 0, 0, -99999), (.ldc 158, 2, 0, 0, 0, 99999)]
theorem sk_63_9 : segB 10 false prog_1_method_7_code 9 sg_63_9 = true := by decide +kernel
def sg_63_21 : List RI := [(.iconst 0, 1, 0, 0, 0, 0)]
theorem sk_63_21 : segB 10 false prog_1_method_7_code 21 sg_63_21 = true := by decide +kernel
def sg_63_23 : List RI := [(.iload_n 1, 1, 0, 0, 0, 0), (.bipush 32, 2, 0, 0, 0, 32), (.imul, 1, 0, 0, 0, 0), (.iload_n 2, 1, 0, 0, 0, 0), (.iadd, 1, 0, 0, 0, 0), (.istore 5, 2, 0, 0, 0, 0), (.aload_n 0, 1, 0, 0, 0, 0), (.getfield 26, 3, 10, 2, 2, 0), (.getfield 159, 3, 6, 9, 2, 0), (.iload 5, 2, 0, 0, 0, 0), (.iconst 4, 1, 0, 0, 0, 4), (.imul, 1, 0, 0, 0, 0), (.iload_n 3, 1, 0, 0, 0, 0), (.iadd, 1, 0, 0, 0, 0), (.iload 4, 2, 0, 0, 0, 0)]
theorem sk_63_23 : segB 10 false prog_1_method_7_code 23 sg_63_23 = true := by decide +kernel
def sg_63_47 : List RI := [(.aload_n 0, 1, 0, 0, 0, 0), (.getfield 26, 3, 10, 2, 2, 0), (.getfield 131, 3, 6, 8, 2, 0), (.iload 5, 2, 0, 0, 0, 0), (.iconst 0, 1, 0, 0, 0, 0)]
theorem sk_63_47 : segB 10 false prog_1_method_7_code 47 sg_63_47 = true := by decide +kernel
def sg_63_58 : List RI := [(.iconst 1, 1, 0, 0, 0, 1)]
theorem sk_63_58 : segB 10 false prog_1_method_7_code 58 sg_63_58 = true := by decide +kernel
theorem ck_63_3 : decode prog_1_method_7_code 3 = .ok (.invokestatic 154, 3) ∧ lnkB 10 false 3 (.invokestatic 154, 3, 64, 0, 0, 0) = true := by decide +kernel
theorem ck_63_6 : decode prog_1_method_7_code 6 = .ok (.ifCond .eq 15, 3) ∧ lnkB 10 false 6 (.ifCond .eq 15, 3, 21, 0, 0, 0) = true := by decide +kernel
theorem ck_63_15 : decode prog_1_method_7_code 15 = .ok (.invokestatic 86, 3) ∧ lnkB 10 false 15 (.invokestatic 86, 3, 57, 0, 0, 0) = true := by decide +kernel
theorem ck_63_18 : decode prog_1_method_7_code 18 = .ok (.ifCond .ne 5, 3) ∧ lnkB 10 false 18 (.ifCond .ne 5, 3, 23, 0, 0, 0) = true := by decide +kernel
theorem ck_63_22 : decode prog_1_method_7_code 22 = .ok (.ireturn, 1) ∧ lnkB 10 false 22 (.ireturn, 1, 0, 0, 0, 0) = true := by decide +kernel
theorem ca_63_46 : decode prog_1_method_7_code 46 = .ok (.iastore, 1) ∧ lnkB 10 false 46 (.iastore, 1, 0, 0, 0, 0) = true := by decide +kernel
theorem ca_63_57 : decode prog_1_method_7_code 57 = .ok (.iastore, 1) ∧ lnkB 10 false 57 (.iastore, 1, 0, 0, 0, 0) = true := by decide +kernel
theorem ck_63_59 : decode prog_1_method_7_code 59 = .ok (.ireturn, 1) ∧ lnkB 10 false 59 (.ireturn, 1, 0, 0, 0, 0) = true := by decide +kernel
abbrev RU_63 (d : Nat) (cp : Nat × Nat) (Post : Option Value → Sto → Prop) : PP := Runs (Ex d) prog_1_method_7_code 10 false 6 (some .boolean) none cp Post
theorem en_63 {d : Nat} {As : List Value} {S : Sto} {mc ms : Nat} {Post : Option Value → Sto → Prop} (hc : cats As ≤ 6) (h : RU_63 d (mc, ms) Post 0 (lv_args 0 As) [] S 0 0) : Ex (d + 1) 63 As S mc ms Post := ⟨by decide, hc, h⟩
def sg_64_0 : List RI := [(.iload_n 0, 1, 0, 0, 0, 0), (.iload_n 1, 1, 0, 0, 0, 0)]
theorem sk_64_0 : segB 10 false prog_1_method_24_code 0 sg_64_0 = true := by decide +kernel
def sg_64_8 : List RI := [(.iload_n 2, 1, 0, 0, 0, 0), (.iconst 0, 1, 0, 0, 0, 0), (.iconst 3, 1, 0, 0, 0, 3)]
theorem sk_64_8 : segB 10 false prog_1_method_24_code 8 sg_64_8 = true := by decide +kernel
def sg_64_17 : List RI := [(.iconst 1, 1, 0, 0, 0, 1)]
theorem sk_64_17 : segB 10 false prog_1_method_24_code 17 sg_64_17 = true := by decide +kernel
def sg_64_21 : List RI := [(.iconst 0, 1, 0, 0, 0, 0)]
theorem sk_64_21 : segB 10 false prog_1_method_24_code 21 sg_64_21 = true := by decide +kernel
theorem ck_64_2 : decode prog_1_method_24_code 2 = .ok (.invokestatic 147, 3) ∧ lnkB 10 false 2 (.invokestatic 147, 3, 62, 0, 0, 0) = true := by decide +kernel
theorem ck_64_5 : decode prog_1_method_24_code 5 = .ok (.ifCond .eq 16, 3) ∧ lnkB 10 false 5 (.ifCond .eq 16, 3, 21, 0, 0, 0) = true := by decide +kernel
theorem ck_64_11 : decode prog_1_method_24_code 11 = .ok (.invokestatic 86, 3) ∧ lnkB 10 false 11 (.invokestatic 86, 3, 57, 0, 0, 0) = true := by decide +kernel
theorem ck_64_14 : decode prog_1_method_24_code 14 = .ok (.ifCond .eq 7, 3) ∧ lnkB 10 false 14 (.ifCond .eq 7, 3, 21, 0, 0, 0) = true := by decide +kernel
theorem ck_64_18 : decode prog_1_method_24_code 18 = .ok (.goto 4, 3) ∧ lnkB 10 false 18 (.goto 4, 3, 22, 0, 0, 0) = true := by decide +kernel
theorem ck_64_22 : decode prog_1_method_24_code 22 = .ok (.ireturn, 1) ∧ lnkB 10 false 22 (.ireturn, 1, 0, 0, 0, 0) = true := by decide +kernel
abbrev RU_64 (d : Nat) (cp : Nat × Nat) (Post : Option Value → Sto → Prop) : PP := Runs (Ex d) prog_1_method_24_code 10 false 3 (some .boolean) none cp Post
theorem en_64 {d : Nat} {As : List Value} {S : Sto} {mc ms : Nat} {Post : Option Value → Sto → Prop} (hc : cats As ≤ 3) (h : RU_64 d (mc, ms) Post 0 (lv_args 0 As) [] S 0 0) : Ex (d + 1) 64 As S mc ms Post := ⟨by decide, hc, h⟩
def sg_65_0 : List RI := [(.iload_n 1, 1, 0, 0, 0, 0), (.iload_n 2, 1, 0, 0, 0, 0), (.iload_n 3, 1, 0, 0, 0, 0)]
theorem sk_65_0 : segB 10 false prog_1_method_8_code 0 sg_65_0 = true := by decide +kernel
def sg_65_9 : List RI := [(.iload 4, 2, 0, 0, 0, 0), (.iconst (-1), 1, 0, 0, 0, -1), (.bipush 31, 2, 0, 0, 0, 31)]
theorem sk_65_9 : segB 10 false prog_1_method_8_code 9 sg_65_9 = true := by decide +kernel
def sg_65_20 : List RI := [(.iconst 0, 1, 0, 0, 0, 0)]
theorem sk_65_20 : segB 10 false prog_1_method_8_code 20 sg_65_20 = true := by decide +kernel
def sg_65_22 : List RI := [(.iload_n 1, 1, 0, 0, 0, 0), (.bipush 32, 2, 0, 0, 0, 32), (.imul, 1, 0, 0, 0, 0), (.iload_n 2, 1, 0, 0, 0, 0), (.iadd, 1, 0, 0, 0, 0), (.istore 5, 2, 0, 0, 0, 0), (.aload_n 0, 1, 0, 0, 0, 0), (.getfield 26, 3, 10, 2, 2, 0), (.getfield 162, 3, 6, 10, 2, 0), (.iload 5, 2, 0, 0, 0, 0), (.iconst 4, 1, 0, 0, 0, 4), (.imul, 1, 0, 0, 0, 0), (.iload_n 3, 1, 0, 0, 0, 0), (.iadd, 1, 0, 0, 0, 0), (.iload 4, 2, 0, 0, 0, 0)]
theorem sk_65_22 : segB 10 false prog_1_method_8_code 22 sg_65_22 = true := by decide +kernel
def sg_65_46 : List RI := [(.aload_n 0, 1, 0, 0, 0, 0), (.getfield 26, 3, 10, 2, 2, 0), (.getfield 131, 3, 6, 8, 2, 0), (.iload 5, 2, 0, 0, 0, 0), (.iconst 0, 1, 0, 0, 0, 0)]
theorem sk_65_46 : segB 10 false prog_1_method_8_code 46 sg_65_46 = true := by decide +kernel
def sg_65_57 : List RI := [(.iconst 1, 1, 0, 0, 0, 1)]
theorem sk_65_57 : segB 10 false prog_1_method_8_code 57 sg_65_57 = true := by decide +kernel
theorem ck_65_3 : decode prog_1_method_8_code 3 = .ok (.invokestatic 154, 3) ∧ lnkB 10 false 3 (.invokestatic 154, 3, 64, 0, 0, 0) = true := by decide +kernel
theorem ck_65_6 : decode prog_1_method_8_code 6 = .ok (.ifCond .eq 14, 3) ∧ lnkB 10 false 6 (.ifCond .eq 14, 3, 20, 0, 0, 0) = true := by decide +kernel
theorem ck_65_14 : decode prog_1_method_8_code 14 = .ok (.invokestatic 86, 3) ∧ lnkB 10 false 14 (.invokestatic 86, 3, 57, 0, 0, 0) = true := by decide +kernel
theorem ck_65_17 : decode prog_1_method_8_code 17 = .ok (.ifCond .ne 5, 3) ∧ lnkB 10 false 17 (.ifCond .ne 5, 3, 22, 0, 0, 0) = true := by decide +kernel
theorem ck_65_21 : decode prog_1_method_8_code 21 = .ok (.ireturn, 1) ∧ lnkB 10 false 21 (.ireturn, 1, 0, 0, 0, 0) = true := by decide +kernel
theorem ca_65_45 : decode prog_1_method_8_code 45 = .ok (.iastore, 1) ∧ lnkB 10 false 45 (.iastore, 1, 0, 0, 0, 0) = true := by decide +kernel
theorem ca_65_56 : decode prog_1_method_8_code 56 = .ok (.iastore, 1) ∧ lnkB 10 false 56 (.iastore, 1, 0, 0, 0, 0) = true := by decide +kernel
theorem ck_65_58 : decode prog_1_method_8_code 58 = .ok (.ireturn, 1) ∧ lnkB 10 false 58 (.ireturn, 1, 0, 0, 0, 0) = true := by decide +kernel
abbrev RU_65 (d : Nat) (cp : Nat × Nat) (Post : Option Value → Sto → Prop) : PP := Runs (Ex d) prog_1_method_8_code 10 false 6 (some .boolean) none cp Post
theorem en_65 {d : Nat} {As : List Value} {S : Sto} {mc ms : Nat} {Post : Option Value → Sto → Prop} (hc : cats As ≤ 6) (h : RU_65 d (mc, ms) Post 0 (lv_args 0 As) [] S 0 0) : Ex (d + 1) 65 As S mc ms Post := ⟨by decide, hc, h⟩
def sg_66_0 : List RI := [(.iload_n 1, 1, 0, 0, 0, 0), (.iload_n 2, 1, 0, 0, 0, 0), (.iload_n 3, 1, 0, 0, 0, 0)]
theorem sk_66_0 : segB 10 false prog_1_method_9_code 0 sg_66_0 = true := by decide +kernel
def sg_66_9 : List RI := [(.iload 4, 2, 0, 0, 0, 0), (.iconst 0, 1, 0, 0, 0, 0), (.iconst 5, 1, 0, 0, 0, 5)]
theorem sk_66_9 : segB 10 false prog_1_method_9_code 9 sg_66_9 = true := by decide +kernel
def sg_66_19 : List RI := [(.iconst 0, 1, 0, 0, 0, 0)]
theorem sk_66_19 : segB 10 false prog_1_method_9_code 19 sg_66_19 = true := by decide +kernel
def sg_66_21 : List RI := [(.iload_n 1, 1, 0, 0, 0, 0), (.bipush 32, 2, 0, 0, 0, 32), (.imul, 1, 0, 0, 0, 0), (.iload_n 2, 1, 0, 0, 0, 0), (.iadd, 1, 0, 0, 0, 0), (.istore 6, 2, 0, 0, 0, 0), (.aload_n 0, 1, 0, 0, 0, 0), (.getfield 26, 3, 10, 2, 2, 0), (.getfield 165, 3, 6, 11, 2, 0), (.iload 6, 2, 0, 0, 0, 0), (.iconst 4, 1, 0, 0, 0, 4), (.imul, 1, 0, 0, 0, 0), (.iload_n 3, 1, 0, 0, 0, 0), (.iadd, 1, 0, 0, 0, 0), (.iload 4, 2, 0, 0, 0, 0)]
theorem sk_66_21 : segB 10 false prog_1_method_9_code 21 sg_66_21 = true := by decide +kernel
def sg_66_45 : List RI := [(.aload_n 0, 1, 0, 0, 0, 0), (.getfield 26, 3, 10, 2, 2, 0), (.getfield 168, 3, 6, 12, 2, 0), (.iload 6, 2, 0, 0, 0, 0), (.iconst 4, 1, 0, 0, 0, 4), (.imul, 1, 0, 0, 0, 0), (.iload_n 3, 1, 0, 0, 0, 0), (.iadd, 1, 0, 0, 0, 0), (.iload 5, 2, 0, 0, 0, 0)]
theorem sk_66_45 : segB 10 false prog_1_method_9_code 45 sg_66_45 = true := by decide +kernel
def sg_66_61 : List RI := [(.aload_n 0, 1, 0, 0, 0, 0), (.getfield 26, 3, 10, 2, 2, 0), (.getfield 131, 3, 6, 8, 2, 0), (.iload 6, 2, 0, 0, 0, 0), (.iconst 0, 1, 0, 0, 0, 0)]
theorem sk_66_61 : segB 10 false prog_1_method_9_code 61 sg_66_61 = true := by decide +kernel
def sg_66_72 : List RI := [(.iconst 1, 1, 0, 0, 0, 1)]
theorem sk_66_72 : segB 10 false prog_1_method_9_code 72 sg_66_72 = true := by decide +kernel
theorem ck_66_3 : decode prog_1_method_9_code 3 = .ok (.invokestatic 154, 3) ∧ lnkB 10 false 3 (.invokestatic 154, 3, 64, 0, 0, 0) = true := by decide +kernel
theorem ck_66_6 : decode prog_1_method_9_code 6 = .ok (.ifCond .eq 13, 3) ∧ lnkB 10 false 6 (.ifCond .eq 13, 3, 19, 0, 0, 0) = true := by decide +kernel
theorem ck_66_13 : decode prog_1_method_9_code 13 = .ok (.invokestatic 86, 3) ∧ lnkB 10 false 13 (.invokestatic 86, 3, 57, 0, 0, 0) = true := by decide +kernel
theorem ck_66_16 : decode prog_1_method_9_code 16 = .ok (.ifCond .ne 5, 3) ∧ lnkB 10 false 16 (.ifCond .ne 5, 3, 21, 0, 0, 0) = true := by decide +kernel
theorem ck_66_20 : decode prog_1_method_9_code 20 = .ok (.ireturn, 1) ∧ lnkB 10 false 20 (.ireturn, 1, 0, 0, 0, 0) = true := by decide +kernel
theorem ca_66_44 : decode prog_1_method_9_code 44 = .ok (.iastore, 1) ∧ lnkB 10 false 44 (.iastore, 1, 0, 0, 0, 0) = true := by decide +kernel
theorem ca_66_60 : decode prog_1_method_9_code 60 = .ok (.iastore, 1) ∧ lnkB 10 false 60 (.iastore, 1, 0, 0, 0, 0) = true := by decide +kernel
theorem ca_66_71 : decode prog_1_method_9_code 71 = .ok (.iastore, 1) ∧ lnkB 10 false 71 (.iastore, 1, 0, 0, 0, 0) = true := by decide +kernel
theorem ck_66_73 : decode prog_1_method_9_code 73 = .ok (.ireturn, 1) ∧ lnkB 10 false 73 (.ireturn, 1, 0, 0, 0, 0) = true := by decide +kernel
abbrev RU_66 (d : Nat) (cp : Nat × Nat) (Post : Option Value → Sto → Prop) : PP := Runs (Ex d) prog_1_method_9_code 10 false 7 (some .boolean) none cp Post
theorem en_66 {d : Nat} {As : List Value} {S : Sto} {mc ms : Nat} {Post : Option Value → Sto → Prop} (hc : cats As ≤ 7) (h : RU_66 d (mc, ms) Post 0 (lv_args 0 As) [] S 0 0) : Ex (d + 1) 66 As S mc ms Post := ⟨by decide, hc, h⟩
def sg_67_0 : List RI := [(.iload_n 1, 1, 0, 0, 0, 0), (.iconst 0, 1, 0, 0, 0, 0), (.iconst 3, 1, 0, 0, 0, 3)]
theorem sk_67_0 : segB 10 false prog_1_method_10_code 0 sg_67_0 = true := by decide +kernel
def sg_67_9 : List RI := [(.iload_n 2, 1, 0, 0, 0, 0), (.iconst 0, 1, 0, 0, 0, 0), (.bipush 63, 2, 0, 0, 0, 63)]
theorem sk_67_9 : segB 10 false prog_1_method_10_code 9 sg_67_9 = true := by decide +kernel
def sg_67_19 : List RI := [(.iload_n 3, 1, 0, 0, 0, 0), (.iconst 1, 1, 0, 0, 0, 1), (.sipush 500, 3, 0, 0, 0, 500)]
theorem sk_67_19 : segB 10 false prog_1_method_10_code 19 sg_67_19 = true := by decide +kernel
def sg_67_30 : List RI := [(.iload 4, 2, 0, 0, 0, 0), (.iconst 0, 1, 0, 0, 0, 0), (.bipush 50, 2, 0, 0, 0, 50)]
theorem sk_67_30 : segB 10 false prog_1_method_10_code 30 sg_67_30 = true := by decide +kernel
def sg_67_41 : List RI := [(.iconst 0, 1, 0, 0, 0, 0)]
theorem sk_67_41 : segB 10 false prog_1_method_10_code 41 sg_67_41 = true := by decide +kernel
def sg_67_43 : List RI := [(.aload_n 0, 1, 0, 0, 0, 0), (.getfield 12, 3, 10, 0, 2, 0), (.getfield 171, 3, 1, 0, 2, 0), (.iload_n 1, 1, 0, 0, 0, 0), (.iload_n 2, 1, 0, 0, 0, 0)]
theorem sk_67_43 : segB 10 false prog_1_method_10_code 43 sg_67_43 = true := by decide +kernel
def sg_67_53 : List RI := [(.aload_n 0, 1, 0, 0, 0, 0), (.getfield 12, 3, 10, 0, 2, 0), (.getfield 174, 3, 1, 1, 2, 0), (.iload_n 1, 1, 0, 0, 0, 0), (.iload_n 3, 1, 0, 0, 0, 0)]
theorem sk_67_53 : segB 10 false prog_1_method_10_code 53 sg_67_53 = true := by decide +kernel
def sg_67_63 : List RI := [(.aload_n 0, 1, 0, 0, 0, 0), (.getfield 12, 3, 10, 0, 2, 0), (.getfield 177, 3, 1, 2, 2, 0), (.iload_n 1, 1, 0, 0, 0, 0), (.iload 4, 2, 0, 0, 0, 0)]
theorem sk_67_63 : segB 10 false prog_1_method_10_code 63 sg_67_63 = true := by decide +kernel
def sg_67_74 : List RI := [(.aload_n 0, 1, 0, 0, 0, 0), (.getfield 12, 3, 10, 0, 2, 0), (.getfield 180, 3, 1, 3, 2, 0), (.iload_n 1, 1, 0, 0, 0, 0), (.aload_n 0, 1, 0, 0, 0, 0), (.getfield 12, 3, 10, 0, 2, 0), (.getfield 180, 3, 1, 3, 2, 0), (.iload_n 1, 1, 0, 0, 0, 0)]
theorem sk_67_74 : segB 10 false prog_1_method_10_code 74 sg_67_74 = true := by decide +kernel
def sg_67_91 : List RI := [(.iload_n 3, 1, 0, 0, 0, 0), (.invokestatic 183, 3, 0, 2, 0, 0)]
theorem sk_67_91 : segB 10 false prog_1_method_10_code 91 sg_67_91 = true := by decide +kernel
def sg_67_96 : List RI := [(.iconst 1, 1, 0, 0, 0, 1)]
theorem sk_67_96 : segB 10 false prog_1_method_10_code 96 sg_67_96 = true := by decide +kernel
theorem ck_67_3 : decode prog_1_method_10_code 3 = .ok (.invokestatic 86, 3) ∧ lnkB 10 false 3 (.invokestatic 86, 3, 57, 0, 0, 0) = true := by decide +kernel
theorem ck_67_6 : decode prog_1_method_10_code 6 = .ok (.ifCond .eq 35, 3) ∧ lnkB 10 false 6 (.ifCond .eq 35, 3, 41, 0, 0, 0) = true := by decide +kernel
theorem ck_67_13 : decode prog_1_method_10_code 13 = .ok (.invokestatic 86, 3) ∧ lnkB 10 false 13 (.invokestatic 86, 3, 57, 0, 0, 0) = true := by decide +kernel
theorem ck_67_16 : decode prog_1_method_10_code 16 = .ok (.ifCond .eq 25, 3) ∧ lnkB 10 false 16 (.ifCond .eq 25, 3, 41, 0, 0, 0) = true := by decide +kernel
theorem ck_67_24 : decode prog_1_method_10_code 24 = .ok (.invokestatic 86, 3) ∧ lnkB 10 false 24 (.invokestatic 86, 3, 57, 0, 0, 0) = true := by decide +kernel
theorem ck_67_27 : decode prog_1_method_10_code 27 = .ok (.ifCond .eq 14, 3) ∧ lnkB 10 false 27 (.ifCond .eq 14, 3, 41, 0, 0, 0) = true := by decide +kernel
theorem ck_67_35 : decode prog_1_method_10_code 35 = .ok (.invokestatic 86, 3) ∧ lnkB 10 false 35 (.invokestatic 86, 3, 57, 0, 0, 0) = true := by decide +kernel
theorem ck_67_38 : decode prog_1_method_10_code 38 = .ok (.ifCond .ne 5, 3) ∧ lnkB 10 false 38 (.ifCond .ne 5, 3, 43, 0, 0, 0) = true := by decide +kernel
theorem ck_67_42 : decode prog_1_method_10_code 42 = .ok (.ireturn, 1) ∧ lnkB 10 false 42 (.ireturn, 1, 0, 0, 0, 0) = true := by decide +kernel
theorem ca_67_52 : decode prog_1_method_10_code 52 = .ok (.iastore, 1) ∧ lnkB 10 false 52 (.iastore, 1, 0, 0, 0, 0) = true := by decide +kernel
theorem ca_67_62 : decode prog_1_method_10_code 62 = .ok (.iastore, 1) ∧ lnkB 10 false 62 (.iastore, 1, 0, 0, 0, 0) = true := by decide +kernel
theorem ca_67_73 : decode prog_1_method_10_code 73 = .ok (.iastore, 1) ∧ lnkB 10 false 73 (.iastore, 1, 0, 0, 0, 0) = true := by decide +kernel
theorem ca_67_90 : decode prog_1_method_10_code 90 = .ok (.iaload, 1) ∧ lnkB 10 false 90 (.iaload, 1, 0, 0, 0, 0) = true := by decide +kernel
theorem ca_67_95 : decode prog_1_method_10_code 95 = .ok (.iastore, 1) ∧ lnkB 10 false 95 (.iastore, 1, 0, 0, 0, 0) = true := by decide +kernel
theorem ck_67_97 : decode prog_1_method_10_code 97 = .ok (.ireturn, 1) ∧ lnkB 10 false 97 (.ireturn, 1, 0, 0, 0, 0) = true := by decide +kernel
abbrev RU_67 (d : Nat) (cp : Nat × Nat) (Post : Option Value → Sto → Prop) : PP := Runs (Ex d) prog_1_method_10_code 10 false 5 (some .boolean) none cp Post
theorem en_67 {d : Nat} {As : List Value} {S : Sto} {mc ms : Nat} {Post : Option Value → Sto → Prop} (hc : cats As ≤ 5) (h : RU_67 d (mc, ms) Post 0 (lv_args 0 As) [] S 0 0) : Ex (d + 1) 67 As S mc ms Post := ⟨by decide, hc, h⟩
def sg_68_0 : List RI := [(.iload_n 1, 1, 0, 0, 0, 0), (.iconst 1, 1, 0, 0, 0, 1), (.sipush 1000, 3, 0, 0, 0, 1000)]
theorem sk_68_0 : segB 10 false prog_1_method_11_code 0 sg_68_0 = true := by decide +kernel
def sg_68_11 : List RI := [(.aload_n 0, 1, 0, 0, 0, 0), (.getfield 12, 3, 10, 0, 2, 0), (.getfield 189, 3, 1, 4, 0, 0), (.iload_n 1, 1, 0, 0, 0, 0), (.iadd, 1, 0, 0, 0, 0), (.ldc 114, 2, 0, 0, 0, 100000)]
theorem sk_68_11 : segB 10 false prog_1_method_11_code 11 sg_68_11 = true := by decide +kernel
def sg_68_25 : List RI := [(.iconst (-1), 1, 0, 0, 0, -1)]
theorem sk_68_25 : segB 10 false prog_1_method_11_code 25 sg_68_25 = true := by decide +kernel
def sg_68_27 : List RI := [(.aload_n 0, 1, 0, 0, 0, 0), (.getfield 12, 3, 10, 0, 2, 0), (.iload_n 1, 1, 0, 0, 0, 0)]
theorem sk_68_27 : segB 10 false prog_1_method_11_code 27 sg_68_27 = true := by decide +kernel
def sg_68_35 : List RI := [(.aload_n 0, 1, 0, 0, 0, 0), (.getfield 12, 3, 10, 0, 2, 0), (.getfield 189, 3, 1, 4, 0, 0)]
theorem sk_68_35 : segB 10 false prog_1_method_11_code 35 sg_68_35 = true := by decide +kernel
theorem ck_68_5 : decode prog_1_method_11_code 5 = .ok (.invokestatic 86, 3) ∧ lnkB 10 false 5 (.invokestatic 86, 3, 57, 0, 0, 0) = true := by decide +kernel
theorem ck_68_8 : decode prog_1_method_11_code 8 = .ok (.ifCond .eq 17, 3) ∧ lnkB 10 false 8 (.ifCond .eq 17, 3, 25, 0, 0, 0) = true := by decide +kernel
theorem ck_68_22 : decode prog_1_method_11_code 22 = .ok (.if_icmp .le 5, 3) ∧ lnkB 10 false 22 (.if_icmp .le 5, 3, 27, 0, 0, 0) = true := by decide +kernel
theorem ck_68_26 : decode prog_1_method_11_code 26 = .ok (.ireturn, 1) ∧ lnkB 10 false 26 (.ireturn, 1, 0, 0, 0, 0) = true := by decide +kernel
theorem ck_68_32 : decode prog_1_method_11_code 32 = .ok (.invokevirtual 192, 3) ∧ lnkB 10 false 32 (.invokevirtual 192, 3, 7, 0, 0, 0) = true := by decide +kernel
theorem ck_68_42 : decode prog_1_method_11_code 42 = .ok (.ireturn, 1) ∧ lnkB 10 false 42 (.ireturn, 1, 0, 0, 0, 0) = true := by decide +kernel
abbrev RU_68 (d : Nat) (cp : Nat × Nat) (Post : Option Value → Sto → Prop) : PP := Runs (Ex d) prog_1_method_11_code 10 false 2 (some .int) none cp Post
theorem en_68 {d : Nat} {As : List Value} {S : Sto} {mc ms : Nat} {Post : Option Value → Sto → Prop} (hc : cats As ≤ 2) (h : RU_68 d (mc, ms) Post 0 (lv_args 0 As) [] S 0 0) : Ex (d + 1) 68 As S mc ms Post := ⟨by decide, hc, h⟩
def sg_69_0 : List RI := [(.aload_n 0, 1, 0, 0, 0, 0), (.getfield 33, 3, 10, 3, 2, 0), (.getfield 196, 3, 7, 1, 0, 0), (.sipush 180, 3, 0, 0, 0, 180)]
theorem sk_69_0 : segB 10 false prog_1_method_12_code 0 sg_69_0 = true := by decide +kernel
def sg_69_13 : List RI := [(.iconst (-1), 1, 0, 0, 0, -1)]
theorem sk_69_13 : segB 10 false prog_1_method_12_code 13 sg_69_13 = true := by decide +kernel
def sg_69_15 : List RI := [(.aload_n 0, 1, 0, 0, 0, 0), (.getfield 33, 3, 10, 3, 2, 0), (.iload_n 1, 1, 0, 0, 0, 0)]
theorem sk_69_15 : segB 10 false prog_1_method_12_code 15 sg_69_15 = true := by decide +kernel
def sg_69_23 : List RI := [(.aload_n 0, 1, 0, 0, 0, 0), (.getfield 33, 3, 10, 3, 2, 0), (.iload_n 2, 1, 0, 0, 0, 0)]
theorem sk_69_23 : segB 10 false prog_1_method_12_code 23 sg_69_23 = true := by decide +kernel
def sg_69_31 : List RI := [(.aload_n 0, 1, 0, 0, 0, 0), (.getfield 33, 3, 10, 3, 2, 0), (.iload_n 3, 1, 0, 0, 0, 0)]
theorem sk_69_31 : segB 10 false prog_1_method_12_code 31 sg_69_31 = true := by decide +kernel
def sg_69_39 : List RI := [(.aload_n 0, 1, 0, 0, 0, 0), (.getfield 33, 3, 10, 3, 2, 0), (.iload 4, 2, 0, 0, 0, 0)]
theorem sk_69_39 : segB 10 false prog_1_method_12_code 39 sg_69_39 = true := by decide +kernel
def sg_69_48 : List RI := [(.aload_n 0, 1, 0, 0, 0, 0), (.getfield 33, 3, 10, 3, 2, 0), (.iload 5, 2, 0, 0, 0, 0)]
theorem sk_69_48 : segB 10 false prog_1_method_12_code 48 sg_69_48 = true := by decide +kernel
def sg_69_57 : List RI := [(.aload_n 0, 1, 0, 0, 0, 0), (.getfield 33, 3, 10, 3, 2, 0), (.getfield 196, 3, 7, 1, 0, 0)]
theorem sk_69_57 : segB 10 false prog_1_method_12_code 57 sg_69_57 = true := by decide +kernel
theorem ck_69_10 : decode prog_1_method_12_code 10 = .ok (.if_icmp .le 5, 3) ∧ lnkB 10 false 10 (.if_icmp .le 5, 3, 15, 0, 0, 0) = true := by decide +kernel
theorem ck_69_14 : decode prog_1_method_12_code 14 = .ok (.ireturn, 1) ∧ lnkB 10 false 14 (.ireturn, 1, 0, 0, 0, 0) = true := by decide +kernel
theorem ck_69_20 : decode prog_1_method_12_code 20 = .ok (.invokevirtual 199, 3) ∧ lnkB 10 false 20 (.invokevirtual 199, 3, 44, 0, 0, 0) = true := by decide +kernel
theorem ck_69_28 : decode prog_1_method_12_code 28 = .ok (.invokevirtual 199, 3) ∧ lnkB 10 false 28 (.invokevirtual 199, 3, 44, 0, 0, 0) = true := by decide +kernel
theorem ck_69_36 : decode prog_1_method_12_code 36 = .ok (.invokevirtual 199, 3) ∧ lnkB 10 false 36 (.invokevirtual 199, 3, 44, 0, 0, 0) = true := by decide +kernel
theorem ck_69_45 : decode prog_1_method_12_code 45 = .ok (.invokevirtual 199, 3) ∧ lnkB 10 false 45 (.invokevirtual 199, 3, 44, 0, 0, 0) = true := by decide +kernel
theorem ck_69_54 : decode prog_1_method_12_code 54 = .ok (.invokevirtual 199, 3) ∧ lnkB 10 false 54 (.invokevirtual 199, 3, 44, 0, 0, 0) = true := by decide +kernel
theorem ck_69_64 : decode prog_1_method_12_code 64 = .ok (.ireturn, 1) ∧ lnkB 10 false 64 (.ireturn, 1, 0, 0, 0, 0) = true := by decide +kernel
abbrev RU_69 (d : Nat) (cp : Nat × Nat) (Post : Option Value → Sto → Prop) : PP := Runs (Ex d) prog_1_method_12_code 10 false 6 (some .int) none cp Post
theorem en_69 {d : Nat} {As : List Value} {S : Sto} {mc ms : Nat} {Post : Option Value → Sto → Prop} (hc : cats As ≤ 6) (h : RU_69 d (mc, ms) Post 0 (lv_args 0 As) [] S 0 0) : Ex (d + 1) 69 As S mc ms Post := ⟨by decide, hc, h⟩
def sg_70_0 : List RI := [(.iload_n 1, 1, 0, 0, 0, 0), (.iconst 0, 1, 0, 0, 0, 0), (.aload_n 0, 1, 0, 0, 0, 0), (.getfield 33, 3, 10, 3, 2, 0), (.getfield 196, 3, 7, 1, 0, 0)]
theorem sk_70_0 : segB 10 false prog_1_method_13_code 0 sg_70_0 = true := by decide +kernel
def sg_70_15 : List RI := [(.iconst (-1), 1, 0, 0, 0, -1)]
theorem sk_70_15 : segB 10 false prog_1_method_13_code 15 sg_70_15 = true := by decide +kernel
def sg_70_17 : List RI := [(.aload_n 0, 1, 0, 0, 0, 0), (.getfield 33, 3, 10, 3, 2, 0), (.iload_n 1, 1, 0, 0, 0, 0), (.putfield 196, 3, 7, 1, 0, 0), (.iload_n 1, 1, 0, 0, 0, 0)]
theorem sk_70_17 : segB 10 false prog_1_method_13_code 17 sg_70_17 = true := by decide +kernel
theorem ck_70_9 : decode prog_1_method_13_code 9 = .ok (.invokestatic 86, 3) ∧ lnkB 10 false 9 (.invokestatic 86, 3, 57, 0, 0, 0) = true := by decide +kernel
theorem ck_70_12 : decode prog_1_method_13_code 12 = .ok (.ifCond .ne 5, 3) ∧ lnkB 10 false 12 (.ifCond .ne 5, 3, 17, 0, 0, 0) = true := by decide +kernel
theorem ck_70_16 : decode prog_1_method_13_code 16 = .ok (.ireturn, 1) ∧ lnkB 10 false 16 (.ireturn, 1, 0, 0, 0, 0) = true := by decide +kernel
theorem ck_70_26 : decode prog_1_method_13_code 26 = .ok (.ireturn, 1) ∧ lnkB 10 false 26 (.ireturn, 1, 0, 0, 0, 0) = true := by decide +kernel
abbrev RU_70 (d : Nat) (cp : Nat × Nat) (Post : Option Value → Sto → Prop) : PP := Runs (Ex d) prog_1_method_13_code 10 false 2 (some .int) none cp Post
theorem en_70 {d : Nat} {As : List Value} {S : Sto} {mc ms : Nat} {Post : Option Value → Sto → Prop} (hc : cats As ≤ 2) (h : RU_70 d (mc, ms) Post 0 (lv_args 0 As) [] S 0 0) : Ex (d + 1) 70 As S mc ms Post := ⟨by decide, hc, h⟩
def sg_71_0 : List RI := [(.iload_n 1, 1, 0, 0, 0, 0), (.iconst 0, 1, 0, 0, 0, 0), (.iconst 3, 1, 0, 0, 0, 3)]
theorem sk_71_0 : segB 10 false prog_1_method_14_code 0 sg_71_0 = true := by decide +kernel
def sg_71_9 : List RI := [(.iload_n 2, 1, 0, 0, 0, 0), (.iload_n 3, 1, 0, 0, 0, 0)]
theorem sk_71_9 : segB 10 false prog_1_method_14_code 9 sg_71_9 = true := by decide +kernel
def sg_71_17 : List RI := [(.iload 4, 2, 0, 0, 0, 0), (.iconst 1, 1, 0, 0, 0, 1), (.sipush 200, 3, 0, 0, 0, 200)]
theorem sk_71_17 : segB 10 false prog_1_method_14_code 17 sg_71_17 = true := by decide +kernel
def sg_71_29 : List RI := [(.aload_n 0, 1, 0, 0, 0, 0), (.getfield 12, 3, 10, 0, 2, 0), (.getfield 189, 3, 1, 4, 0, 0), (.iload 4, 2, 0, 0, 0, 0), (.iadd, 1, 0, 0, 0, 0), (.ldc 114, 2, 0, 0, 0, 100000)]
theorem sk_71_29 : segB 10 false prog_1_method_14_code 29 sg_71_29 = true := by decide +kernel
def sg_71_44 : List RI := [(.iconst (-1), 1, 0, 0, 0, -1)]
theorem sk_71_44 : segB 10 false prog_1_method_14_code 44 sg_71_44 = true := by decide +kernel
def sg_71_46 : List RI := [(.aload_n 0, 1, 0, 0, 0, 0), (.getfield 49, 3, 10, 5, 2, 0), (.aload_n 0, 1, 0, 0, 0, 0), (.getfield 33, 3, 10, 3, 2, 0), (.iload_n 2, 1, 0, 0, 0, 0)]
theorem sk_71_46 : segB 10 false prog_1_method_14_code 46 sg_71_46 = true := by decide +kernel
def sg_71_58 : List RI := [(.istore 5, 2, 0, 0, 0, 0), (.aload_n 0, 1, 0, 0, 0, 0), (.getfield 33, 3, 10, 3, 2, 0), (.iconst 0, 1, 0, 0, 0, 0), (.putfield 196, 3, 7, 1, 0, 0), (.iload 5, 2, 0, 0, 0, 0)]
theorem sk_71_58 : segB 10 false prog_1_method_14_code 58 sg_71_58 = true := by decide +kernel
def sg_71_73 : List RI := [(.bipush (-2), 2, 0, 0, 0, -2), (.iload 5, 2, 0, 0, 0, 0), (.isub, 1, 0, 0, 0, 0)]
theorem sk_71_73 : segB 10 false prog_1_method_14_code 73 sg_71_73 = true := by decide +kernel
def sg_71_79 : List RI := [(.aload_n 0, 1, 0, 0, 0, 0), (.getfield 40, 3, 10, 4, 2, 0), (.aload_n 0, 1, 0, 0, 0, 0), (.getfield 26, 3, 10, 2, 2, 0)]
theorem sk_71_79 : segB 10 false prog_1_method_14_code 79 sg_71_79 = true := by decide +kernel
def sg_71_90 : List RI := [(.istore 6, 2, 0, 0, 0, 0), (.iload 6, 2, 0, 0, 0, 0), (.aload_n 0, 1, 0, 0, 0, 0), (.getfield 12, 3, 10, 0, 2, 0), (.getfield 180, 3, 1, 3, 2, 0), (.iload_n 1, 1, 0, 0, 0, 0)]
theorem sk_71_90 : segB 10 false prog_1_method_14_code 90 sg_71_90 = true := by decide +kernel
def sg_71_106 : List RI := [(.aload_n 0, 1, 0, 0, 0, 0), (.aload_n 0, 1, 0, 0, 0, 0), (.getfield 40, 3, 10, 4, 2, 0), (.aload_n 0, 1, 0, 0, 0, 0), (.getfield 12, 3, 10, 0, 2, 0), (.getfield 180, 3, 1, 3, 2, 0), (.iload_n 1, 1, 0, 0, 0, 0)]
theorem sk_71_106 : segB 10 false prog_1_method_14_code 106 sg_71_106 = true := by decide +kernel
def sg_71_120 : List RI := [(.aload_n 0, 1, 0, 0, 0, 0), (.getfield 26, 3, 10, 2, 2, 0)]
theorem sk_71_120 : segB 10 false prog_1_method_14_code 120 sg_71_120 = true := by decide +kernel
def sg_71_127 : List RI := [(.putfield 82, 3, 10, 9, 0, 0), (.iconst 2, 1, 0, 0, 0, 2)]
theorem sk_71_127 : segB 10 false prog_1_method_14_code 127 sg_71_127 = true := by decide +kernel
def sg_71_132 : List RI := [(.aload_n 0, 1, 0, 0, 0, 0), (.getfield 12, 3, 10, 0, 2, 0), (.getfield 180, 3, 1, 3, 2, 0), (.iload_n 1, 1, 0, 0, 0, 0), (.dup2, 1, 0, 0, 0, 0)]
theorem sk_71_132 : segB 10 false prog_1_method_14_code 132 sg_71_132 = true := by decide +kernel
def sg_71_142 : List RI := [(.iload 6, 2, 0, 0, 0, 0), (.isub, 1, 0, 0, 0, 0)]
theorem sk_71_142 : segB 10 false prog_1_method_14_code 142 sg_71_142 = true := by decide +kernel
def sg_71_146 : List RI := [(.iload_n 2, 1, 0, 0, 0, 0), (.bipush 32, 2, 0, 0, 0, 32), (.imul, 1, 0, 0, 0, 0), (.iload_n 3, 1, 0, 0, 0, 0), (.iadd, 1, 0, 0, 0, 0), (.istore 7, 2, 0, 0, 0, 0), (.aload_n 0, 1, 0, 0, 0, 0), (.getfield 65, 3, 10, 7, 2, 0), (.iload 7, 2, 0, 0, 0, 0), (.iload 4, 2, 0, 0, 0, 0), (.aload_n 0, 1, 0, 0, 0, 0), (.getfield 12, 3, 10, 0, 2, 0), (.getfield 171, 3, 1, 0, 2, 0), (.iload_n 1, 1, 0, 0, 0, 0)]
theorem sk_71_146 : segB 10 false prog_1_method_14_code 146 sg_71_146 = true := by decide +kernel
def sg_71_174 : List RI := [(.aload_n 0, 1, 0, 0, 0, 0), (.getfield 78, 3, 10, 8, 2, 0), (.iload 7, 2, 0, 0, 0, 0)]
theorem sk_71_174 : segB 10 false prog_1_method_14_code 174 sg_71_174 = true := by decide +kernel
def sg_71_186 : List RI := [(.iconst 1, 1, 0, 0, 0, 1)]
theorem sk_71_186 : segB 10 false prog_1_method_14_code 186 sg_71_186 = true := by decide +kernel
def sg_71_190 : List RI := [(.iconst 0, 1, 0, 0, 0, 0)]
theorem sk_71_190 : segB 10 false prog_1_method_14_code 190 sg_71_190 = true := by decide +kernel
theorem ck_71_3 : decode prog_1_method_14_code 3 = .ok (.invokestatic 86, 3) ∧ lnkB 10 false 3 (.invokestatic 86, 3, 57, 0, 0, 0) = true := by decide +kernel
theorem ck_71_6 : decode prog_1_method_14_code 6 = .ok (.ifCond .eq 38, 3) ∧ lnkB 10 false 6 (.ifCond .eq 38, 3, 44, 0, 0, 0) = true := by decide +kernel
theorem ck_71_11 : decode prog_1_method_14_code 11 = .ok (.invokestatic 147, 3) ∧ lnkB 10 false 11 (.invokestatic 147, 3, 62, 0, 0, 0) = true := by decide +kernel
theorem ck_71_14 : decode prog_1_method_14_code 14 = .ok (.ifCond .eq 30, 3) ∧ lnkB 10 false 14 (.ifCond .eq 30, 3, 44, 0, 0, 0) = true := by decide +kernel
theorem ck_71_23 : decode prog_1_method_14_code 23 = .ok (.invokestatic 86, 3) ∧ lnkB 10 false 23 (.invokestatic 86, 3, 57, 0, 0, 0) = true := by decide +kernel
theorem ck_71_26 : decode prog_1_method_14_code 26 = .ok (.ifCond .eq 18, 3) ∧ lnkB 10 false 26 (.ifCond .eq 18, 3, 44, 0, 0, 0) = true := by decide +kernel
theorem ck_71_41 : decode prog_1_method_14_code 41 = .ok (.if_icmp .le 5, 3) ∧ lnkB 10 false 41 (.if_icmp .le 5, 3, 46, 0, 0, 0) = true := by decide +kernel
theorem ck_71_45 : decode prog_1_method_14_code 45 = .ok (.ireturn, 1) ∧ lnkB 10 false 45 (.ireturn, 1, 0, 0, 0, 0) = true := by decide +kernel
theorem ck_71_55 : decode prog_1_method_14_code 55 = .ok (.invokevirtual 202, 3) ∧ lnkB 10 false 55 (.invokevirtual 202, 3, 17, 0, 0, 0) = true := by decide +kernel
theorem ck_71_70 : decode prog_1_method_14_code 70 = .ok (.ifCond .eq 9, 3) ∧ lnkB 10 false 70 (.ifCond .eq 9, 3, 79, 0, 0, 0) = true := by decide +kernel
theorem ck_71_78 : decode prog_1_method_14_code 78 = .ok (.ireturn, 1) ∧ lnkB 10 false 78 (.ireturn, 1, 0, 0, 0, 0) = true := by decide +kernel
theorem ck_71_87 : decode prog_1_method_14_code 87 = .ok (.invokevirtual 206, 3) ∧ lnkB 10 false 87 (.invokevirtual 206, 3, 52, 0, 0, 0) = true := by decide +kernel
theorem ca_71_102 : decode prog_1_method_14_code 102 = .ok (.iaload, 1) ∧ lnkB 10 false 102 (.iaload, 1, 0, 0, 0, 0) = true := by decide +kernel
theorem ck_71_103 : decode prog_1_method_14_code 103 = .ok (.if_icmp .le 29, 3) ∧ lnkB 10 false 103 (.if_icmp .le 29, 3, 132, 0, 0, 0) = true := by decide +kernel
theorem ca_71_119 : decode prog_1_method_14_code 119 = .ok (.iaload, 1) ∧ lnkB 10 false 119 (.iaload, 1, 0, 0, 0, 0) = true := by decide +kernel
theorem ck_71_124 : decode prog_1_method_14_code 124 = .ok (.invokevirtual 210, 3) ∧ lnkB 10 false 124 (.invokevirtual 210, 3, 54, 0, 0, 0) = true := by decide +kernel
theorem ck_71_131 : decode prog_1_method_14_code 131 = .ok (.ireturn, 1) ∧ lnkB 10 false 131 (.ireturn, 1, 0, 0, 0, 0) = true := by decide +kernel
theorem ca_71_141 : decode prog_1_method_14_code 141 = .ok (.iaload, 1) ∧ lnkB 10 false 141 (.iaload, 1, 0, 0, 0, 0) = true := by decide +kernel
theorem ca_71_145 : decode prog_1_method_14_code 145 = .ok (.iastore, 1) ∧ lnkB 10 false 145 (.iastore, 1, 0, 0, 0, 0) = true := by decide +kernel
theorem ca_71_170 : decode prog_1_method_14_code 170 = .ok (.iaload, 1) ∧ lnkB 10 false 170 (.iaload, 1, 0, 0, 0, 0) = true := by decide +kernel
theorem ck_71_171 : decode prog_1_method_14_code 171 = .ok (.invokevirtual 214, 3) ∧ lnkB 10 false 171 (.invokevirtual 214, 3, 23, 0, 0, 0) = true := by decide +kernel
theorem ck_71_180 : decode prog_1_method_14_code 180 = .ok (.invokevirtual 218, 3) ∧ lnkB 10 false 180 (.invokevirtual 218, 3, 46, 0, 0, 0) = true := by decide +kernel
theorem ck_71_183 : decode prog_1_method_14_code 183 = .ok (.ifCond .eq 7, 3) ∧ lnkB 10 false 183 (.ifCond .eq 7, 3, 190, 0, 0, 0) = true := by decide +kernel
theorem ck_71_187 : decode prog_1_method_14_code 187 = .ok (.goto 4, 3) ∧ lnkB 10 false 187 (.goto 4, 3, 191, 0, 0, 0) = true := by decide +kernel
theorem ck_71_191 : decode prog_1_method_14_code 191 = .ok (.ireturn, 1) ∧ lnkB 10 false 191 (.ireturn, 1, 0, 0, 0, 0) = true := by decide +kernel
abbrev RU_71 (d : Nat) (cp : Nat × Nat) (Post : Option Value → Sto → Prop) : PP := Runs (Ex d) prog_1_method_14_code 10 false 8 (some .int) none cp Post
theorem en_71 {d : Nat} {As : List Value} {S : Sto} {mc ms : Nat} {Post : Option Value → Sto → Prop} (hc : cats As ≤ 8) (h : RU_71 d (mc, ms) Post 0 (lv_args 0 As) [] S 0 0) : Ex (d + 1) 71 As S mc ms Post := ⟨by decide, hc, h⟩
def sg_72_0 : List RI := [(.iload_n 1, 1, 0, 0, 0, 0), (.iconst 0, 1, 0, 0, 0, 0), (.iconst 5, 1, 0, 0, 0, 5)]
theorem sk_72_0 : segB 10 false prog_1_method_15_code 0 sg_72_0 = true := by decide +kernel
def sg_72_9 : List RI := [(.iconst (-1), 1, 0, 0, 0, -1)]
theorem sk_72_9 : segB 10 false prog_1_method_15_code 9 sg_72_9 = true := by decide +kernel
def sg_72_11 : List RI := [(.aload_n 0, 1, 0, 0, 0, 0), (.getfield 49, 3, 10, 5, 2, 0), (.aload_n 0, 1, 0, 0, 0, 0), (.getfield 33, 3, 10, 3, 2, 0), (.iload_n 1, 1, 0, 0, 0, 0)]
theorem sk_72_11 : segB 10 false prog_1_method_15_code 11 sg_72_11 = true := by decide +kernel
def sg_72_23 : List RI := [(.istore_n 2, 1, 0, 0, 0, 0), (.iload_n 2, 1, 0, 0, 0, 0)]
theorem sk_72_23 : segB 10 false prog_1_method_15_code 23 sg_72_23 = true := by decide +kernel
def sg_72_28 : List RI := [(.bipush (-2), 2, 0, 0, 0, -2), (.iload_n 2, 1, 0, 0, 0, 0), (.isub, 1, 0, 0, 0, 0)]
theorem sk_72_28 : segB 10 false prog_1_method_15_code 28 sg_72_28 = true := by decide +kernel
def sg_72_35 : List RI := [(.aload_n 0, 1, 0, 0, 0, 0), (.getfield 40, 3, 10, 4, 2, 0), (.aload_n 0, 1, 0, 0, 0, 0), (.getfield 26, 3, 10, 2, 2, 0)]
theorem sk_72_35 : segB 10 false prog_1_method_15_code 35 sg_72_35 = true := by decide +kernel
theorem ck_72_3 : decode prog_1_method_15_code 3 = .ok (.invokestatic 86, 3) ∧ lnkB 10 false 3 (.invokestatic 86, 3, 57, 0, 0, 0) = true := by decide +kernel
theorem ck_72_6 : decode prog_1_method_15_code 6 = .ok (.ifCond .ne 5, 3) ∧ lnkB 10 false 6 (.ifCond .ne 5, 3, 11, 0, 0, 0) = true := by decide +kernel
theorem ck_72_10 : decode prog_1_method_15_code 10 = .ok (.ireturn, 1) ∧ lnkB 10 false 10 (.ireturn, 1, 0, 0, 0, 0) = true := by decide +kernel
theorem ck_72_20 : decode prog_1_method_15_code 20 = .ok (.invokevirtual 202, 3) ∧ lnkB 10 false 20 (.invokevirtual 202, 3, 17, 0, 0, 0) = true := by decide +kernel
theorem ck_72_25 : decode prog_1_method_15_code 25 = .ok (.ifCond .eq 10, 3) ∧ lnkB 10 false 25 (.ifCond .eq 10, 3, 35, 0, 0, 0) = true := by decide +kernel
theorem ck_72_32 : decode prog_1_method_15_code 32 = .ok (.goto 14, 3) ∧ lnkB 10 false 32 (.goto 14, 3, 46, 0, 0, 0) = true := by decide +kernel
theorem ck_72_43 : decode prog_1_method_15_code 43 = .ok (.invokevirtual 206, 3) ∧ lnkB 10 false 43 (.invokevirtual 206, 3, 52, 0, 0, 0) = true := by decide +kernel
theorem ck_72_46 : decode prog_1_method_15_code 46 = .ok (.ireturn, 1) ∧ lnkB 10 false 46 (.ireturn, 1, 0, 0, 0, 0) = true := by decide +kernel
abbrev RU_72 (d : Nat) (cp : Nat × Nat) (Post : Option Value → Sto → Prop) : PP := Runs (Ex d) prog_1_method_15_code 10 false 3 (some .int) none cp Post
theorem en_72 {d : Nat} {As : List Value} {S : Sto} {mc ms : Nat} {Post : Option Value → Sto → Prop} (hc : cats As ≤ 3) (h : RU_72 d (mc, ms) Post 0 (lv_args 0 As) [] S 0 0) : Ex (d + 1) 72 As S mc ms Post := ⟨by decide, hc, h⟩
def sg_73_0 : List RI := [(.aload_n 0, 1, 0, 0, 0, 0), (.getfield 82, 3, 10, 9, 0, 0)]
theorem sk_73_0 : segB 10 false prog_1_method_16_code 0 sg_73_0 = true := by decide +kernel
theorem ck_73_4 : decode prog_1_method_16_code 4 = .ok (.ireturn, 1) ∧ lnkB 10 false 4 (.ireturn, 1, 0, 0, 0, 0) = true := by decide +kernel
abbrev RU_73 (d : Nat) (cp : Nat × Nat) (Post : Option Value → Sto → Prop) : PP := Runs (Ex d) prog_1_method_16_code 10 false 1 (some .int) none cp Post
theorem en_73 {d : Nat} {As : List Value} {S : Sto} {mc ms : Nat} {Post : Option Value → Sto → Prop} (hc : cats As ≤ 1) (h : RU_73 d (mc, ms) Post 0 (lv_args 0 As) [] S 0 0) : Ex (d + 1) 73 As S mc ms Post := ⟨by decide, hc, h⟩
def sg_74_0 : List RI := [(.iload_n 1, 1, 0, 0, 0, 0), (.iconst 0, 1, 0, 0, 0, 0), (.aload_n 0, 1, 0, 0, 0, 0), (.getfield 78, 3, 10, 8, 2, 0), (.getfield 222, 3, 8, 1, 0, 0), (.iconst 1, 1, 0, 0, 0, 1), (.isub, 1, 0, 0, 0, 0)]
theorem sk_74_0 : segB 10 false prog_1_method_17_code 0 sg_74_0 = true := by decide +kernel
def sg_74_17 : List RI := [(.aload_n 0, 1, 0, 0, 0, 0), (.getfield 78, 3, 10, 8, 2, 0), (.getfield 223, 3, 8, 0, 2, 0), (.iload_n 1, 1, 0, 0, 0, 0)]
theorem sk_74_17 : segB 10 false prog_1_method_17_code 17 sg_74_17 = true := by decide +kernel
def sg_74_29 : List RI := [(.iconst (-1), 1, 0, 0, 0, -1)]
theorem sk_74_29 : segB 10 false prog_1_method_17_code 29 sg_74_29 = true := by decide +kernel
theorem ck_74_11 : decode prog_1_method_17_code 11 = .ok (.invokestatic 86, 3) ∧ lnkB 10 false 11 (.invokestatic 86, 3, 57, 0, 0, 0) = true := by decide +kernel
theorem ck_74_14 : decode prog_1_method_17_code 14 = .ok (.ifCond .eq 15, 3) ∧ lnkB 10 false 14 (.ifCond .eq 15, 3, 29, 0, 0, 0) = true := by decide +kernel
theorem ca_74_25 : decode prog_1_method_17_code 25 = .ok (.iaload, 1) ∧ lnkB 10 false 25 (.iaload, 1, 0, 0, 0, 0) = true := by decide +kernel
theorem ck_74_26 : decode prog_1_method_17_code 26 = .ok (.goto 4, 3) ∧ lnkB 10 false 26 (.goto 4, 3, 30, 0, 0, 0) = true := by decide +kernel
theorem ck_74_30 : decode prog_1_method_17_code 30 = .ok (.ireturn, 1) ∧ lnkB 10 false 30 (.ireturn, 1, 0, 0, 0, 0) = true := by decide +kernel
abbrev RU_74 (d : Nat) (cp : Nat × Nat) (Post : Option Value → Sto → Prop) : PP := Runs (Ex d) prog_1_method_17_code 10 false 2 (some .int) none cp Post
theorem en_74 {d : Nat} {As : List Value} {S : Sto} {mc ms : Nat} {Post : Option Value → Sto → Prop} (hc : cats As ≤ 2) (h : RU_74 d (mc, ms) Post 0 (lv_args 0 As) [] S 0 0) : Ex (d + 1) 74 As S mc ms Post := ⟨by decide, hc, h⟩
def sg_75_0 : List RI := [(.iload_n 1, 1, 0, 0, 0, 0), (.iconst 0, 1, 0, 0, 0, 0), (.aload_n 0, 1, 0, 0, 0, 0), (.getfield 56, 3, 10, 6, 2, 0), (.getfield 226, 3, 0, 5, 0, 0), (.iconst 1, 1, 0, 0, 0, 1), (.isub, 1, 0, 0, 0, 0)]
theorem sk_75_0 : segB 10 false prog_1_method_18_code 0 sg_75_0 = true := by decide +kernel
def sg_75_17 : List RI := [(.iconst (-1), 1, 0, 0, 0, -1)]
theorem sk_75_17 : segB 10 false prog_1_method_18_code 17 sg_75_17 = true := by decide +kernel
def sg_75_19 : List RI := [(.iload_n 2, 1, 0, 0, 0, 0)]
theorem sk_75_19 : segB 10 false prog_1_method_18_code 19 sg_75_19 = true := by decide +kernel
def sg_75_56 : List RI := [(.aload_n 0, 1, 0, 0, 0, 0), (.getfield 56, 3, 10, 6, 2, 0), (.getfield 229, 3, 0, 0, 2, 0), (.iload_n 1, 1, 0, 0, 0, 0)]
theorem sk_75_56 : segB 10 false prog_1_method_18_code 56 sg_75_56 = true := by decide +kernel
def sg_75_66 : List RI := [(.aload_n 0, 1, 0, 0, 0, 0), (.getfield 56, 3, 10, 6, 2, 0), (.getfield 230, 3, 0, 1, 2, 0), (.iload_n 1, 1, 0, 0, 0, 0)]
theorem sk_75_66 : segB 10 false prog_1_method_18_code 66 sg_75_66 = true := by decide +kernel
def sg_75_76 : List RI := [(.aload_n 0, 1, 0, 0, 0, 0), (.getfield 56, 3, 10, 6, 2, 0), (.getfield 233, 3, 0, 2, 2, 0), (.iload_n 1, 1, 0, 0, 0, 0)]
theorem sk_75_76 : segB 10 false prog_1_method_18_code 76 sg_75_76 = true := by decide +kernel
def sg_75_86 : List RI := [(.aload_n 0, 1, 0, 0, 0, 0), (.getfield 56, 3, 10, 6, 2, 0), (.getfield 236, 3, 0, 3, 2, 0), (.iload_n 1, 1, 0, 0, 0, 0)]
theorem sk_75_86 : segB 10 false prog_1_method_18_code 86 sg_75_86 = true := by decide +kernel
def sg_75_96 : List RI := [(.aload_n 0, 1, 0, 0, 0, 0), (.getfield 56, 3, 10, 6, 2, 0), (.getfield 239, 3, 0, 4, 2, 0), (.iload_n 1, 1, 0, 0, 0, 0)]
theorem sk_75_96 : segB 10 false prog_1_method_18_code 96 sg_75_96 = true := by decide +kernel
def sg_75_106 : List RI := [(.iload_n 2, 1, 0, 0, 0, 0), (.bipush 10, 2, 0, 0, 0, 10)]
theorem sk_75_106 : segB 10 false prog_1_method_18_code 106 sg_75_106 = true := by decide +kernel
def sg_75_112 : List RI := [(.iconst (-1), 1, 0, 0, 0, -1)]
theorem sk_75_112 : segB 10 false prog_1_method_18_code 112 sg_75_112 = true := by decide +kernel
def sg_75_116 : List RI := [(.aload_n 0, 1, 0, 0, 0, 0), (.getfield 56, 3, 10, 6, 2, 0), (.iload_n 1, 1, 0, 0, 0, 0), (.iload_n 2, 1, 0, 0, 0, 0), (.bipush 10, 2, 0, 0, 0, 10), (.isub, 1, 0, 0, 0, 0)]
theorem sk_75_116 : segB 10 false prog_1_method_18_code 116 sg_75_116 = true := by decide +kernel
theorem ck_75_11 : decode prog_1_method_18_code 11 = .ok (.invokestatic 86, 3) ∧ lnkB 10 false 11 (.invokestatic 86, 3, 57, 0, 0, 0) = true := by decide +kernel
theorem ck_75_14 : decode prog_1_method_18_code 14 = .ok (.ifCond .ne 5, 3) ∧ lnkB 10 false 14 (.ifCond .ne 5, 3, 19, 0, 0, 0) = true := by decide +kernel
theorem ck_75_18 : decode prog_1_method_18_code 18 = .ok (.ireturn, 1) ∧ lnkB 10 false 18 (.ireturn, 1, 0, 0, 0, 0) = true := by decide +kernel
theorem ck_75_20 : decode prog_1_method_18_code 20 = .ok (.tableswitch 86 0 4 #[36, 46, 56, 66, 76], 36) ∧ lnkB 10 false 20 (.tableswitch 86 0 4 #[36, 46, 56, 66, 76], 36, 0, 0, 0, 0) = true := by decide +kernel
theorem ca_75_64 : decode prog_1_method_18_code 64 = .ok (.iaload, 1) ∧ lnkB 10 false 64 (.iaload, 1, 0, 0, 0, 0) = true := by decide +kernel
theorem ck_75_65 : decode prog_1_method_18_code 65 = .ok (.ireturn, 1) ∧ lnkB 10 false 65 (.ireturn, 1, 0, 0, 0, 0) = true := by decide +kernel
theorem ca_75_74 : decode prog_1_method_18_code 74 = .ok (.iaload, 1) ∧ lnkB 10 false 74 (.iaload, 1, 0, 0, 0, 0) = true := by decide +kernel
theorem ck_75_75 : decode prog_1_method_18_code 75 = .ok (.ireturn, 1) ∧ lnkB 10 false 75 (.ireturn, 1, 0, 0, 0, 0) = true := by decide +kernel
theorem ca_75_84 : decode prog_1_method_18_code 84 = .ok (.iaload, 1) ∧ lnkB 10 false 84 (.iaload, 1, 0, 0, 0, 0) = true := by decide +kernel
theorem ck_75_85 : decode prog_1_method_18_code 85 = .ok (.ireturn, 1) ∧ lnkB 10 false 85 (.ireturn, 1, 0, 0, 0, 0) = true := by decide +kernel
theorem ca_75_94 : decode prog_1_method_18_code 94 = .ok (.iaload, 1) ∧ lnkB 10 false 94 (.iaload, 1, 0, 0, 0, 0) = true := by decide +kernel
theorem ck_75_95 : decode prog_1_method_18_code 95 = .ok (.ireturn, 1) ∧ lnkB 10 false 95 (.ireturn, 1, 0, 0, 0, 0) = true := by decide +kernel
theorem ca_75_104 : decode prog_1_method_18_code 104 = .ok (.iaload, 1) ∧ lnkB 10 false 104 (.iaload, 1, 0, 0, 0, 0) = true := by decide +kernel
theorem ck_75_105 : decode prog_1_method_18_code 105 = .ok (.ireturn, 1) ∧ lnkB 10 false 105 (.ireturn, 1, 0, 0, 0, 0) = true := by decide +kernel
theorem ck_75_109 : decode prog_1_method_18_code 109 = .ok (.if_icmp .ge 7, 3) ∧ lnkB 10 false 109 (.if_icmp .ge 7, 3, 116, 0, 0, 0) = true := by decide +kernel
theorem ck_75_113 : decode prog_1_method_18_code 113 = .ok (.goto 15, 3) ∧ lnkB 10 false 113 (.goto 15, 3, 128, 0, 0, 0) = true := by decide +kernel
theorem ck_75_125 : decode prog_1_method_18_code 125 = .ok (.invokevirtual 240, 3) ∧ lnkB 10 false 125 (.invokevirtual 240, 3, 5, 0, 0, 0) = true := by decide +kernel
theorem ck_75_128 : decode prog_1_method_18_code 128 = .ok (.ireturn, 1) ∧ lnkB 10 false 128 (.ireturn, 1, 0, 0, 0, 0) = true := by decide +kernel
abbrev RU_75 (d : Nat) (cp : Nat × Nat) (Post : Option Value → Sto → Prop) : PP := Runs (Ex d) prog_1_method_18_code 10 false 3 (some .int) none cp Post
theorem en_75 {d : Nat} {As : List Value} {S : Sto} {mc ms : Nat} {Post : Option Value → Sto → Prop} (hc : cats As ≤ 3) (h : RU_75 d (mc, ms) Post 0 (lv_args 0 As) [] S 0 0) : Ex (d + 1) 75 As S mc ms Post := ⟨by decide, hc, h⟩
def sg_76_0 : List RI := [(.iload_n 1, 1, 0, 0, 0, 0), (.iconst 0, 1, 0, 0, 0, 0), (.iconst 4, 1, 0, 0, 0, 4)]
theorem sk_76_0 : segB 10 false prog_1_method_19_code 0 sg_76_0 = true := by decide +kernel
def sg_76_9 : List RI := [(.iconst (-1), 1, 0, 0, 0, -1)]
theorem sk_76_9 : segB 10 false prog_1_method_19_code 9 sg_76_9 = true := by decide +kernel
def sg_76_11 : List RI := [(.aload_n 0, 1, 0, 0, 0, 0), (.getfield 19, 3, 10, 1, 2, 0), (.getfield 90, 3, 3, 0, 2, 0), (.iload_n 1, 1, 0, 0, 0, 0)]
theorem sk_76_11 : segB 10 false prog_1_method_19_code 11 sg_76_11 = true := by decide +kernel
def sg_76_20 : List RI := [(.astore_n 3, 1, 0, 0, 0, 0), (.iload_n 2, 1, 0, 0, 0, 0)]
theorem sk_76_20 : segB 10 false prog_1_method_19_code 20 sg_76_20 = true := by decide +kernel
def sg_76_48 : List RI := [(.aload_n 3, 1, 0, 0, 0, 0), (.getfield 243, 3, 2, 5, 0, 0)]
theorem sk_76_48 : segB 10 false prog_1_method_19_code 48 sg_76_48 = true := by decide +kernel
def sg_76_55 : List RI := [(.iconst 0, 1, 0, 0, 0, 0)]
theorem sk_76_55 : segB 10 false prog_1_method_19_code 55 sg_76_55 = true := by decide +kernel
def sg_76_57 : List RI := [(.aload_n 3, 1, 0, 0, 0, 0), (.aload_n 0, 1, 0, 0, 0, 0), (.getfield 12, 3, 10, 0, 2, 0), (.getfield 189, 3, 1, 4, 0, 0)]
theorem sk_76_57 : segB 10 false prog_1_method_19_code 57 sg_76_57 = true := by decide +kernel
def sg_76_71 : List RI := [(.iconst 1, 1, 0, 0, 0, 1)]
theorem sk_76_71 : segB 10 false prog_1_method_19_code 71 sg_76_71 = true := by decide +kernel
def sg_76_75 : List RI := [(.iconst 2, 1, 0, 0, 0, 2)]
theorem sk_76_75 : segB 10 false prog_1_method_19_code 75 sg_76_75 = true := by decide +kernel
def sg_76_77 : List RI := [(.aload_n 3, 1, 0, 0, 0, 0), (.getfield 250, 3, 2, 6, 0, 0)]
theorem sk_76_77 : segB 10 false prog_1_method_19_code 77 sg_76_77 = true := by decide +kernel
def sg_76_82 : List RI := [(.aload_n 3, 1, 0, 0, 0, 0), (.getfield 243, 3, 2, 5, 0, 0)]
theorem sk_76_82 : segB 10 false prog_1_method_19_code 82 sg_76_82 = true := by decide +kernel
def sg_76_89 : List RI := [(.iconst (-1), 1, 0, 0, 0, -1)]
theorem sk_76_89 : segB 10 false prog_1_method_19_code 89 sg_76_89 = true := by decide +kernel
def sg_76_93 : List RI := [(.aload_n 3, 1, 0, 0, 0, 0), (.getfield 253, 3, 2, 7, 0, 0)]
theorem sk_76_93 : segB 10 false prog_1_method_19_code 93 sg_76_93 = true := by decide +kernel
def sg_76_98 : List RI := [(.iconst (-1), 1, 0, 0, 0, -1)]
theorem sk_76_98 : segB 10 false prog_1_method_19_code 98 sg_76_98 = true := by decide +kernel
theorem ck_76_3 : decode prog_1_method_19_code 3 = .ok (.invokestatic 86, 3) ∧ lnkB 10 false 3 (.invokestatic 86, 3, 57, 0, 0, 0) = true := by decide +kernel
theorem ck_76_6 : decode prog_1_method_19_code 6 = .ok (.ifCond .ne 5, 3) ∧ lnkB 10 false 6 (.ifCond .ne 5, 3, 11, 0, 0, 0) = true := by decide +kernel
theorem ck_76_10 : decode prog_1_method_19_code 10 = .ok (.ireturn, 1) ∧ lnkB 10 false 10 (.ireturn, 1, 0, 0, 0, 0) = true := by decide +kernel
theorem ca_76_19 : decode prog_1_method_19_code 19 = .ok (.aaload, 1) ∧ lnkB 10 false 19 (.aaload, 1, 0, 0, 0, 0) = true := by decide +kernel
theorem ck_76_22 : decode prog_1_method_19_code 22 = .ok (.tableswitch 76 0 2 #[26, 55, 60], 26) ∧ lnkB 10 false 22 (.tableswitch 76 0 2 #[26, 55, 60], 26, 0, 0, 0, 0) = true := by decide +kernel
theorem ck_76_52 : decode prog_1_method_19_code 52 = .ok (.ifCond .eq 5, 3) ∧ lnkB 10 false 52 (.ifCond .eq 5, 3, 57, 0, 0, 0) = true := by decide +kernel
theorem ck_76_56 : decode prog_1_method_19_code 56 = .ok (.ireturn, 1) ∧ lnkB 10 false 56 (.ireturn, 1, 0, 0, 0, 0) = true := by decide +kernel
theorem ck_76_65 : decode prog_1_method_19_code 65 = .ok (.invokevirtual 247, 3) ∧ lnkB 10 false 65 (.invokevirtual 247, 3, 10, 0, 0, 0) = true := by decide +kernel
theorem ck_76_68 : decode prog_1_method_19_code 68 = .ok (.ifCond .eq 7, 3) ∧ lnkB 10 false 68 (.ifCond .eq 7, 3, 75, 0, 0, 0) = true := by decide +kernel
theorem ck_76_72 : decode prog_1_method_19_code 72 = .ok (.goto 4, 3) ∧ lnkB 10 false 72 (.goto 4, 3, 76, 0, 0, 0) = true := by decide +kernel
theorem ck_76_76 : decode prog_1_method_19_code 76 = .ok (.ireturn, 1) ∧ lnkB 10 false 76 (.ireturn, 1, 0, 0, 0, 0) = true := by decide +kernel
theorem ck_76_81 : decode prog_1_method_19_code 81 = .ok (.ireturn, 1) ∧ lnkB 10 false 81 (.ireturn, 1, 0, 0, 0, 0) = true := by decide +kernel
theorem ck_76_86 : decode prog_1_method_19_code 86 = .ok (.ifCond .eq 7, 3) ∧ lnkB 10 false 86 (.ifCond .eq 7, 3, 93, 0, 0, 0) = true := by decide +kernel
theorem ck_76_90 : decode prog_1_method_19_code 90 = .ok (.goto 7, 3) ∧ lnkB 10 false 90 (.goto 7, 3, 97, 0, 0, 0) = true := by decide +kernel
theorem ck_76_97 : decode prog_1_method_19_code 97 = .ok (.ireturn, 1) ∧ lnkB 10 false 97 (.ireturn, 1, 0, 0, 0, 0) = true := by decide +kernel
theorem ck_76_99 : decode prog_1_method_19_code 99 = .ok (.ireturn, 1) ∧ lnkB 10 false 99 (.ireturn, 1, 0, 0, 0, 0) = true := by decide +kernel
abbrev RU_76 (d : Nat) (cp : Nat × Nat) (Post : Option Value → Sto → Prop) : PP := Runs (Ex d) prog_1_method_19_code 10 false 4 (some .int) none cp Post
theorem en_76 {d : Nat} {As : List Value} {S : Sto} {mc ms : Nat} {Post : Option Value → Sto → Prop} (hc : cats As ≤ 4) (h : RU_76 d (mc, ms) Post 0 (lv_args 0 As) [] S 0 0) : Ex (d + 1) 76 As S mc ms Post := ⟨by decide, hc, h⟩
def sg_77_0 : List RI := [(.iload_n 1, 1, 0, 0, 0, 0), (.iload_n 2, 1, 0, 0, 0, 0)]
theorem sk_77_0 : segB 10 false prog_1_method_20_code 0 sg_77_0 = true := by decide +kernel
def sg_77_8 : List RI := [(.iconst (-1), 1, 0, 0, 0, -1)]
theorem sk_77_8 : segB 10 false prog_1_method_20_code 8 sg_77_8 = true := by decide +kernel
def sg_77_10 : List RI := [(.iload_n 1, 1, 0, 0, 0, 0), (.bipush 32, 2, 0, 0, 0, 32), (.imul, 1, 0, 0, 0, 0), (.iload_n 2, 1, 0, 0, 0, 0), (.iadd, 1, 0, 0, 0, 0), (.istore_n 3, 1, 0, 0, 0, 0), (.aload_n 0, 1, 0, 0, 0, 0), (.getfield 26, 3, 10, 2, 2, 0), (.getfield 131, 3, 6, 8, 2, 0), (.iload_n 3, 1, 0, 0, 0, 0)]
theorem sk_77_10 : segB 10 false prog_1_method_20_code 10 sg_77_10 = true := by decide +kernel
def sg_77_26 : List RI := [(.aload_n 0, 1, 0, 0, 0, 0), (.getfield 12, 3, 10, 0, 2, 0), (.getfield 189, 3, 1, 4, 0, 0)]
theorem sk_77_26 : segB 10 false prog_1_method_20_code 26 sg_77_26 = true := by decide +kernel
def sg_77_36 : List RI := [(.aload_n 0, 1, 0, 0, 0, 0), (.getfield 26, 3, 10, 2, 2, 0), (.getfield 131, 3, 6, 8, 2, 0), (.iload_n 3, 1, 0, 0, 0, 0)]
theorem sk_77_36 : segB 10 false prog_1_method_20_code 36 sg_77_36 = true := by decide +kernel
def sg_77_48 : List RI := [(.iconst (-1), 1, 0, 0, 0, -1)]
theorem sk_77_48 : segB 10 false prog_1_method_20_code 48 sg_77_48 = true := by decide +kernel
theorem ck_77_2 : decode prog_1_method_20_code 2 = .ok (.invokestatic 147, 3) ∧ lnkB 10 false 2 (.invokestatic 147, 3, 62, 0, 0, 0) = true := by decide +kernel
theorem ck_77_5 : decode prog_1_method_20_code 5 = .ok (.ifCond .ne 5, 3) ∧ lnkB 10 false 5 (.ifCond .ne 5, 3, 10, 0, 0, 0) = true := by decide +kernel
theorem ck_77_9 : decode prog_1_method_20_code 9 = .ok (.ireturn, 1) ∧ lnkB 10 false 9 (.ireturn, 1, 0, 0, 0, 0) = true := by decide +kernel
theorem ca_77_25 : decode prog_1_method_20_code 25 = .ok (.iaload, 1) ∧ lnkB 10 false 25 (.iaload, 1, 0, 0, 0, 0) = true := by decide +kernel
theorem ck_77_33 : decode prog_1_method_20_code 33 = .ok (.if_icmp .le 15, 3) ∧ lnkB 10 false 33 (.if_icmp .le 15, 3, 48, 0, 0, 0) = true := by decide +kernel
theorem ca_77_44 : decode prog_1_method_20_code 44 = .ok (.iaload, 1) ∧ lnkB 10 false 44 (.iaload, 1, 0, 0, 0, 0) = true := by decide +kernel
theorem ck_77_45 : decode prog_1_method_20_code 45 = .ok (.goto 4, 3) ∧ lnkB 10 false 45 (.goto 4, 3, 49, 0, 0, 0) = true := by decide +kernel
theorem ck_77_49 : decode prog_1_method_20_code 49 = .ok (.ireturn, 1) ∧ lnkB 10 false 49 (.ireturn, 1, 0, 0, 0, 0) = true := by decide +kernel
abbrev RU_77 (d : Nat) (cp : Nat × Nat) (Post : Option Value → Sto → Prop) : PP := Runs (Ex d) prog_1_method_20_code 10 false 4 (some .int) none cp Post
theorem en_77 {d : Nat} {As : List Value} {S : Sto} {mc ms : Nat} {Post : Option Value → Sto → Prop} (hc : cats As ≤ 4) (h : RU_77 d (mc, ms) Post 0 (lv_args 0 As) [] S 0 0) : Ex (d + 1) 77 As S mc ms Post := ⟨by decide, hc, h⟩
def sg_78_0 : List RI := [(.iload_n 1, 1, 0, 0, 0, 0)]
theorem sk_78_0 : segB 10 false prog_1_method_21_code 0 sg_78_0 = true := by decide +kernel
def sg_78_44 : List RI := [(.aload_n 0, 1, 0, 0, 0, 0), (.getfield 12, 3, 10, 0, 2, 0), (.getfield 189, 3, 1, 4, 0, 0)]
theorem sk_78_44 : segB 10 false prog_1_method_21_code 44 sg_78_44 = true := by decide +kernel
def sg_78_52 : List RI := [(.aload_n 0, 1, 0, 0, 0, 0), (.getfield 33, 3, 10, 3, 2, 0), (.getfield 196, 3, 7, 1, 0, 0)]
theorem sk_78_52 : segB 10 false prog_1_method_21_code 52 sg_78_52 = true := by decide +kernel
def sg_78_60 : List RI := [(.aload_n 0, 1, 0, 0, 0, 0), (.getfield 56, 3, 10, 6, 2, 0), (.getfield 226, 3, 0, 5, 0, 0)]
theorem sk_78_60 : segB 10 false prog_1_method_21_code 60 sg_78_60 = true := by decide +kernel
def sg_78_68 : List RI := [(.aload_n 0, 1, 0, 0, 0, 0), (.getfield 78, 3, 10, 8, 2, 0), (.getfield 222, 3, 8, 1, 0, 0)]
theorem sk_78_68 : segB 10 false prog_1_method_21_code 68 sg_78_68 = true := by decide +kernel
def sg_78_76 : List RI := [(.aload_n 0, 1, 0, 0, 0, 0), (.getfield 65, 3, 10, 7, 2, 0), (.getfield 256, 3, 5, 1, 0, 0)]
theorem sk_78_76 : segB 10 false prog_1_method_21_code 76 sg_78_76 = true := by decide +kernel
def sg_78_84 : List RI := [(.aload_n 0, 1, 0, 0, 0, 0), (.getfield 65, 3, 10, 7, 2, 0)]
theorem sk_78_84 : segB 10 false prog_1_method_21_code 84 sg_78_84 = true := by decide +kernel
def sg_78_92 : List RI := [(.aload_n 0, 1, 0, 0, 0, 0), (.getfield 19, 3, 10, 1, 2, 0), (.getfield 115, 3, 3, 1, 0, 0)]
theorem sk_78_92 : segB 10 false prog_1_method_21_code 92 sg_78_92 = true := by decide +kernel
def sg_78_100 : List RI := [(.iload_n 1, 1, 0, 0, 0, 0), (.bipush 10, 2, 0, 0, 0, 10), (.bipush 13, 2, 0, 0, 0, 13)]
theorem sk_78_100 : segB 10 false prog_1_method_21_code 100 sg_78_100 = true := by decide +kernel
def sg_78_111 : List RI := [(.aload_n 0, 1, 0, 0, 0, 0), (.getfield 12, 3, 10, 0, 2, 0), (.getfield 180, 3, 1, 3, 2, 0), (.iload_n 1, 1, 0, 0, 0, 0), (.bipush 10, 2, 0, 0, 0, 10), (.isub, 1, 0, 0, 0, 0)]
theorem sk_78_111 : segB 10 false prog_1_method_21_code 111 sg_78_111 = true := by decide +kernel
def sg_78_126 : List RI := [(.iconst (-1), 1, 0, 0, 0, -1)]
theorem sk_78_126 : segB 10 false prog_1_method_21_code 126 sg_78_126 = true := by decide +kernel
theorem ck_78_1 : decode prog_1_method_21_code 1 = .ok (.tableswitch 99 0 6 #[43, 51, 59, 67, 75, 83, 91], 43) ∧ lnkB 10 false 1 (.tableswitch 99 0 6 #[43, 51, 59, 67, 75, 83, 91], 43, 0, 0, 0, 0) = true := by decide +kernel
theorem ck_78_51 : decode prog_1_method_21_code 51 = .ok (.ireturn, 1) ∧ lnkB 10 false 51 (.ireturn, 1, 0, 0, 0, 0) = true := by decide +kernel
theorem ck_78_59 : decode prog_1_method_21_code 59 = .ok (.ireturn, 1) ∧ lnkB 10 false 59 (.ireturn, 1, 0, 0, 0, 0) = true := by decide +kernel
theorem ck_78_67 : decode prog_1_method_21_code 67 = .ok (.ireturn, 1) ∧ lnkB 10 false 67 (.ireturn, 1, 0, 0, 0, 0) = true := by decide +kernel
theorem ck_78_75 : decode prog_1_method_21_code 75 = .ok (.ireturn, 1) ∧ lnkB 10 false 75 (.ireturn, 1, 0, 0, 0, 0) = true := by decide +kernel
theorem ck_78_83 : decode prog_1_method_21_code 83 = .ok (.ireturn, 1) ∧ lnkB 10 false 83 (.ireturn, 1, 0, 0, 0, 0) = true := by decide +kernel
theorem ck_78_88 : decode prog_1_method_21_code 88 = .ok (.invokevirtual 259, 3) ∧ lnkB 10 false 88 (.invokevirtual 259, 3, 37, 0, 0, 0) = true := by decide +kernel
theorem ck_78_91 : decode prog_1_method_21_code 91 = .ok (.ireturn, 1) ∧ lnkB 10 false 91 (.ireturn, 1, 0, 0, 0, 0) = true := by decide +kernel
theorem ck_78_99 : decode prog_1_method_21_code 99 = .ok (.ireturn, 1) ∧ lnkB 10 false 99 (.ireturn, 1, 0, 0, 0, 0) = true := by decide +kernel
theorem ck_78_105 : decode prog_1_method_21_code 105 = .ok (.invokestatic 86, 3) ∧ lnkB 10 false 105 (.invokestatic 86, 3, 57, 0, 0, 0) = true := by decide +kernel
theorem ck_78_108 : decode prog_1_method_21_code 108 = .ok (.ifCond .eq 18, 3) ∧ lnkB 10 false 108 (.ifCond .eq 18, 3, 126, 0, 0, 0) = true := by decide +kernel
theorem ca_78_122 : decode prog_1_method_21_code 122 = .ok (.iaload, 1) ∧ lnkB 10 false 122 (.iaload, 1, 0, 0, 0, 0) = true := by decide +kernel
theorem ck_78_123 : decode prog_1_method_21_code 123 = .ok (.goto 4, 3) ∧ lnkB 10 false 123 (.goto 4, 3, 127, 0, 0, 0) = true := by decide +kernel
theorem ck_78_127 : decode prog_1_method_21_code 127 = .ok (.ireturn, 1) ∧ lnkB 10 false 127 (.ireturn, 1, 0, 0, 0, 0) = true := by decide +kernel
abbrev RU_78 (d : Nat) (cp : Nat × Nat) (Post : Option Value → Sto → Prop) : PP := Runs (Ex d) prog_1_method_21_code 10 false 2 (some .int) none cp Post
theorem en_78 {d : Nat} {As : List Value} {S : Sto} {mc ms : Nat} {Post : Option Value → Sto → Prop} (hc : cats As ≤ 2) (h : RU_78 d (mc, ms) Post 0 (lv_args 0 As) [] S 0 0) : Ex (d + 1) 78 As S mc ms Post := ⟨by decide, hc, h⟩
def sg_79_0 : List RI := [(.aload_n 0, 1, 0, 0, 0, 0), (.invokespecial 3, 3, 0, 4, 0, 0), (.aload_n 0, 1, 0, 0, 0, 0), (.iconst 5, 1, 0, 0, 0, 5), (.newarray .int, 2, 13, 0, 0, 0), (.putfield 9, 3, 11, 2, 2, 0), (.aload_n 0, 1, 0, 0, 0, 0), (.iconst 5, 1, 0, 0, 0, 5), (.newarray .int, 2, 13, 0, 0, 0), (.putfield 13, 3, 11, 3, 2, 0), (.aload_n 0, 1, 0, 0, 0, 0), (.iconst 5, 1, 0, 0, 0, 5), (.newarray .int, 2, 13, 0, 0, 0), (.putfield 16, 3, 11, 4, 2, 0), (.aload_n 0, 1, 0, 0, 0, 0), (.iconst 5, 1, 0, 0, 0, 5), (.newarray .int, 2, 13, 0, 0, 0), (.putfield 19, 3, 11, 5, 2, 0), (.aload_n 0, 1, 0, 0, 0, 0), (.iconst 5, 1, 0, 0, 0, 5), (.newarray .int, 2, 13, 0, 0, 0), (.putfield 22, 3, 11, 6, 2, 0), (.aload_n 0, 1, 0, 0, 0, 0), (.iconst 5, 1, 0, 0, 0, 5), (.newarray .int, 2, 13, 0, 0, 0), (.putfield 25, 3, 11, 7, 2, 0), (.aload_n 0, 1, 0, 0, 0, 0), (.iconst 5, 1, 0, 0, 0, 5), (.newarray .int, 2, 13, 0, 0, 0), (.putfield 28, 3, 11, 8, 2, 0), (.aload_n 0, 1, 0, 0, 0, 0), (.iconst 5, 1, 0, 0, 0, 5), (.newarray .int, 2, 13, 0, 0, 0), (.putfield 31, 3, 11, 9, 2, 0), (.aload_n 0, 1, 0, 0, 0, 0), (.bipush 20, 2, 0, 0, 0, 20), (.newarray .int, 2, 13, 0, 0, 0), (.putfield 34, 3, 11, 11, 2, 0), (.aload_n 0, 1, 0, 0, 0, 0), (.bipush 20, 2, 0, 0, 0, 20), (.newarray .int, 2, 13, 0, 0, 0), (.putfield 37, 3, 11, 12, 2, 0), (.aload_n 0, 1, 0, 0, 0, 0), (.bipush 20, 2, 0, 0, 0, 20), (.newarray .int, 2, 13, 0, 0, 0), (.putfield 40, 3, 11, 13, 2, 0), (.aload_n 0, 1, 0, 0, 0, 0), (.bipush 6, 2, 0, 0, 0, 6), (.newarray .int, 2, 13, 0, 0, 0), (.putfield 43, 3, 11, 14, 2, 0), (.aload_n 0, 1, 0, 0, 0, 0), (.bipush 6, 2, 0, 0, 0, 6), (.newarray .int, 2, 13, 0, 0, 0), (.putfield 46, 3, 11, 15, 2, 0), (.aload_n 0, 1, 0, 0, 0, 0), (.bipush 6, 2, 0, 0, 0, 6), (.newarray .int, 2, 13, 0, 0, 0), (.putfield 49, 3, 11, 16, 2, 0), (.aload_n 0, 1, 0, 0, 0, 0), (.bipush 24, 2, 0, 0, 0, 24), (.newarray .int, 2, 13, 0, 0, 0), (.putfield 52, 3, 11, 17, 2, 0), (.aload_n 0, 1, 0, 0, 0, 0), (.bipush 24, 2, 0, 0, 0, 24), (.newarray .int, 2, 13, 0, 0, 0), (.putfield 55, 3, 11, 18, 2, 0), (.aload_n 0, 1, 0, 0, 0, 0), (.bipush 24, 2, 0, 0, 0, 24), (.newarray .int, 2, 13, 0, 0, 0), (.putfield 58, 3, 11, 19, 2, 0), (.aload_n 0, 1, 0, 0, 0, 0), (.bipush 24, 2, 0, 0, 0, 24), (.newarray .boolean, 2, 15, 0, 0, 0), (.putfield 61, 3, 11, 20, 2, 0), (.aload_n 0, 1, 0, 0, 0, 0), (.sipush 192, 3, 0, 0, 0, 192), (.newarray .boolean, 2, 15, 0, 0, 0), (.putfield 65, 3, 11, 21, 2, 0), (.aload_n 0, 1, 0, 0, 0, 0), (.sipush 768, 3, 0, 0, 0, 768), (.newarray .int, 2, 13, 0, 0, 0), (.putfield 68, 3, 11, 22, 2, 0), (.aload_n 0, 1, 0, 0, 0, 0), (.sipush 768, 3, 0, 0, 0, 768), (.newarray .int, 2, 13, 0, 0, 0), (.putfield 71, 3, 11, 23, 2, 0), (.aload_n 0, 1, 0, 0, 0, 0), (.sipush 768, 3, 0, 0, 0, 768), (.newarray .int, 2, 13, 0, 0, 0), (.putfield 74, 3, 11, 24, 2, 0), (.aload_n 0, 1, 0, 0, 0, 0), (.sipush 768, 3, 0, 0, 0, 768), (.newarray .int, 2, 13, 0, 0, 0), (.putfield 77, 3, 11, 25, 2, 0), (.aload_n 0, 1, 0, 0, 0, 0), (.sipush 192, 3, 0, 0, 0, 192), (.newarray .int, 2, 13, 0, 0, 0), (.putfield 80, 3, 11, 26, 2, 0), (.aload_n 0, 1, 0, 0, 0, 0), (.iconst 4, 1, 0, 0, 0, 4), (.newarray .int, 2, 13, 0, 0, 0), (.putfield 83, 3, 11, 27, 2, 0), (.aload_n 0, 1, 0, 0, 0, 0), (.iconst 4, 1, 0, 0, 0, 4), (.newarray .int, 2, 13, 0, 0, 0), (.putfield 86, 3, 11, 28, 2, 0), (.aload_n 0, 1, 0, 0, 0, 0), (.iconst 4, 1, 0, 0, 0, 4), (.newarray .int, 2, 13, 0, 0, 0), (.putfield 89, 3, 11, 29, 2, 0), (.aload_n 0, 1, 0, 0, 0, 0), (.iconst 4, 1, 0, 0, 0, 4), (.newarray .int, 2, 13, 0, 0, 0), (.putfield 92, 3, 11, 30, 2, 0), (.aload_n 0, 1, 0, 0, 0, 0), (.sipush 200, 3, 0, 0, 0, 200), (.newarray .byte, 2, 12, 0, 0, 0), (.putfield 95, 3, 11, 31, 2, 0), (.aload_n 0, 1, 0, 0, 0, 0), (.bipush 20, 2, 0, 0, 0, 20), (.newarray .int, 2, 13, 0, 0, 0), (.putfield 99, 3, 11, 36, 2, 0), (.aload_n 0, 1, 0, 0, 0, 0), (.bipush 20, 2, 0, 0, 0, 20), (.newarray .int, 2, 13, 0, 0, 0), (.putfield 102, 3, 11, 37, 2, 0), (.aload_n 0, 1, 0, 0, 0, 0), (.bipush 20, 2, 0, 0, 0, 20), (.newarray .int, 2, 13, 0, 0, 0), (.putfield 105, 3, 11, 38, 2, 0), (.aload_n 0, 1, 0, 0, 0, 0), (.bipush 120, 2, 0, 0, 0, 120), (.newarray .int, 2, 13, 0, 0, 0), (.putfield 108, 3, 11, 39, 2, 0), (.aload_n 0, 1, 0, 0, 0, 0), (.bipush 120, 2, 0, 0, 0, 120), (.newarray .int, 2, 13, 0, 0, 0), (.putfield 111, 3, 11, 40, 2, 0), (.aload_n 0, 1, 0, 0, 0, 0), (.bipush 20, 2, 0, 0, 0, 20), (.newarray .long, 2, 14, 0, 0, 0), (.putfield 114, 3, 11, 41, 2, 0), (.aload_n 0, 1, 0, 0, 0, 0), (.iconst 5, 1, 0, 0, 0, 5), (.newarray .int, 2, 13, 0, 0, 0), (.putfield 118, 3, 11, 42, 2, 0), (.aload_n 0, 1, 0, 0, 0, 0), (.sipush 192, 3, 0, 0, 0, 192), (.newarray .int, 2, 13, 0, 0, 0), (.putfield 121, 3, 11, 44, 2, 0), (.aload_n 0, 1, 0, 0, 0, 0), (.sipush 192, 3, 0, 0, 0, 192), (.newarray .int, 2, 13, 0, 0, 0), (.putfield 124, 3, 11, 45, 2, 0), (.aload_n 0, 1, 0, 0, 0, 0), (.sipush 3840, 3, 0, 0, 0, 3840), (.newarray .boolean, 2, 15, 0, 0, 0), (.putfield 127, 3, 11, 46, 2, 0), (.aload_n 0, 1, 0, 0, 0, 0), (.sipush 192, 3, 0, 0, 0, 192), (.newarray .int, 2, 13, 0, 0, 0), (.putfield 130, 3, 11, 48, 2, 0), (.aload_n 0, 1, 0, 0, 0, 0), (.sipush 192, 3, 0, 0, 0, 192), (.newarray .int, 2, 13, 0, 0, 0), (.putfield 133, 3, 11, 52, 2, 0), (.aload_n 0, 1, 0, 0, 0, 0), (.sipush 192, 3, 0, 0, 0, 192), (.newarray .int, 2, 13, 0, 0, 0), (.putfield 136, 3, 11, 53, 2, 0), (.aload_n 0, 1, 0, 0, 0, 0), (.sipush 192, 3, 0, 0, 0, 192), (.newarray .int, 2, 13, 0, 0, 0), (.putfield 139, 3, 11, 54, 2, 0), (.aload_n 0, 1, 0, 0, 0, 0), (.sipush 192, 3, 0, 0, 0, 192), (.newarray .int, 2, 13, 0, 0, 0), (.putfield 142, 3, 11, 55, 2, 0), (.aload_n 0, 1, 0, 0, 0, 0), (.sipush 192, 3, 0, 0, 0, 192), (.newarray .int, 2, 13, 0, 0, 0), (.putfield 145, 3, 11, 56, 2, 0), (.aload_n 0, 1, 0, 0, 0, 0), (.sipush 1536, 3, 0, 0, 0, 1536), (.newarray .int, 2, 13, 0, 0, 0), (.putfield 148, 3, 11, 57, 2, 0), (.aload_n 0, 1, 0, 0, 0, 0), (.iconst (-1), 1, 0, 0, 0, -1), (.putfield 151, 3, 11, 58, 0, 0), (.aload_n 0, 1, 0, 0, 0, 0), (.ldc 155, 2, 0, 0, 0, 60000), (.newarray .int, 2, 13, 0, 0, 0), (.putfield 156, 3, 11, 61, 2, 0), (.iconst 0, 1, 0, 0, 0, 0), (.istore_n 1, 1, 0, 0, 0, 0)]
theorem sk_79_0 : segB 11 true prog_13_method_1_code 0 sg_79_0 = true := by decide +kernel
def sg_79_391 : List RI := [(.iload_n 1, 1, 0, 0, 0, 0), (.iconst 5, 1, 0, 0, 0, 5)]
theorem sk_79_391 : segB 11 true prog_13_method_1_code 391 sg_79_391 = true := by decide +kernel
def sg_79_396 : List RI := [(.aload_n 0, 1, 0, 0, 0, 0), (.getfield 9, 3, 11, 2, 2, 0), (.iload_n 1, 1, 0, 0, 0, 0), (.iconst 1, 1, 0, 0, 0, 1)]
theorem sk_79_396 : segB 11 true prog_13_method_1_code 396 sg_79_396 = true := by decide +kernel
def sg_79_403 : List RI := [(.aload_n 0, 1, 0, 0, 0, 0), (.getfield 13, 3, 11, 3, 2, 0), (.iload_n 1, 1, 0, 0, 0, 0), (.bipush 8, 2, 0, 0, 0, 8)]
theorem sk_79_403 : segB 11 true prog_13_method_1_code 403 sg_79_403 = true := by decide +kernel
def sg_79_411 : List RI := [(.aload_n 0, 1, 0, 0, 0, 0), (.getfield 16, 3, 11, 4, 2, 0), (.iload_n 1, 1, 0, 0, 0, 0), (.bipush 8, 2, 0, 0, 0, 8)]
theorem sk_79_411 : segB 11 true prog_13_method_1_code 411 sg_79_411 = true := by decide +kernel
def sg_79_419 : List RI := [(.aload_n 0, 1, 0, 0, 0, 0), (.getfield 22, 3, 11, 6, 2, 0), (.iload_n 1, 1, 0, 0, 0, 0), (.bipush 10, 2, 0, 0, 0, 10)]
theorem sk_79_419 : segB 11 true prog_13_method_1_code 419 sg_79_419 = true := by decide +kernel
def sg_79_427 : List RI := [(.aload_n 0, 1, 0, 0, 0, 0), (.getfield 28, 3, 11, 8, 2, 0), (.iload_n 1, 1, 0, 0, 0, 0), (.iconst (-1), 1, 0, 0, 0, -1)]
theorem sk_79_427 : segB 11 true prog_13_method_1_code 427 sg_79_427 = true := by decide +kernel
def sg_79_434 : List RI := [(.aload_n 0, 1, 0, 0, 0, 0), (.getfield 31, 3, 11, 9, 2, 0), (.iload_n 1, 1, 0, 0, 0, 0), (.iconst (-1), 1, 0, 0, 0, -1)]
theorem sk_79_434 : segB 11 true prog_13_method_1_code 434 sg_79_434 = true := by decide +kernel
def sg_79_441 : List RI := [(.iinc 1 1, 3, 0, 0, 0, 1)]
theorem sk_79_441 : segB 11 true prog_13_method_1_code 441 sg_79_441 = true := by decide +kernel
def sg_79_447 : List RI := [(.iconst 0, 1, 0, 0, 0, 0), (.istore_n 1, 1, 0, 0, 0, 0)]
theorem sk_79_447 : segB 11 true prog_13_method_1_code 447 sg_79_447 = true := by decide +kernel
def sg_79_449 : List RI := [(.iload_n 1, 1, 0, 0, 0, 0), (.bipush 6, 2, 0, 0, 0, 6)]
theorem sk_79_449 : segB 11 true prog_13_method_1_code 449 sg_79_449 = true := by decide +kernel
def sg_79_455 : List RI := [(.aload_n 0, 1, 0, 0, 0, 0), (.getfield 46, 3, 11, 15, 2, 0), (.iload_n 1, 1, 0, 0, 0, 0), (.iconst 1, 1, 0, 0, 0, 1)]
theorem sk_79_455 : segB 11 true prog_13_method_1_code 455 sg_79_455 = true := by decide +kernel
def sg_79_462 : List RI := [(.iinc 1 1, 3, 0, 0, 0, 1)]
theorem sk_79_462 : segB 11 true prog_13_method_1_code 462 sg_79_462 = true := by decide +kernel
def sg_79_468 : List RI := [(.iconst 0, 1, 0, 0, 0, 0), (.istore_n 1, 1, 0, 0, 0, 0)]
theorem sk_79_468 : segB 11 true prog_13_method_1_code 468 sg_79_468 = true := by decide +kernel
def sg_79_470 : List RI := [(.iload_n 1, 1, 0, 0, 0, 0), (.bipush 24, 2, 0, 0, 0, 24)]
theorem sk_79_470 : segB 11 true prog_13_method_1_code 470 sg_79_470 = true := by decide +kernel
def sg_79_476 : List RI := [(.aload_n 0, 1, 0, 0, 0, 0), (.getfield 58, 3, 11, 19, 2, 0), (.iload_n 1, 1, 0, 0, 0, 0), (.iconst 5, 1, 0, 0, 0, 5)]
theorem sk_79_476 : segB 11 true prog_13_method_1_code 476 sg_79_476 = true := by decide +kernel
def sg_79_483 : List RI := [(.iinc 1 1, 3, 0, 0, 0, 1)]
theorem sk_79_483 : segB 11 true prog_13_method_1_code 483 sg_79_483 = true := by decide +kernel
def sg_79_489 : List RI := [(.iconst 0, 1, 0, 0, 0, 0), (.istore_n 1, 1, 0, 0, 0, 0)]
theorem sk_79_489 : segB 11 true prog_13_method_1_code 489 sg_79_489 = true := by decide +kernel
def sg_79_491 : List RI := [(.iload_n 1, 1, 0, 0, 0, 0), (.sipush 768, 3, 0, 0, 0, 768)]
theorem sk_79_491 : segB 11 true prog_13_method_1_code 491 sg_79_491 = true := by decide +kernel
def sg_79_498 : List RI := [(.aload_n 0, 1, 0, 0, 0, 0), (.getfield 71, 3, 11, 23, 2, 0), (.iload_n 1, 1, 0, 0, 0, 0), (.iconst (-1), 1, 0, 0, 0, -1)]
theorem sk_79_498 : segB 11 true prog_13_method_1_code 498 sg_79_498 = true := by decide +kernel
def sg_79_505 : List RI := [(.iinc 1 1, 3, 0, 0, 0, 1)]
theorem sk_79_505 : segB 11 true prog_13_method_1_code 505 sg_79_505 = true := by decide +kernel
def sg_79_511 : List RI := [(.iconst 0, 1, 0, 0, 0, 0), (.istore_n 1, 1, 0, 0, 0, 0)]
theorem sk_79_511 : segB 11 true prog_13_method_1_code 511 sg_79_511 = true := by decide +kernel
def sg_79_513 : List RI := [(.iload_n 1, 1, 0, 0, 0, 0), (.sipush 192, 3, 0, 0, 0, 192)]
theorem sk_79_513 : segB 11 true prog_13_method_1_code 513 sg_79_513 = true := by decide +kernel
def sg_79_520 : List RI := [(.aload_n 0, 1, 0, 0, 0, 0), (.getfield 80, 3, 11, 26, 2, 0), (.iload_n 1, 1, 0, 0, 0, 0), (.iconst (-1), 1, 0, 0, 0, -1)]
theorem sk_79_520 : segB 11 true prog_13_method_1_code 520 sg_79_520 = true := by decide +kernel
def sg_79_527 : List RI := [(.iinc 1 1, 3, 0, 0, 0, 1)]
theorem sk_79_527 : segB 11 true prog_13_method_1_code 527 sg_79_527 = true := by decide +kernel
def sg_79_533 : List RI := [(.iconst 0, 1, 0, 0, 0, 0), (.istore_n 1, 1, 0, 0, 0, 0)]
theorem sk_79_533 : segB 11 true prog_13_method_1_code 533 sg_79_533 = true := by decide +kernel
def sg_79_535 : List RI := [(.iload_n 1, 1, 0, 0, 0, 0), (.iconst 4, 1, 0, 0, 0, 4)]
theorem sk_79_535 : segB 11 true prog_13_method_1_code 535 sg_79_535 = true := by decide +kernel
def sg_79_540 : List RI := [(.aload_n 0, 1, 0, 0, 0, 0), (.getfield 83, 3, 11, 27, 2, 0), (.iload_n 1, 1, 0, 0, 0, 0), (.bipush 63, 2, 0, 0, 0, 63)]
theorem sk_79_540 : segB 11 true prog_13_method_1_code 540 sg_79_540 = true := by decide +kernel
def sg_79_548 : List RI := [(.aload_n 0, 1, 0, 0, 0, 0), (.getfield 86, 3, 11, 28, 2, 0), (.iload_n 1, 1, 0, 0, 0, 0), (.bipush 100, 2, 0, 0, 0, 100)]
theorem sk_79_548 : segB 11 true prog_13_method_1_code 548 sg_79_548 = true := by decide +kernel
def sg_79_556 : List RI := [(.aload_n 0, 1, 0, 0, 0, 0), (.getfield 89, 3, 11, 29, 2, 0), (.iload_n 1, 1, 0, 0, 0, 0), (.bipush 10, 2, 0, 0, 0, 10)]
theorem sk_79_556 : segB 11 true prog_13_method_1_code 556 sg_79_556 = true := by decide +kernel
def sg_79_564 : List RI := [(.aload_n 0, 1, 0, 0, 0, 0), (.getfield 92, 3, 11, 30, 2, 0), (.iload_n 1, 1, 0, 0, 0, 0), (.bipush 100, 2, 0, 0, 0, 100)]
theorem sk_79_564 : segB 11 true prog_13_method_1_code 564 sg_79_564 = true := by decide +kernel
def sg_79_572 : List RI := [(.iinc 1 1, 3, 0, 0, 0, 1)]
theorem sk_79_572 : segB 11 true prog_13_method_1_code 572 sg_79_572 = true := by decide +kernel
theorem ck_79_393 : decode prog_13_method_1_code 393 = .ok (.if_icmp .ge 54, 3) ∧ lnkB 11 true 393 (.if_icmp .ge 54, 3, 447, 0, 0, 0) = true := by decide +kernel
theorem ca_79_402 : decode prog_13_method_1_code 402 = .ok (.iastore, 1) ∧ lnkB 11 true 402 (.iastore, 1, 0, 0, 0, 0) = true := by decide +kernel
theorem ca_79_410 : decode prog_13_method_1_code 410 = .ok (.iastore, 1) ∧ lnkB 11 true 410 (.iastore, 1, 0, 0, 0, 0) = true := by decide +kernel
theorem ca_79_418 : decode prog_13_method_1_code 418 = .ok (.iastore, 1) ∧ lnkB 11 true 418 (.iastore, 1, 0, 0, 0, 0) = true := by decide +kernel
theorem ca_79_426 : decode prog_13_method_1_code 426 = .ok (.iastore, 1) ∧ lnkB 11 true 426 (.iastore, 1, 0, 0, 0, 0) = true := by decide +kernel
theorem ca_79_433 : decode prog_13_method_1_code 433 = .ok (.iastore, 1) ∧ lnkB 11 true 433 (.iastore, 1, 0, 0, 0, 0) = true := by decide +kernel
theorem ca_79_440 : decode prog_13_method_1_code 440 = .ok (.iastore, 1) ∧ lnkB 11 true 440 (.iastore, 1, 0, 0, 0, 0) = true := by decide +kernel
theorem ck_79_444 : decode prog_13_method_1_code 444 = .ok (.goto (-53), 3) ∧ lnkB 11 true 444 (.goto (-53), 3, 391, 0, 0, 0) = true := by decide +kernel
theorem ck_79_452 : decode prog_13_method_1_code 452 = .ok (.if_icmp .ge 16, 3) ∧ lnkB 11 true 452 (.if_icmp .ge 16, 3, 468, 0, 0, 0) = true := by decide +kernel
theorem ca_79_461 : decode prog_13_method_1_code 461 = .ok (.iastore, 1) ∧ lnkB 11 true 461 (.iastore, 1, 0, 0, 0, 0) = true := by decide +kernel
theorem ck_79_465 : decode prog_13_method_1_code 465 = .ok (.goto (-16), 3) ∧ lnkB 11 true 465 (.goto (-16), 3, 449, 0, 0, 0) = true := by decide +kernel
theorem ck_79_473 : decode prog_13_method_1_code 473 = .ok (.if_icmp .ge 16, 3) ∧ lnkB 11 true 473 (.if_icmp .ge 16, 3, 489, 0, 0, 0) = true := by decide +kernel
theorem ca_79_482 : decode prog_13_method_1_code 482 = .ok (.iastore, 1) ∧ lnkB 11 true 482 (.iastore, 1, 0, 0, 0, 0) = true := by decide +kernel
theorem ck_79_486 : decode prog_13_method_1_code 486 = .ok (.goto (-16), 3) ∧ lnkB 11 true 486 (.goto (-16), 3, 470, 0, 0, 0) = true := by decide +kernel
theorem ck_79_495 : decode prog_13_method_1_code 495 = .ok (.if_icmp .ge 16, 3) ∧ lnkB 11 true 495 (.if_icmp .ge 16, 3, 511, 0, 0, 0) = true := by decide +kernel
theorem ca_79_504 : decode prog_13_method_1_code 504 = .ok (.iastore, 1) ∧ lnkB 11 true 504 (.iastore, 1, 0, 0, 0, 0) = true := by decide +kernel
theorem ck_79_508 : decode prog_13_method_1_code 508 = .ok (.goto (-17), 3) ∧ lnkB 11 true 508 (.goto (-17), 3, 491, 0, 0, 0) = true := by decide +kernel
theorem ck_79_517 : decode prog_13_method_1_code 517 = .ok (.if_icmp .ge 16, 3) ∧ lnkB 11 true 517 (.if_icmp .ge 16, 3, 533, 0, 0, 0) = true := by decide +kernel
theorem ca_79_526 : decode prog_13_method_1_code 526 = .ok (.iastore, 1) ∧ lnkB 11 true 526 (.iastore, 1, 0, 0, 0, 0) = true := by decide +kernel
theorem ck_79_530 : decode prog_13_method_1_code 530 = .ok (.goto (-17), 3) ∧ lnkB 11 true 530 (.goto (-17), 3, 513, 0, 0, 0) = true := by decide +kernel
theorem ck_79_537 : decode prog_13_method_1_code 537 = .ok (.if_icmp .ge 41, 3) ∧ lnkB 11 true 537 (.if_icmp .ge 41, 3, 578, 0, 0, 0) = true := by decide +kernel
theorem ca_79_547 : decode prog_13_method_1_code 547 = .ok (.iastore, 1) ∧ lnkB 11 true 547 (.iastore, 1, 0, 0, 0, 0) = true := by decide +kernel
theorem ca_79_555 : decode prog_13_method_1_code 555 = .ok (.iastore, 1) ∧ lnkB 11 true 555 (.iastore, 1, 0, 0, 0, 0) = true := by decide +kernel
theorem ca_79_563 : decode prog_13_method_1_code 563 = .ok (.iastore, 1) ∧ lnkB 11 true 563 (.iastore, 1, 0, 0, 0, 0) = true := by decide +kernel
theorem ca_79_571 : decode prog_13_method_1_code 571 = .ok (.iastore, 1) ∧ lnkB 11 true 571 (.iastore, 1, 0, 0, 0, 0) = true := by decide +kernel
theorem ck_79_575 : decode prog_13_method_1_code 575 = .ok (.goto (-40), 3) ∧ lnkB 11 true 575 (.goto (-40), 3, 535, 0, 0, 0) = true := by decide +kernel
theorem ck_79_578 : decode prog_13_method_1_code 578 = .ok (.return_, 1) ∧ lnkB 11 true 578 (.return_, 1, 0, 0, 0, 0) = true := by decide +kernel
abbrev RU_79 (d : Nat) (cp : Nat × Nat) (Post : Option Value → Sto → Prop) : PP := Runs (Ex d) prog_13_method_1_code 11 true 2 none none cp Post
theorem en_79 {d : Nat} {As : List Value} {S : Sto} {mc ms : Nat} {Post : Option Value → Sto → Prop} (hc : cats As ≤ 2) (h : RU_79 d (mc, ms) Post 0 (lv_args 0 As) [] S 0 0) : Ex (d + 1) 79 As S mc ms Post := ⟨by decide, hc, h⟩
end
section
/-! ===== the code: segments, control instructions, entries of methods 80 to 126 ===== -/
def sg_80_0 : List RI := [(.iload_n 1, 1, 0, 0, 0, 0), (.iconst 0, 1, 0, 0, 0, 0), (.iconst 4, 1, 0, 0, 0, 4)]
theorem sk_80_0 : segB 11 false prog_13_method_4_code 0 sg_80_0 = true := by decide +kernel
def sg_80_9 : List RI := [(.iload_n 2, 1, 0, 0, 0, 0), (.iconst 1, 1, 0, 0, 0, 1), (.bipush 9, 2, 0, 0, 0, 9)]
theorem sk_80_9 : segB 11 false prog_13_method_4_code 9 sg_80_9 = true := by decide +kernel
def sg_80_19 : List RI := [(.iload_n 3, 1, 0, 0, 0, 0), (.iconst 1, 1, 0, 0, 0, 1), (.bipush 8, 2, 0, 0, 0, 8)]
theorem sk_80_19 : segB 11 false prog_13_method_4_code 19 sg_80_19 = true := by decide +kernel
def sg_80_29 : List RI := [(.iload 4, 2, 0, 0, 0, 0), (.iconst 1, 1, 0, 0, 0, 1), (.bipush 8, 2, 0, 0, 0, 8)]
theorem sk_80_29 : segB 11 false prog_13_method_4_code 29 sg_80_29 = true := by decide +kernel
def sg_80_40 : List RI := [(.iload 5, 2, 0, 0, 0, 0), (.iconst 0, 1, 0, 0, 0, 0), (.bipush 9, 2, 0, 0, 0, 9)]
theorem sk_80_40 : segB 11 false prog_13_method_4_code 40 sg_80_40 = true := by decide +kernel
def sg_80_51 : List RI := [(.iload 6, 2, 0, 0, 0, 0), (.iconst 1, 1, 0, 0, 0, 1), (.bipush 99, 2, 0, 0, 0, 99)]
theorem sk_80_51 : segB 11 false prog_13_method_4_code 51 sg_80_51 = true := by decide +kernel
def sg_80_62 : List RI := [(.iconst 0, 1, 0, 0, 0, 0)]
theorem sk_80_62 : segB 11 false prog_13_method_4_code 62 sg_80_62 = true := by decide +kernel
def sg_80_64 : List RI := [(.aload_n 0, 1, 0, 0, 0, 0), (.getfield 9, 3, 11, 2, 2, 0), (.iload_n 1, 1, 0, 0, 0, 0), (.iload_n 2, 1, 0, 0, 0, 0)]
theorem sk_80_64 : segB 11 false prog_13_method_4_code 64 sg_80_64 = true := by decide +kernel
def sg_80_71 : List RI := [(.aload_n 0, 1, 0, 0, 0, 0), (.getfield 13, 3, 11, 3, 2, 0), (.iload_n 1, 1, 0, 0, 0, 0), (.iload_n 3, 1, 0, 0, 0, 0)]
theorem sk_80_71 : segB 11 false prog_13_method_4_code 71 sg_80_71 = true := by decide +kernel
def sg_80_78 : List RI := [(.aload_n 0, 1, 0, 0, 0, 0), (.getfield 16, 3, 11, 4, 2, 0), (.iload_n 1, 1, 0, 0, 0, 0), (.iload 4, 2, 0, 0, 0, 0)]
theorem sk_80_78 : segB 11 false prog_13_method_4_code 78 sg_80_78 = true := by decide +kernel
def sg_80_86 : List RI := [(.aload_n 0, 1, 0, 0, 0, 0), (.getfield 19, 3, 11, 5, 2, 0), (.iload_n 1, 1, 0, 0, 0, 0), (.iload 5, 2, 0, 0, 0, 0)]
theorem sk_80_86 : segB 11 false prog_13_method_4_code 86 sg_80_86 = true := by decide +kernel
def sg_80_94 : List RI := [(.aload_n 0, 1, 0, 0, 0, 0), (.getfield 22, 3, 11, 6, 2, 0), (.iload_n 1, 1, 0, 0, 0, 0), (.iload 6, 2, 0, 0, 0, 0)]
theorem sk_80_94 : segB 11 false prog_13_method_4_code 94 sg_80_94 = true := by decide +kernel
def sg_80_102 : List RI := [(.aload_n 0, 1, 0, 0, 0, 0), (.getfield 25, 3, 11, 7, 2, 0), (.iload_n 1, 1, 0, 0, 0, 0), (.iconst 0, 1, 0, 0, 0, 0)]
theorem sk_80_102 : segB 11 false prog_13_method_4_code 102 sg_80_102 = true := by decide +kernel
def sg_80_109 : List RI := [(.aload_n 0, 1, 0, 0, 0, 0), (.getfield 28, 3, 11, 8, 2, 0), (.iload_n 1, 1, 0, 0, 0, 0), (.iconst (-1), 1, 0, 0, 0, -1)]
theorem sk_80_109 : segB 11 false prog_13_method_4_code 109 sg_80_109 = true := by decide +kernel
def sg_80_116 : List RI := [(.iconst 1, 1, 0, 0, 0, 1)]
theorem sk_80_116 : segB 11 false prog_13_method_4_code 116 sg_80_116 = true := by decide +kernel
theorem ck_80_3 : decode prog_13_method_4_code 3 = .ok (.invokestatic 162, 3) ∧ lnkB 11 false 3 (.invokestatic 162, 3, 81, 0, 0, 0) = true := by decide +kernel
theorem ck_80_6 : decode prog_13_method_4_code 6 = .ok (.ifCond .eq 56, 3) ∧ lnkB 11 false 6 (.ifCond .eq 56, 3, 62, 0, 0, 0) = true := by decide +kernel
theorem ck_80_13 : decode prog_13_method_4_code 13 = .ok (.invokestatic 162, 3) ∧ lnkB 11 false 13 (.invokestatic 162, 3, 81, 0, 0, 0) = true := by decide +kernel
theorem ck_80_16 : decode prog_13_method_4_code 16 = .ok (.ifCond .eq 46, 3) ∧ lnkB 11 false 16 (.ifCond .eq 46, 3, 62, 0, 0, 0) = true := by decide +kernel
theorem ck_80_23 : decode prog_13_method_4_code 23 = .ok (.invokestatic 162, 3) ∧ lnkB 11 false 23 (.invokestatic 162, 3, 81, 0, 0, 0) = true := by decide +kernel
theorem ck_80_26 : decode prog_13_method_4_code 26 = .ok (.ifCond .eq 36, 3) ∧ lnkB 11 false 26 (.ifCond .eq 36, 3, 62, 0, 0, 0) = true := by decide +kernel
theorem ck_80_34 : decode prog_13_method_4_code 34 = .ok (.invokestatic 162, 3) ∧ lnkB 11 false 34 (.invokestatic 162, 3, 81, 0, 0, 0) = true := by decide +kernel
theorem ck_80_37 : decode prog_13_method_4_code 37 = .ok (.ifCond .eq 25, 3) ∧ lnkB 11 false 37 (.ifCond .eq 25, 3, 62, 0, 0, 0) = true := by decide +kernel
theorem ck_80_45 : decode prog_13_method_4_code 45 = .ok (.invokestatic 162, 3) ∧ lnkB 11 false 45 (.invokestatic 162, 3, 81, 0, 0, 0) = true := by decide +kernel
theorem ck_80_48 : decode prog_13_method_4_code 48 = .ok (.ifCond .eq 14, 3) ∧ lnkB 11 false 48 (.ifCond .eq 14, 3, 62, 0, 0, 0) = true := by decide +kernel
theorem ck_80_56 : decode prog_13_method_4_code 56 = .ok (.invokestatic 162, 3) ∧ lnkB 11 false 56 (.invokestatic 162, 3, 81, 0, 0, 0) = true := by decide +kernel
theorem ck_80_59 : decode prog_13_method_4_code 59 = .ok (.ifCond .ne 5, 3) ∧ lnkB 11 false 59 (.ifCond .ne 5, 3, 64, 0, 0, 0) = true := by decide +kernel
theorem ck_80_63 : decode prog_13_method_4_code 63 = .ok (.ireturn, 1) ∧ lnkB 11 false 63 (.ireturn, 1, 0, 0, 0, 0) = true := by decide +kernel
theorem ca_80_70 : decode prog_13_method_4_code 70 = .ok (.iastore, 1) ∧ lnkB 11 false 70 (.iastore, 1, 0, 0, 0, 0) = true := by decide +kernel
theorem ca_80_77 : decode prog_13_method_4_code 77 = .ok (.iastore, 1) ∧ lnkB 11 false 77 (.iastore, 1, 0, 0, 0, 0) = true := by decide +kernel
theorem ca_80_85 : decode prog_13_method_4_code 85 = .ok (.iastore, 1) ∧ lnkB 11 false 85 (.iastore, 1, 0, 0, 0, 0) = true := by decide +kernel
theorem ca_80_93 : decode prog_13_method_4_code 93 = .ok (.iastore, 1) ∧ lnkB 11 false 93 (.iastore, 1, 0, 0, 0, 0) = true := by decide +kernel
theorem ca_80_101 : decode prog_13_method_4_code 101 = .ok (.iastore, 1) ∧ lnkB 11 false 101 (.iastore, 1, 0, 0, 0, 0) = true := by decide +kernel
theorem ca_80_108 : decode prog_13_method_4_code 108 = .ok (.iastore, 1) ∧ lnkB 11 false 108 (.iastore, 1, 0, 0, 0, 0) = true := by decide +kernel
theorem ca_80_115 : decode prog_13_method_4_code 115 = .ok (.iastore, 1) ∧ lnkB 11 false 115 (.iastore, 1, 0, 0, 0, 0) = true := by decide +kernel
theorem ck_80_117 : decode prog_13_method_4_code 117 = .ok (.ireturn, 1) ∧ lnkB 11 false 117 (.ireturn, 1, 0, 0, 0, 0) = true := by decide +kernel
abbrev RU_80 (d : Nat) (cp : Nat × Nat) (Post : Option Value → Sto → Prop) : PP := Runs (Ex d) prog_13_method_4_code 11 false 7 (some .boolean) none cp Post
theorem en_80 {d : Nat} {As : List Value} {S : Sto} {mc ms : Nat} {Post : Option Value → Sto → Prop} (hc : cats As ≤ 7) (h : RU_80 d (mc, ms) Post 0 (lv_args 0 As) [] S 0 0) : Ex (d + 1) 80 As S mc ms Post := ⟨by decide, hc, h⟩
def sg_81_0 : List RI := [(.iload_n 0, 1, 0, 0, 0, 0), (.iload_n 1, 1, 0, 0, 0, 0)]
theorem sk_81_0 : segB 11 false prog_13_method_3_code 0 sg_81_0 = true := by decide +kernel
def sg_81_5 : List RI := [(.iload_n 0, 1, 0, 0, 0, 0), (.iload_n 2, 1, 0, 0, 0, 0)]
theorem sk_81_5 : segB 11 false prog_13_method_3_code 5 sg_81_5 = true := by decide +kernel
def sg_81_10 : List RI := [(.iconst 1, 1, 0, 0, 0, 1)]
theorem sk_81_10 : segB 11 false prog_13_method_3_code 10 sg_81_10 = true := by decide +kernel
def sg_81_14 : List RI := [(.iconst 0, 1, 0, 0, 0, 0)]
theorem sk_81_14 : segB 11 false prog_13_method_3_code 14 sg_81_14 = true := by decide +kernel
theorem ck_81_2 : decode prog_13_method_3_code 2 = .ok (.if_icmp .lt 12, 3) ∧ lnkB 11 false 2 (.if_icmp .lt 12, 3, 14, 0, 0, 0) = true := by decide +kernel
theorem ck_81_7 : decode prog_13_method_3_code 7 = .ok (.if_icmp .gt 7, 3) ∧ lnkB 11 false 7 (.if_icmp .gt 7, 3, 14, 0, 0, 0) = true := by decide +kernel
theorem ck_81_11 : decode prog_13_method_3_code 11 = .ok (.goto 4, 3) ∧ lnkB 11 false 11 (.goto 4, 3, 15, 0, 0, 0) = true := by decide +kernel
theorem ck_81_15 : decode prog_13_method_3_code 15 = .ok (.ireturn, 1) ∧ lnkB 11 false 15 (.ireturn, 1, 0, 0, 0, 0) = true := by decide +kernel
abbrev RU_81 (d : Nat) (cp : Nat × Nat) (Post : Option Value → Sto → Prop) : PP := Runs (Ex d) prog_13_method_3_code 11 false 3 (some .boolean) none cp Post
theorem en_81 {d : Nat} {As : List Value} {S : Sto} {mc ms : Nat} {Post : Option Value → Sto → Prop} (hc : cats As ≤ 3) (h : RU_81 d (mc, ms) Post 0 (lv_args 0 As) [] S 0 0) : Ex (d + 1) 81 As S mc ms Post := ⟨by decide, hc, h⟩
def sg_82_0 : List RI := [(.aload_n 0, 1, 0, 0, 0, 0), (.getfield 166, 3, 11, 10, 0, 0), (.bipush 20, 2, 0, 0, 0, 20)]
theorem sk_82_0 : segB 11 false prog_13_method_5_code 0 sg_82_0 = true := by decide +kernel
def sg_82_9 : List RI := [(.iload_n 1, 1, 0, 0, 0, 0), (.iconst 0, 1, 0, 0, 0, 0), (.iconst 4, 1, 0, 0, 0, 4)]
theorem sk_82_9 : segB 11 false prog_13_method_5_code 9 sg_82_9 = true := by decide +kernel
def sg_82_18 : List RI := [(.iload_n 2, 1, 0, 0, 0, 0), (.iconst 0, 1, 0, 0, 0, 0), (.ldc 169, 2, 0, 0, 0, 100000)]
theorem sk_82_18 : segB 11 false prog_13_method_5_code 18 sg_82_18 = true := by decide +kernel
def sg_82_28 : List RI := [(.iload_n 3, 1, 0, 0, 0, 0), (.iload_n 2, 1, 0, 0, 0, 0), (.ldc 169, 2, 0, 0, 0, 100000)]
theorem sk_82_28 : segB 11 false prog_13_method_5_code 28 sg_82_28 = true := by decide +kernel
def sg_82_38 : List RI := [(.iconst (-1), 1, 0, 0, 0, -1)]
theorem sk_82_38 : segB 11 false prog_13_method_5_code 38 sg_82_38 = true := by decide +kernel
def sg_82_40 : List RI := [(.aload_n 0, 1, 0, 0, 0, 0), (.getfield 34, 3, 11, 11, 2, 0), (.aload_n 0, 1, 0, 0, 0, 0), (.getfield 166, 3, 11, 10, 0, 0), (.iload_n 1, 1, 0, 0, 0, 0)]
theorem sk_82_40 : segB 11 false prog_13_method_5_code 40 sg_82_40 = true := by decide +kernel
def sg_82_50 : List RI := [(.aload_n 0, 1, 0, 0, 0, 0), (.getfield 37, 3, 11, 12, 2, 0), (.aload_n 0, 1, 0, 0, 0, 0), (.getfield 166, 3, 11, 10, 0, 0), (.iload_n 2, 1, 0, 0, 0, 0)]
theorem sk_82_50 : segB 11 false prog_13_method_5_code 50 sg_82_50 = true := by decide +kernel
def sg_82_60 : List RI := [(.aload_n 0, 1, 0, 0, 0, 0), (.getfield 40, 3, 11, 13, 2, 0), (.aload_n 0, 1, 0, 0, 0, 0), (.getfield 166, 3, 11, 10, 0, 0), (.iload_n 3, 1, 0, 0, 0, 0)]
theorem sk_82_60 : segB 11 false prog_13_method_5_code 60 sg_82_60 = true := by decide +kernel
def sg_82_70 : List RI := [(.aload_n 0, 1, 0, 0, 0, 0), (.dup, 1, 0, 0, 0, 0), (.getfield 166, 3, 11, 10, 0, 0), (.iconst 1, 1, 0, 0, 0, 1), (.iadd, 1, 0, 0, 0, 0), (.putfield 166, 3, 11, 10, 0, 0), (.aload_n 0, 1, 0, 0, 0, 0), (.getfield 166, 3, 11, 10, 0, 0)]
theorem sk_82_70 : segB 11 false prog_13_method_5_code 70 sg_82_70 = true := by decide +kernel
theorem ck_82_6 : decode prog_13_method_5_code 6 = .ok (.if_icmp .eq 32, 3) ∧ lnkB 11 false 6 (.if_icmp .eq 32, 3, 38, 0, 0, 0) = true := by decide +kernel
theorem ck_82_12 : decode prog_13_method_5_code 12 = .ok (.invokestatic 162, 3) ∧ lnkB 11 false 12 (.invokestatic 162, 3, 81, 0, 0, 0) = true := by decide +kernel
theorem ck_82_15 : decode prog_13_method_5_code 15 = .ok (.ifCond .eq 23, 3) ∧ lnkB 11 false 15 (.ifCond .eq 23, 3, 38, 0, 0, 0) = true := by decide +kernel
theorem ck_82_22 : decode prog_13_method_5_code 22 = .ok (.invokestatic 162, 3) ∧ lnkB 11 false 22 (.invokestatic 162, 3, 81, 0, 0, 0) = true := by decide +kernel
theorem ck_82_25 : decode prog_13_method_5_code 25 = .ok (.ifCond .eq 13, 3) ∧ lnkB 11 false 25 (.ifCond .eq 13, 3, 38, 0, 0, 0) = true := by decide +kernel
theorem ck_82_32 : decode prog_13_method_5_code 32 = .ok (.invokestatic 162, 3) ∧ lnkB 11 false 32 (.invokestatic 162, 3, 81, 0, 0, 0) = true := by decide +kernel
theorem ck_82_35 : decode prog_13_method_5_code 35 = .ok (.ifCond .ne 5, 3) ∧ lnkB 11 false 35 (.ifCond .ne 5, 3, 40, 0, 0, 0) = true := by decide +kernel
theorem ck_82_39 : decode prog_13_method_5_code 39 = .ok (.ireturn, 1) ∧ lnkB 11 false 39 (.ireturn, 1, 0, 0, 0, 0) = true := by decide +kernel
theorem ca_82_49 : decode prog_13_method_5_code 49 = .ok (.iastore, 1) ∧ lnkB 11 false 49 (.iastore, 1, 0, 0, 0, 0) = true := by decide +kernel
theorem ca_82_59 : decode prog_13_method_5_code 59 = .ok (.iastore, 1) ∧ lnkB 11 false 59 (.iastore, 1, 0, 0, 0, 0) = true := by decide +kernel
theorem ca_82_69 : decode prog_13_method_5_code 69 = .ok (.iastore, 1) ∧ lnkB 11 false 69 (.iastore, 1, 0, 0, 0, 0) = true := by decide +kernel
theorem ck_82_84 : decode prog_13_method_5_code 84 = .ok (.ireturn, 1) ∧ lnkB 11 false 84 (.ireturn, 1, 0, 0, 0, 0) = true := by decide +kernel
abbrev RU_82 (d : Nat) (cp : Nat × Nat) (Post : Option Value → Sto → Prop) : PP := Runs (Ex d) prog_13_method_5_code 11 false 4 (some .int) none cp Post
theorem en_82 {d : Nat} {As : List Value} {S : Sto} {mc ms : Nat} {Post : Option Value → Sto → Prop} (hc : cats As ≤ 4) (h : RU_82 d (mc, ms) Post 0 (lv_args 0 As) [] S 0 0) : Ex (d + 1) 82 As S mc ms Post := ⟨by decide, hc, h⟩
def sg_83_0 : List RI := [(.iload_n 1, 1, 0, 0, 0, 0), (.iconst 0, 1, 0, 0, 0, 0), (.iconst 5, 1, 0, 0, 0, 5)]
theorem sk_83_0 : segB 11 false prog_13_method_7_code 0 sg_83_0 = true := by decide +kernel
def sg_83_9 : List RI := [(.iload_n 2, 1, 0, 0, 0, 0), (.iconst 0, 1, 0, 0, 0, 0), (.iconst 4, 1, 0, 0, 0, 4)]
theorem sk_83_9 : segB 11 false prog_13_method_7_code 9 sg_83_9 = true := by decide +kernel
def sg_83_18 : List RI := [(.iload_n 3, 1, 0, 0, 0, 0), (.iconst 1, 1, 0, 0, 0, 1), (.bipush 9, 2, 0, 0, 0, 9)]
theorem sk_83_18 : segB 11 false prog_13_method_7_code 18 sg_83_18 = true := by decide +kernel
def sg_83_28 : List RI := [(.iload 4, 2, 0, 0, 0, 0), (.iconst 0, 1, 0, 0, 0, 0), (.sipush 999, 3, 0, 0, 0, 999)]
theorem sk_83_28 : segB 11 false prog_13_method_7_code 28 sg_83_28 = true := by decide +kernel
def sg_83_40 : List RI := [(.iconst 0, 1, 0, 0, 0, 0)]
theorem sk_83_40 : segB 11 false prog_13_method_7_code 40 sg_83_40 = true := by decide +kernel
def sg_83_42 : List RI := [(.aload_n 0, 1, 0, 0, 0, 0), (.getfield 43, 3, 11, 14, 2, 0), (.iload_n 1, 1, 0, 0, 0, 0), (.iload_n 2, 1, 0, 0, 0, 0)]
theorem sk_83_42 : segB 11 false prog_13_method_7_code 42 sg_83_42 = true := by decide +kernel
def sg_83_49 : List RI := [(.aload_n 0, 1, 0, 0, 0, 0), (.getfield 46, 3, 11, 15, 2, 0), (.iload_n 1, 1, 0, 0, 0, 0), (.iload_n 3, 1, 0, 0, 0, 0)]
theorem sk_83_49 : segB 11 false prog_13_method_7_code 49 sg_83_49 = true := by decide +kernel
def sg_83_56 : List RI := [(.aload_n 0, 1, 0, 0, 0, 0), (.getfield 49, 3, 11, 16, 2, 0), (.iload_n 1, 1, 0, 0, 0, 0), (.iload 4, 2, 0, 0, 0, 0)]
theorem sk_83_56 : segB 11 false prog_13_method_7_code 56 sg_83_56 = true := by decide +kernel
def sg_83_64 : List RI := [(.iconst 0, 1, 0, 0, 0, 0), (.istore 5, 2, 0, 0, 0, 0)]
theorem sk_83_64 : segB 11 false prog_13_method_7_code 64 sg_83_64 = true := by decide +kernel
def sg_83_67 : List RI := [(.iload 5, 2, 0, 0, 0, 0), (.bipush 32, 2, 0, 0, 0, 32)]
theorem sk_83_67 : segB 11 false prog_13_method_7_code 67 sg_83_67 = true := by decide +kernel
def sg_83_74 : List RI := [(.aload_n 0, 1, 0, 0, 0, 0), (.getfield 80, 3, 11, 26, 2, 0), (.bipush 32, 2, 0, 0, 0, 32), (.iload_n 1, 1, 0, 0, 0, 0), (.imul, 1, 0, 0, 0, 0), (.iload 5, 2, 0, 0, 0, 0), (.iadd, 1, 0, 0, 0, 0), (.iconst (-1), 1, 0, 0, 0, -1)]
theorem sk_83_74 : segB 11 false prog_13_method_7_code 74 sg_83_74 = true := by decide +kernel
def sg_83_87 : List RI := [(.iinc 5 1, 3, 0, 0, 0, 1)]
theorem sk_83_87 : segB 11 false prog_13_method_7_code 87 sg_83_87 = true := by decide +kernel
def sg_83_93 : List RI := [(.iconst 1, 1, 0, 0, 0, 1)]
theorem sk_83_93 : segB 11 false prog_13_method_7_code 93 sg_83_93 = true := by decide +kernel
theorem ck_83_3 : decode prog_13_method_7_code 3 = .ok (.invokestatic 162, 3) ∧ lnkB 11 false 3 (.invokestatic 162, 3, 81, 0, 0, 0) = true := by decide +kernel
theorem ck_83_6 : decode prog_13_method_7_code 6 = .ok (.ifCond .eq 34, 3) ∧ lnkB 11 false 6 (.ifCond .eq 34, 3, 40, 0, 0, 0) = true := by decide +kernel
theorem ck_83_12 : decode prog_13_method_7_code 12 = .ok (.invokestatic 162, 3) ∧ lnkB 11 false 12 (.invokestatic 162, 3, 81, 0, 0, 0) = true := by decide +kernel
theorem ck_83_15 : decode prog_13_method_7_code 15 = .ok (.ifCond .eq 25, 3) ∧ lnkB 11 false 15 (.ifCond .eq 25, 3, 40, 0, 0, 0) = true := by decide +kernel
theorem ck_83_22 : decode prog_13_method_7_code 22 = .ok (.invokestatic 162, 3) ∧ lnkB 11 false 22 (.invokestatic 162, 3, 81, 0, 0, 0) = true := by decide +kernel
theorem ck_83_25 : decode prog_13_method_7_code 25 = .ok (.ifCond .eq 15, 3) ∧ lnkB 11 false 25 (.ifCond .eq 15, 3, 40, 0, 0, 0) = true := by decide +kernel
theorem ck_83_34 : decode prog_13_method_7_code 34 = .ok (.invokestatic 162, 3) ∧ lnkB 11 false 34 (.invokestatic 162, 3, 81, 0, 0, 0) = true := by decide +kernel
theorem ck_83_37 : decode prog_13_method_7_code 37 = .ok (.ifCond .ne 5, 3) ∧ lnkB 11 false 37 (.ifCond .ne 5, 3, 42, 0, 0, 0) = true := by decide +kernel
theorem ck_83_41 : decode prog_13_method_7_code 41 = .ok (.ireturn, 1) ∧ lnkB 11 false 41 (.ireturn, 1, 0, 0, 0, 0) = true := by decide +kernel
theorem ca_83_48 : decode prog_13_method_7_code 48 = .ok (.iastore, 1) ∧ lnkB 11 false 48 (.iastore, 1, 0, 0, 0, 0) = true := by decide +kernel
theorem ca_83_55 : decode prog_13_method_7_code 55 = .ok (.iastore, 1) ∧ lnkB 11 false 55 (.iastore, 1, 0, 0, 0, 0) = true := by decide +kernel
theorem ca_83_63 : decode prog_13_method_7_code 63 = .ok (.iastore, 1) ∧ lnkB 11 false 63 (.iastore, 1, 0, 0, 0, 0) = true := by decide +kernel
theorem ck_83_71 : decode prog_13_method_7_code 71 = .ok (.if_icmp .ge 22, 3) ∧ lnkB 11 false 71 (.if_icmp .ge 22, 3, 93, 0, 0, 0) = true := by decide +kernel
theorem ca_83_86 : decode prog_13_method_7_code 86 = .ok (.iastore, 1) ∧ lnkB 11 false 86 (.iastore, 1, 0, 0, 0, 0) = true := by decide +kernel
theorem ck_83_90 : decode prog_13_method_7_code 90 = .ok (.goto (-23), 3) ∧ lnkB 11 false 90 (.goto (-23), 3, 67, 0, 0, 0) = true := by decide +kernel
theorem ck_83_94 : decode prog_13_method_7_code 94 = .ok (.ireturn, 1) ∧ lnkB 11 false 94 (.ireturn, 1, 0, 0, 0, 0) = true := by decide +kernel
abbrev RU_83 (d : Nat) (cp : Nat × Nat) (Post : Option Value → Sto → Prop) : PP := Runs (Ex d) prog_13_method_7_code 11 false 6 (some .boolean) none cp Post
theorem en_83 {d : Nat} {As : List Value} {S : Sto} {mc ms : Nat} {Post : Option Value → Sto → Prop} (hc : cats As ≤ 6) (h : RU_83 d (mc, ms) Post 0 (lv_args 0 As) [] S 0 0) : Ex (d + 1) 83 As S mc ms Post := ⟨by decide, hc, h⟩
def sg_84_0 : List RI := [(.iload_n 1, 1, 0, 0, 0, 0), (.iconst 0, 1, 0, 0, 0, 0), (.iconst 5, 1, 0, 0, 0, 5)]
theorem sk_84_0 : segB 11 false prog_13_method_8_code 0 sg_84_0 = true := by decide +kernel
def sg_84_9 : List RI := [(.iload_n 2, 1, 0, 0, 0, 0), (.iconst 0, 1, 0, 0, 0, 0), (.iconst 3, 1, 0, 0, 0, 3)]
theorem sk_84_9 : segB 11 false prog_13_method_8_code 9 sg_84_9 = true := by decide +kernel
def sg_84_18 : List RI := [(.iload_n 3, 1, 0, 0, 0, 0), (.iconst 0, 1, 0, 0, 0, 0), (.iconst 2, 1, 0, 0, 0, 2)]
theorem sk_84_18 : segB 11 false prog_13_method_8_code 18 sg_84_18 = true := by decide +kernel
def sg_84_27 : List RI := [(.iload 4, 2, 0, 0, 0, 0), (.iconst 0, 1, 0, 0, 0, 0), (.iconst 5, 1, 0, 0, 0, 5)]
theorem sk_84_27 : segB 11 false prog_13_method_8_code 27 sg_84_27 = true := by decide +kernel
def sg_84_37 : List RI := [(.iload 5, 2, 0, 0, 0, 0), (.iconst 1, 1, 0, 0, 0, 1), (.iconst 5, 1, 0, 0, 0, 5)]
theorem sk_84_37 : segB 11 false prog_13_method_8_code 37 sg_84_37 = true := by decide +kernel
def sg_84_47 : List RI := [(.iconst 0, 1, 0, 0, 0, 0)]
theorem sk_84_47 : segB 11 false prog_13_method_8_code 47 sg_84_47 = true := by decide +kernel
def sg_84_49 : List RI := [(.aload_n 0, 1, 0, 0, 0, 0), (.getfield 52, 3, 11, 17, 2, 0), (.iconst 4, 1, 0, 0, 0, 4), (.iload_n 1, 1, 0, 0, 0, 0), (.imul, 1, 0, 0, 0, 0), (.iload_n 2, 1, 0, 0, 0, 0), (.iadd, 1, 0, 0, 0, 0), (.iload_n 3, 1, 0, 0, 0, 0)]
theorem sk_84_49 : segB 11 false prog_13_method_8_code 49 sg_84_49 = true := by decide +kernel
def sg_84_60 : List RI := [(.aload_n 0, 1, 0, 0, 0, 0), (.getfield 55, 3, 11, 18, 2, 0), (.iconst 4, 1, 0, 0, 0, 4), (.iload_n 1, 1, 0, 0, 0, 0), (.imul, 1, 0, 0, 0, 0), (.iload_n 2, 1, 0, 0, 0, 0), (.iadd, 1, 0, 0, 0, 0), (.iload 4, 2, 0, 0, 0, 0)]
theorem sk_84_60 : segB 11 false prog_13_method_8_code 60 sg_84_60 = true := by decide +kernel
def sg_84_72 : List RI := [(.aload_n 0, 1, 0, 0, 0, 0), (.getfield 58, 3, 11, 19, 2, 0), (.iconst 4, 1, 0, 0, 0, 4), (.iload_n 1, 1, 0, 0, 0, 0), (.imul, 1, 0, 0, 0, 0), (.iload_n 2, 1, 0, 0, 0, 0), (.iadd, 1, 0, 0, 0, 0), (.iload 5, 2, 0, 0, 0, 0)]
theorem sk_84_72 : segB 11 false prog_13_method_8_code 72 sg_84_72 = true := by decide +kernel
def sg_84_84 : List RI := [(.aload_n 0, 1, 0, 0, 0, 0), (.getfield 61, 3, 11, 20, 2, 0), (.iconst 4, 1, 0, 0, 0, 4), (.iload_n 1, 1, 0, 0, 0, 0), (.imul, 1, 0, 0, 0, 0), (.iload_n 2, 1, 0, 0, 0, 0), (.iadd, 1, 0, 0, 0, 0), (.iload 6, 2, 0, 0, 0, 0)]
theorem sk_84_84 : segB 11 false prog_13_method_8_code 84 sg_84_84 = true := by decide +kernel
def sg_84_96 : List RI := [(.iconst 1, 1, 0, 0, 0, 1)]
theorem sk_84_96 : segB 11 false prog_13_method_8_code 96 sg_84_96 = true := by decide +kernel
theorem ck_84_3 : decode prog_13_method_8_code 3 = .ok (.invokestatic 162, 3) ∧ lnkB 11 false 3 (.invokestatic 162, 3, 81, 0, 0, 0) = true := by decide +kernel
theorem ck_84_6 : decode prog_13_method_8_code 6 = .ok (.ifCond .eq 41, 3) ∧ lnkB 11 false 6 (.ifCond .eq 41, 3, 47, 0, 0, 0) = true := by decide +kernel
theorem ck_84_12 : decode prog_13_method_8_code 12 = .ok (.invokestatic 162, 3) ∧ lnkB 11 false 12 (.invokestatic 162, 3, 81, 0, 0, 0) = true := by decide +kernel
theorem ck_84_15 : decode prog_13_method_8_code 15 = .ok (.ifCond .eq 32, 3) ∧ lnkB 11 false 15 (.ifCond .eq 32, 3, 47, 0, 0, 0) = true := by decide +kernel
theorem ck_84_21 : decode prog_13_method_8_code 21 = .ok (.invokestatic 162, 3) ∧ lnkB 11 false 21 (.invokestatic 162, 3, 81, 0, 0, 0) = true := by decide +kernel
theorem ck_84_24 : decode prog_13_method_8_code 24 = .ok (.ifCond .eq 23, 3) ∧ lnkB 11 false 24 (.ifCond .eq 23, 3, 47, 0, 0, 0) = true := by decide +kernel
theorem ck_84_31 : decode prog_13_method_8_code 31 = .ok (.invokestatic 162, 3) ∧ lnkB 11 false 31 (.invokestatic 162, 3, 81, 0, 0, 0) = true := by decide +kernel
theorem ck_84_34 : decode prog_13_method_8_code 34 = .ok (.ifCond .eq 13, 3) ∧ lnkB 11 false 34 (.ifCond .eq 13, 3, 47, 0, 0, 0) = true := by decide +kernel
theorem ck_84_41 : decode prog_13_method_8_code 41 = .ok (.invokestatic 162, 3) ∧ lnkB 11 false 41 (.invokestatic 162, 3, 81, 0, 0, 0) = true := by decide +kernel
theorem ck_84_44 : decode prog_13_method_8_code 44 = .ok (.ifCond .ne 5, 3) ∧ lnkB 11 false 44 (.ifCond .ne 5, 3, 49, 0, 0, 0) = true := by decide +kernel
theorem ck_84_48 : decode prog_13_method_8_code 48 = .ok (.ireturn, 1) ∧ lnkB 11 false 48 (.ireturn, 1, 0, 0, 0, 0) = true := by decide +kernel
theorem ca_84_59 : decode prog_13_method_8_code 59 = .ok (.iastore, 1) ∧ lnkB 11 false 59 (.iastore, 1, 0, 0, 0, 0) = true := by decide +kernel
theorem ca_84_71 : decode prog_13_method_8_code 71 = .ok (.iastore, 1) ∧ lnkB 11 false 71 (.iastore, 1, 0, 0, 0, 0) = true := by decide +kernel
theorem ca_84_83 : decode prog_13_method_8_code 83 = .ok (.iastore, 1) ∧ lnkB 11 false 83 (.iastore, 1, 0, 0, 0, 0) = true := by decide +kernel
theorem ca_84_95 : decode prog_13_method_8_code 95 = .ok (.bastore, 1) ∧ lnkB 11 false 95 (.bastore, 1, 15, 0, 0, 0) = true := by decide +kernel
theorem ck_84_97 : decode prog_13_method_8_code 97 = .ok (.ireturn, 1) ∧ lnkB 11 false 97 (.ireturn, 1, 0, 0, 0, 0) = true := by decide +kernel
abbrev RU_84 (d : Nat) (cp : Nat × Nat) (Post : Option Value → Sto → Prop) : PP := Runs (Ex d) prog_13_method_8_code 11 false 7 (some .boolean) none cp Post
theorem en_84 {d : Nat} {As : List Value} {S : Sto} {mc ms : Nat} {Post : Option Value → Sto → Prop} (hc : cats As ≤ 7) (h : RU_84 d (mc, ms) Post 0 (lv_args 0 As) [] S 0 0) : Ex (d + 1) 84 As S mc ms Post := ⟨by decide, hc, h⟩
def sg_85_0 : List RI := [(.iload_n 1, 1, 0, 0, 0, 0), (.iload_n 2, 1, 0, 0, 0, 0)]
theorem sk_85_0 : segB 11 false prog_13_method_10_code 0 sg_85_0 = true := by decide +kernel
def sg_85_8 : List RI := [(.aload_n 0, 1, 0, 0, 0, 0), (.getfield 65, 3, 11, 21, 2, 0), (.bipush 32, 2, 0, 0, 0, 32), (.iload_n 1, 1, 0, 0, 0, 0), (.imul, 1, 0, 0, 0, 0), (.iload_n 2, 1, 0, 0, 0, 0), (.iadd, 1, 0, 0, 0, 0)]
theorem sk_85_8 : segB 11 false prog_13_method_10_code 8 sg_85_8 = true := by decide +kernel
def sg_85_19 : List RI := [(.iload_n 3, 1, 0, 0, 0, 0)]
theorem sk_85_19 : segB 11 false prog_13_method_10_code 19 sg_85_19 = true := by decide +kernel
def sg_85_23 : List RI := [(.iconst 0, 1, 0, 0, 0, 0)]
theorem sk_85_23 : segB 11 false prog_13_method_10_code 23 sg_85_23 = true := by decide +kernel
def sg_85_25 : List RI := [(.aload_n 0, 1, 0, 0, 0, 0), (.getfield 65, 3, 11, 21, 2, 0), (.bipush 32, 2, 0, 0, 0, 32), (.iload_n 1, 1, 0, 0, 0, 0), (.imul, 1, 0, 0, 0, 0), (.iload_n 2, 1, 0, 0, 0, 0), (.iadd, 1, 0, 0, 0, 0), (.iload_n 3, 1, 0, 0, 0, 0)]
theorem sk_85_25 : segB 11 false prog_13_method_10_code 25 sg_85_25 = true := by decide +kernel
def sg_85_37 : List RI := [(.aload_n 0, 1, 0, 0, 0, 0), (.getfield 80, 3, 11, 26, 2, 0), (.bipush 32, 2, 0, 0, 0, 32), (.iload_n 1, 1, 0, 0, 0, 0), (.imul, 1, 0, 0, 0, 0), (.iload_n 2, 1, 0, 0, 0, 0), (.iadd, 1, 0, 0, 0, 0), (.iconst (-1), 1, 0, 0, 0, -1)]
theorem sk_85_37 : segB 11 false prog_13_method_10_code 37 sg_85_37 = true := by decide +kernel
def sg_85_49 : List RI := [(.iconst 1, 1, 0, 0, 0, 1)]
theorem sk_85_49 : segB 11 false prog_13_method_10_code 49 sg_85_49 = true := by decide +kernel
theorem ck_85_2 : decode prog_13_method_10_code 2 = .ok (.invokestatic 170, 3) ∧ lnkB 11 false 2 (.invokestatic 170, 3, 86, 0, 0, 0) = true := by decide +kernel
theorem ck_85_5 : decode prog_13_method_10_code 5 = .ok (.ifCond .eq 18, 3) ∧ lnkB 11 false 5 (.ifCond .eq 18, 3, 23, 0, 0, 0) = true := by decide +kernel
theorem ca_85_18 : decode prog_13_method_10_code 18 = .ok (.baload, 1) ∧ lnkB 11 false 18 (.baload, 1, 15, 0, 0, 0) = true := by decide +kernel
theorem ck_85_20 : decode prog_13_method_10_code 20 = .ok (.if_icmp .ne 5, 3) ∧ lnkB 11 false 20 (.if_icmp .ne 5, 3, 25, 0, 0, 0) = true := by decide +kernel
theorem ck_85_24 : decode prog_13_method_10_code 24 = .ok (.ireturn, 1) ∧ lnkB 11 false 24 (.ireturn, 1, 0, 0, 0, 0) = true := by decide +kernel
theorem ca_85_36 : decode prog_13_method_10_code 36 = .ok (.bastore, 1) ∧ lnkB 11 false 36 (.bastore, 1, 15, 0, 0, 0) = true := by decide +kernel
theorem ca_85_48 : decode prog_13_method_10_code 48 = .ok (.iastore, 1) ∧ lnkB 11 false 48 (.iastore, 1, 0, 0, 0, 0) = true := by decide +kernel
theorem ck_85_50 : decode prog_13_method_10_code 50 = .ok (.ireturn, 1) ∧ lnkB 11 false 50 (.ireturn, 1, 0, 0, 0, 0) = true := by decide +kernel
abbrev RU_85 (d : Nat) (cp : Nat × Nat) (Post : Option Value → Sto → Prop) : PP := Runs (Ex d) prog_13_method_10_code 11 false 4 (some .boolean) none cp Post
theorem en_85 {d : Nat} {As : List Value} {S : Sto} {mc ms : Nat} {Post : Option Value → Sto → Prop} (hc : cats As ≤ 4) (h : RU_85 d (mc, ms) Post 0 (lv_args 0 As) [] S 0 0) : Ex (d + 1) 85 As S mc ms Post := ⟨by decide, hc, h⟩
def sg_86_0 : List RI := [(.iload_n 0, 1, 0, 0, 0, 0), (.iconst 0, 1, 0, 0, 0, 0), (.iconst 5, 1, 0, 0, 0, 5)]
theorem sk_86_0 : segB 11 false prog_13_method_9_code 0 sg_86_0 = true := by decide +kernel
def sg_86_9 : List RI := [(.iload_n 1, 1, 0, 0, 0, 0), (.iconst 0, 1, 0, 0, 0, 0), (.bipush 31, 2, 0, 0, 0, 31)]
theorem sk_86_9 : segB 11 false prog_13_method_9_code 9 sg_86_9 = true := by decide +kernel
def sg_86_19 : List RI := [(.iconst 1, 1, 0, 0, 0, 1)]
theorem sk_86_19 : segB 11 false prog_13_method_9_code 19 sg_86_19 = true := by decide +kernel
def sg_86_23 : List RI := [(.iconst 0, 1, 0, 0, 0, 0)]
theorem sk_86_23 : segB 11 false prog_13_method_9_code 23 sg_86_23 = true := by decide +kernel
theorem ck_86_3 : decode prog_13_method_9_code 3 = .ok (.invokestatic 162, 3) ∧ lnkB 11 false 3 (.invokestatic 162, 3, 81, 0, 0, 0) = true := by decide +kernel
theorem ck_86_6 : decode prog_13_method_9_code 6 = .ok (.ifCond .eq 17, 3) ∧ lnkB 11 false 6 (.ifCond .eq 17, 3, 23, 0, 0, 0) = true := by decide +kernel
theorem ck_86_13 : decode prog_13_method_9_code 13 = .ok (.invokestatic 162, 3) ∧ lnkB 11 false 13 (.invokestatic 162, 3, 81, 0, 0, 0) = true := by decide +kernel
theorem ck_86_16 : decode prog_13_method_9_code 16 = .ok (.ifCond .eq 7, 3) ∧ lnkB 11 false 16 (.ifCond .eq 7, 3, 23, 0, 0, 0) = true := by decide +kernel
theorem ck_86_20 : decode prog_13_method_9_code 20 = .ok (.goto 4, 3) ∧ lnkB 11 false 20 (.goto 4, 3, 24, 0, 0, 0) = true := by decide +kernel
theorem ck_86_24 : decode prog_13_method_9_code 24 = .ok (.ireturn, 1) ∧ lnkB 11 false 24 (.ireturn, 1, 0, 0, 0, 0) = true := by decide +kernel
abbrev RU_86 (d : Nat) (cp : Nat × Nat) (Post : Option Value → Sto → Prop) : PP := Runs (Ex d) prog_13_method_9_code 11 false 2 (some .boolean) none cp Post
theorem en_86 {d : Nat} {As : List Value} {S : Sto} {mc ms : Nat} {Post : Option Value → Sto → Prop} (hc : cats As ≤ 2) (h : RU_86 d (mc, ms) Post 0 (lv_args 0 As) [] S 0 0) : Ex (d + 1) 86 As S mc ms Post := ⟨by decide, hc, h⟩
def sg_87_0 : List RI := [(.iload_n 1, 1, 0, 0, 0, 0), (.iload_n 2, 1, 0, 0, 0, 0)]
theorem sk_87_0 : segB 11 false prog_13_method_11_code 0 sg_87_0 = true := by decide +kernel
def sg_87_8 : List RI := [(.iload_n 3, 1, 0, 0, 0, 0), (.iconst 0, 1, 0, 0, 0, 0), (.iconst 3, 1, 0, 0, 0, 3)]
theorem sk_87_8 : segB 11 false prog_13_method_11_code 8 sg_87_8 = true := by decide +kernel
def sg_87_17 : List RI := [(.iload 4, 2, 0, 0, 0, 0), (.ldc 174, 2, 0, 0, 0, -99999), (.ldc 175, 2, 0, 0, 0, 99999)]
theorem sk_87_17 : segB 11 false prog_13_method_11_code 17 sg_87_17 = true := by decide +kernel
def sg_87_29 : List RI := [(.iconst 0, 1, 0, 0, 0, 0)]
theorem sk_87_29 : segB 11 false prog_13_method_11_code 29 sg_87_29 = true := by decide +kernel
def sg_87_31 : List RI := [(.aload_n 0, 1, 0, 0, 0, 0), (.getfield 68, 3, 11, 22, 2, 0), (.iconst 4, 1, 0, 0, 0, 4), (.bipush 32, 2, 0, 0, 0, 32), (.iload_n 1, 1, 0, 0, 0, 0), (.imul, 1, 0, 0, 0, 0), (.iload_n 2, 1, 0, 0, 0, 0), (.iadd, 1, 0, 0, 0, 0), (.imul, 1, 0, 0, 0, 0), (.iload_n 3, 1, 0, 0, 0, 0), (.iadd, 1, 0, 0, 0, 0), (.iload 4, 2, 0, 0, 0, 0)]
theorem sk_87_31 : segB 11 false prog_13_method_11_code 31 sg_87_31 = true := by decide +kernel
def sg_87_48 : List RI := [(.aload_n 0, 1, 0, 0, 0, 0), (.getfield 80, 3, 11, 26, 2, 0), (.bipush 32, 2, 0, 0, 0, 32), (.iload_n 1, 1, 0, 0, 0, 0), (.imul, 1, 0, 0, 0, 0), (.iload_n 2, 1, 0, 0, 0, 0), (.iadd, 1, 0, 0, 0, 0), (.iconst (-1), 1, 0, 0, 0, -1)]
theorem sk_87_48 : segB 11 false prog_13_method_11_code 48 sg_87_48 = true := by decide +kernel
def sg_87_60 : List RI := [(.iconst 1, 1, 0, 0, 0, 1)]
theorem sk_87_60 : segB 11 false prog_13_method_11_code 60 sg_87_60 = true := by decide +kernel
theorem ck_87_2 : decode prog_13_method_11_code 2 = .ok (.invokestatic 170, 3) ∧ lnkB 11 false 2 (.invokestatic 170, 3, 86, 0, 0, 0) = true := by decide +kernel
theorem ck_87_5 : decode prog_13_method_11_code 5 = .ok (.ifCond .eq 24, 3) ∧ lnkB 11 false 5 (.ifCond .eq 24, 3, 29, 0, 0, 0) = true := by decide +kernel
theorem ck_87_11 : decode prog_13_method_11_code 11 = .ok (.invokestatic 162, 3) ∧ lnkB 11 false 11 (.invokestatic 162, 3, 81, 0, 0, 0) = true := by decide +kernel
theorem ck_87_14 : decode prog_13_method_11_code 14 = .ok (.ifCond .eq 15, 3) ∧ lnkB 11 false 14 (.ifCond .eq 15, 3, 29, 0, 0, 0) = true := by decide +kernel
theorem ck_87_23 : decode prog_13_method_11_code 23 = .ok (.invokestatic 162, 3) ∧ lnkB 11 false 23 (.invokestatic 162, 3, 81, 0, 0, 0) = true := by decide +kernel
theorem ck_87_26 : decode prog_13_method_11_code 26 = .ok (.ifCond .ne 5, 3) ∧ lnkB 11 false 26 (.ifCond .ne 5, 3, 31, 0, 0, 0) = true := by decide +kernel
theorem ck_87_30 : decode prog_13_method_11_code 30 = .ok (.ireturn, 1) ∧ lnkB 11 false 30 (.ireturn, 1, 0, 0, 0, 0) = true := by decide +kernel
theorem ca_87_47 : decode prog_13_method_11_code 47 = .ok (.iastore, 1) ∧ lnkB 11 false 47 (.iastore, 1, 0, 0, 0, 0) = true := by decide +kernel
theorem ca_87_59 : decode prog_13_method_11_code 59 = .ok (.iastore, 1) ∧ lnkB 11 false 59 (.iastore, 1, 0, 0, 0, 0) = true := by decide +kernel
theorem ck_87_61 : decode prog_13_method_11_code 61 = .ok (.ireturn, 1) ∧ lnkB 11 false 61 (.ireturn, 1, 0, 0, 0, 0) = true := by decide +kernel
abbrev RU_87 (d : Nat) (cp : Nat × Nat) (Post : Option Value → Sto → Prop) : PP := Runs (Ex d) prog_13_method_11_code 11 false 5 (some .boolean) none cp Post
theorem en_87 {d : Nat} {As : List Value} {S : Sto} {mc ms : Nat} {Post : Option Value → Sto → Prop} (hc : cats As ≤ 5) (h : RU_87 d (mc, ms) Post 0 (lv_args 0 As) [] S 0 0) : Ex (d + 1) 87 As S mc ms Post := ⟨by decide, hc, h⟩
def sg_88_0 : List RI := [(.iload_n 1, 1, 0, 0, 0, 0), (.iload_n 2, 1, 0, 0, 0, 0)]
theorem sk_88_0 : segB 11 false prog_13_method_12_code 0 sg_88_0 = true := by decide +kernel
def sg_88_8 : List RI := [(.iload_n 3, 1, 0, 0, 0, 0), (.iconst 0, 1, 0, 0, 0, 0), (.iconst 3, 1, 0, 0, 0, 3)]
theorem sk_88_8 : segB 11 false prog_13_method_12_code 8 sg_88_8 = true := by decide +kernel
def sg_88_17 : List RI := [(.iload 4, 2, 0, 0, 0, 0), (.iconst (-1), 1, 0, 0, 0, -1), (.bipush 31, 2, 0, 0, 0, 31)]
theorem sk_88_17 : segB 11 false prog_13_method_12_code 17 sg_88_17 = true := by decide +kernel
def sg_88_28 : List RI := [(.iconst 0, 1, 0, 0, 0, 0)]
theorem sk_88_28 : segB 11 false prog_13_method_12_code 28 sg_88_28 = true := by decide +kernel
def sg_88_30 : List RI := [(.aload_n 0, 1, 0, 0, 0, 0), (.getfield 71, 3, 11, 23, 2, 0), (.iconst 4, 1, 0, 0, 0, 4), (.bipush 32, 2, 0, 0, 0, 32), (.iload_n 1, 1, 0, 0, 0, 0), (.imul, 1, 0, 0, 0, 0), (.iload_n 2, 1, 0, 0, 0, 0), (.iadd, 1, 0, 0, 0, 0), (.imul, 1, 0, 0, 0, 0), (.iload_n 3, 1, 0, 0, 0, 0), (.iadd, 1, 0, 0, 0, 0), (.iload 4, 2, 0, 0, 0, 0)]
theorem sk_88_30 : segB 11 false prog_13_method_12_code 30 sg_88_30 = true := by decide +kernel
def sg_88_47 : List RI := [(.aload_n 0, 1, 0, 0, 0, 0), (.getfield 80, 3, 11, 26, 2, 0), (.bipush 32, 2, 0, 0, 0, 32), (.iload_n 1, 1, 0, 0, 0, 0), (.imul, 1, 0, 0, 0, 0), (.iload_n 2, 1, 0, 0, 0, 0), (.iadd, 1, 0, 0, 0, 0), (.iconst (-1), 1, 0, 0, 0, -1)]
theorem sk_88_47 : segB 11 false prog_13_method_12_code 47 sg_88_47 = true := by decide +kernel
def sg_88_59 : List RI := [(.iconst 1, 1, 0, 0, 0, 1)]
theorem sk_88_59 : segB 11 false prog_13_method_12_code 59 sg_88_59 = true := by decide +kernel
theorem ck_88_2 : decode prog_13_method_12_code 2 = .ok (.invokestatic 170, 3) ∧ lnkB 11 false 2 (.invokestatic 170, 3, 86, 0, 0, 0) = true := by decide +kernel
theorem ck_88_5 : decode prog_13_method_12_code 5 = .ok (.ifCond .eq 23, 3) ∧ lnkB 11 false 5 (.ifCond .eq 23, 3, 28, 0, 0, 0) = true := by decide +kernel
theorem ck_88_11 : decode prog_13_method_12_code 11 = .ok (.invokestatic 162, 3) ∧ lnkB 11 false 11 (.invokestatic 162, 3, 81, 0, 0, 0) = true := by decide +kernel
theorem ck_88_14 : decode prog_13_method_12_code 14 = .ok (.ifCond .eq 14, 3) ∧ lnkB 11 false 14 (.ifCond .eq 14, 3, 28, 0, 0, 0) = true := by decide +kernel
theorem ck_88_22 : decode prog_13_method_12_code 22 = .ok (.invokestatic 162, 3) ∧ lnkB 11 false 22 (.invokestatic 162, 3, 81, 0, 0, 0) = true := by decide +kernel
theorem ck_88_25 : decode prog_13_method_12_code 25 = .ok (.ifCond .ne 5, 3) ∧ lnkB 11 false 25 (.ifCond .ne 5, 3, 30, 0, 0, 0) = true := by decide +kernel
theorem ck_88_29 : decode prog_13_method_12_code 29 = .ok (.ireturn, 1) ∧ lnkB 11 false 29 (.ireturn, 1, 0, 0, 0, 0) = true := by decide +kernel
theorem ca_88_46 : decode prog_13_method_12_code 46 = .ok (.iastore, 1) ∧ lnkB 11 false 46 (.iastore, 1, 0, 0, 0, 0) = true := by decide +kernel
theorem ca_88_58 : decode prog_13_method_12_code 58 = .ok (.iastore, 1) ∧ lnkB 11 false 58 (.iastore, 1, 0, 0, 0, 0) = true := by decide +kernel
theorem ck_88_60 : decode prog_13_method_12_code 60 = .ok (.ireturn, 1) ∧ lnkB 11 false 60 (.ireturn, 1, 0, 0, 0, 0) = true := by decide +kernel
abbrev RU_88 (d : Nat) (cp : Nat × Nat) (Post : Option Value → Sto → Prop) : PP := Runs (Ex d) prog_13_method_12_code 11 false 5 (some .boolean) none cp Post
theorem en_88 {d : Nat} {As : List Value} {S : Sto} {mc ms : Nat} {Post : Option Value → Sto → Prop} (hc : cats As ≤ 5) (h : RU_88 d (mc, ms) Post 0 (lv_args 0 As) [] S 0 0) : Ex (d + 1) 88 As S mc ms Post := ⟨by decide, hc, h⟩
def sg_89_0 : List RI := [(.iload_n 1, 1, 0, 0, 0, 0), (.iload_n 2, 1, 0, 0, 0, 0)]
theorem sk_89_0 : segB 11 false prog_13_method_13_code 0 sg_89_0 = true := by decide +kernel
def sg_89_8 : List RI := [(.iload_n 3, 1, 0, 0, 0, 0), (.iconst 0, 1, 0, 0, 0, 0), (.iconst 3, 1, 0, 0, 0, 3)]
theorem sk_89_8 : segB 11 false prog_13_method_13_code 8 sg_89_8 = true := by decide +kernel
def sg_89_17 : List RI := [(.iload 4, 2, 0, 0, 0, 0), (.iconst 0, 1, 0, 0, 0, 0), (.iconst 5, 1, 0, 0, 0, 5)]
theorem sk_89_17 : segB 11 false prog_13_method_13_code 17 sg_89_17 = true := by decide +kernel
def sg_89_27 : List RI := [(.iconst 0, 1, 0, 0, 0, 0)]
theorem sk_89_27 : segB 11 false prog_13_method_13_code 27 sg_89_27 = true := by decide +kernel
def sg_89_29 : List RI := [(.aload_n 0, 1, 0, 0, 0, 0), (.getfield 74, 3, 11, 24, 2, 0), (.iconst 4, 1, 0, 0, 0, 4), (.bipush 32, 2, 0, 0, 0, 32), (.iload_n 1, 1, 0, 0, 0, 0), (.imul, 1, 0, 0, 0, 0), (.iload_n 2, 1, 0, 0, 0, 0), (.iadd, 1, 0, 0, 0, 0), (.imul, 1, 0, 0, 0, 0), (.iload_n 3, 1, 0, 0, 0, 0), (.iadd, 1, 0, 0, 0, 0), (.iload 4, 2, 0, 0, 0, 0)]
theorem sk_89_29 : segB 11 false prog_13_method_13_code 29 sg_89_29 = true := by decide +kernel
def sg_89_46 : List RI := [(.aload_n 0, 1, 0, 0, 0, 0), (.getfield 77, 3, 11, 25, 2, 0), (.iconst 4, 1, 0, 0, 0, 4), (.bipush 32, 2, 0, 0, 0, 32), (.iload_n 1, 1, 0, 0, 0, 0), (.imul, 1, 0, 0, 0, 0), (.iload_n 2, 1, 0, 0, 0, 0), (.iadd, 1, 0, 0, 0, 0), (.imul, 1, 0, 0, 0, 0), (.iload_n 3, 1, 0, 0, 0, 0), (.iadd, 1, 0, 0, 0, 0), (.iload 5, 2, 0, 0, 0, 0)]
theorem sk_89_46 : segB 11 false prog_13_method_13_code 46 sg_89_46 = true := by decide +kernel
def sg_89_63 : List RI := [(.aload_n 0, 1, 0, 0, 0, 0), (.getfield 80, 3, 11, 26, 2, 0), (.bipush 32, 2, 0, 0, 0, 32), (.iload_n 1, 1, 0, 0, 0, 0), (.imul, 1, 0, 0, 0, 0), (.iload_n 2, 1, 0, 0, 0, 0), (.iadd, 1, 0, 0, 0, 0), (.iconst (-1), 1, 0, 0, 0, -1)]
theorem sk_89_63 : segB 11 false prog_13_method_13_code 63 sg_89_63 = true := by decide +kernel
def sg_89_75 : List RI := [(.iconst 1, 1, 0, 0, 0, 1)]
theorem sk_89_75 : segB 11 false prog_13_method_13_code 75 sg_89_75 = true := by decide +kernel
theorem ck_89_2 : decode prog_13_method_13_code 2 = .ok (.invokestatic 170, 3) ∧ lnkB 11 false 2 (.invokestatic 170, 3, 86, 0, 0, 0) = true := by decide +kernel
theorem ck_89_5 : decode prog_13_method_13_code 5 = .ok (.ifCond .eq 22, 3) ∧ lnkB 11 false 5 (.ifCond .eq 22, 3, 27, 0, 0, 0) = true := by decide +kernel
theorem ck_89_11 : decode prog_13_method_13_code 11 = .ok (.invokestatic 162, 3) ∧ lnkB 11 false 11 (.invokestatic 162, 3, 81, 0, 0, 0) = true := by decide +kernel
theorem ck_89_14 : decode prog_13_method_13_code 14 = .ok (.ifCond .eq 13, 3) ∧ lnkB 11 false 14 (.ifCond .eq 13, 3, 27, 0, 0, 0) = true := by decide +kernel
theorem ck_89_21 : decode prog_13_method_13_code 21 = .ok (.invokestatic 162, 3) ∧ lnkB 11 false 21 (.invokestatic 162, 3, 81, 0, 0, 0) = true := by decide +kernel
theorem ck_89_24 : decode prog_13_method_13_code 24 = .ok (.ifCond .ne 5, 3) ∧ lnkB 11 false 24 (.ifCond .ne 5, 3, 29, 0, 0, 0) = true := by decide +kernel
theorem ck_89_28 : decode prog_13_method_13_code 28 = .ok (.ireturn, 1) ∧ lnkB 11 false 28 (.ireturn, 1, 0, 0, 0, 0) = true := by decide +kernel
theorem ca_89_45 : decode prog_13_method_13_code 45 = .ok (.iastore, 1) ∧ lnkB 11 false 45 (.iastore, 1, 0, 0, 0, 0) = true := by decide +kernel
theorem ca_89_62 : decode prog_13_method_13_code 62 = .ok (.iastore, 1) ∧ lnkB 11 false 62 (.iastore, 1, 0, 0, 0, 0) = true := by decide +kernel
theorem ca_89_74 : decode prog_13_method_13_code 74 = .ok (.iastore, 1) ∧ lnkB 11 false 74 (.iastore, 1, 0, 0, 0, 0) = true := by decide +kernel
theorem ck_89_76 : decode prog_13_method_13_code 76 = .ok (.ireturn, 1) ∧ lnkB 11 false 76 (.ireturn, 1, 0, 0, 0, 0) = true := by decide +kernel
abbrev RU_89 (d : Nat) (cp : Nat × Nat) (Post : Option Value → Sto → Prop) : PP := Runs (Ex d) prog_13_method_13_code 11 false 6 (some .boolean) none cp Post
theorem en_89 {d : Nat} {As : List Value} {S : Sto} {mc ms : Nat} {Post : Option Value → Sto → Prop} (hc : cats As ≤ 6) (h : RU_89 d (mc, ms) Post 0 (lv_args 0 As) [] S 0 0) : Ex (d + 1) 89 As S mc ms Post := ⟨by decide, hc, h⟩
def sg_90_0 : List RI := [(.iload_n 1, 1, 0, 0, 0, 0), (.iconst 0, 1, 0, 0, 0, 0), (.iconst 3, 1, 0, 0, 0, 3)]
theorem sk_90_0 : segB 11 false prog_13_method_14_code 0 sg_90_0 = true := by decide +kernel
def sg_90_9 : List RI := [(.iload_n 2, 1, 0, 0, 0, 0), (.iconst 0, 1, 0, 0, 0, 0), (.bipush 63, 2, 0, 0, 0, 63)]
theorem sk_90_9 : segB 11 false prog_13_method_14_code 9 sg_90_9 = true := by decide +kernel
def sg_90_19 : List RI := [(.iload_n 3, 1, 0, 0, 0, 0), (.iconst 1, 1, 0, 0, 0, 1), (.sipush 500, 3, 0, 0, 0, 500)]
theorem sk_90_19 : segB 11 false prog_13_method_14_code 19 sg_90_19 = true := by decide +kernel
def sg_90_30 : List RI := [(.iload 4, 2, 0, 0, 0, 0), (.iconst 0, 1, 0, 0, 0, 0), (.bipush 50, 2, 0, 0, 0, 50)]
theorem sk_90_30 : segB 11 false prog_13_method_14_code 30 sg_90_30 = true := by decide +kernel
def sg_90_41 : List RI := [(.iconst 0, 1, 0, 0, 0, 0)]
theorem sk_90_41 : segB 11 false prog_13_method_14_code 41 sg_90_41 = true := by decide +kernel
def sg_90_43 : List RI := [(.aload_n 0, 1, 0, 0, 0, 0), (.getfield 83, 3, 11, 27, 2, 0), (.iload_n 1, 1, 0, 0, 0, 0), (.iload_n 2, 1, 0, 0, 0, 0)]
theorem sk_90_43 : segB 11 false prog_13_method_14_code 43 sg_90_43 = true := by decide +kernel
def sg_90_50 : List RI := [(.aload_n 0, 1, 0, 0, 0, 0), (.getfield 86, 3, 11, 28, 2, 0), (.iload_n 1, 1, 0, 0, 0, 0), (.iload_n 3, 1, 0, 0, 0, 0)]
theorem sk_90_50 : segB 11 false prog_13_method_14_code 50 sg_90_50 = true := by decide +kernel
def sg_90_57 : List RI := [(.aload_n 0, 1, 0, 0, 0, 0), (.getfield 89, 3, 11, 29, 2, 0), (.iload_n 1, 1, 0, 0, 0, 0), (.iload 4, 2, 0, 0, 0, 0)]
theorem sk_90_57 : segB 11 false prog_13_method_14_code 57 sg_90_57 = true := by decide +kernel
def sg_90_65 : List RI := [(.aload_n 0, 1, 0, 0, 0, 0), (.getfield 92, 3, 11, 30, 2, 0), (.iload_n 1, 1, 0, 0, 0, 0), (.aload_n 0, 1, 0, 0, 0, 0), (.getfield 92, 3, 11, 30, 2, 0), (.iload_n 1, 1, 0, 0, 0, 0)]
theorem sk_90_65 : segB 11 false prog_13_method_14_code 65 sg_90_65 = true := by decide +kernel
def sg_90_76 : List RI := [(.iload_n 3, 1, 0, 0, 0, 0)]
theorem sk_90_76 : segB 11 false prog_13_method_14_code 76 sg_90_76 = true := by decide +kernel
def sg_90_80 : List RI := [(.iload_n 3, 1, 0, 0, 0, 0)]
theorem sk_90_80 : segB 11 false prog_13_method_14_code 80 sg_90_80 = true := by decide +kernel
def sg_90_84 : List RI := [(.aload_n 0, 1, 0, 0, 0, 0), (.getfield 92, 3, 11, 30, 2, 0), (.iload_n 1, 1, 0, 0, 0, 0)]
theorem sk_90_84 : segB 11 false prog_13_method_14_code 84 sg_90_84 = true := by decide +kernel
def sg_90_91 : List RI := [(.iconst 1, 1, 0, 0, 0, 1)]
theorem sk_90_91 : segB 11 false prog_13_method_14_code 91 sg_90_91 = true := by decide +kernel
theorem ck_90_3 : decode prog_13_method_14_code 3 = .ok (.invokestatic 162, 3) ∧ lnkB 11 false 3 (.invokestatic 162, 3, 81, 0, 0, 0) = true := by decide +kernel
theorem ck_90_6 : decode prog_13_method_14_code 6 = .ok (.ifCond .eq 35, 3) ∧ lnkB 11 false 6 (.ifCond .eq 35, 3, 41, 0, 0, 0) = true := by decide +kernel
theorem ck_90_13 : decode prog_13_method_14_code 13 = .ok (.invokestatic 162, 3) ∧ lnkB 11 false 13 (.invokestatic 162, 3, 81, 0, 0, 0) = true := by decide +kernel
theorem ck_90_16 : decode prog_13_method_14_code 16 = .ok (.ifCond .eq 25, 3) ∧ lnkB 11 false 16 (.ifCond .eq 25, 3, 41, 0, 0, 0) = true := by decide +kernel
theorem ck_90_24 : decode prog_13_method_14_code 24 = .ok (.invokestatic 162, 3) ∧ lnkB 11 false 24 (.invokestatic 162, 3, 81, 0, 0, 0) = true := by decide +kernel
theorem ck_90_27 : decode prog_13_method_14_code 27 = .ok (.ifCond .eq 14, 3) ∧ lnkB 11 false 27 (.ifCond .eq 14, 3, 41, 0, 0, 0) = true := by decide +kernel
theorem ck_90_35 : decode prog_13_method_14_code 35 = .ok (.invokestatic 162, 3) ∧ lnkB 11 false 35 (.invokestatic 162, 3, 81, 0, 0, 0) = true := by decide +kernel
theorem ck_90_38 : decode prog_13_method_14_code 38 = .ok (.ifCond .ne 5, 3) ∧ lnkB 11 false 38 (.ifCond .ne 5, 3, 43, 0, 0, 0) = true := by decide +kernel
theorem ck_90_42 : decode prog_13_method_14_code 42 = .ok (.ireturn, 1) ∧ lnkB 11 false 42 (.ireturn, 1, 0, 0, 0, 0) = true := by decide +kernel
theorem ca_90_49 : decode prog_13_method_14_code 49 = .ok (.iastore, 1) ∧ lnkB 11 false 49 (.iastore, 1, 0, 0, 0, 0) = true := by decide +kernel
theorem ca_90_56 : decode prog_13_method_14_code 56 = .ok (.iastore, 1) ∧ lnkB 11 false 56 (.iastore, 1, 0, 0, 0, 0) = true := by decide +kernel
theorem ca_90_64 : decode prog_13_method_14_code 64 = .ok (.iastore, 1) ∧ lnkB 11 false 64 (.iastore, 1, 0, 0, 0, 0) = true := by decide +kernel
theorem ca_90_75 : decode prog_13_method_14_code 75 = .ok (.iaload, 1) ∧ lnkB 11 false 75 (.iaload, 1, 0, 0, 0, 0) = true := by decide +kernel
theorem ck_90_77 : decode prog_13_method_14_code 77 = .ok (.if_icmp .le 7, 3) ∧ lnkB 11 false 77 (.if_icmp .le 7, 3, 84, 0, 0, 0) = true := by decide +kernel
theorem ck_90_81 : decode prog_13_method_14_code 81 = .ok (.goto 9, 3) ∧ lnkB 11 false 81 (.goto 9, 3, 90, 0, 0, 0) = true := by decide +kernel
theorem ca_90_89 : decode prog_13_method_14_code 89 = .ok (.iaload, 1) ∧ lnkB 11 false 89 (.iaload, 1, 0, 0, 0, 0) = true := by decide +kernel
theorem ca_90_90 : decode prog_13_method_14_code 90 = .ok (.iastore, 1) ∧ lnkB 11 false 90 (.iastore, 1, 0, 0, 0, 0) = true := by decide +kernel
theorem ck_90_92 : decode prog_13_method_14_code 92 = .ok (.ireturn, 1) ∧ lnkB 11 false 92 (.ireturn, 1, 0, 0, 0, 0) = true := by decide +kernel
abbrev RU_90 (d : Nat) (cp : Nat × Nat) (Post : Option Value → Sto → Prop) : PP := Runs (Ex d) prog_13_method_14_code 11 false 5 (some .boolean) none cp Post
theorem en_90 {d : Nat} {As : List Value} {S : Sto} {mc ms : Nat} {Post : Option Value → Sto → Prop} (hc : cats As ≤ 5) (h : RU_90 d (mc, ms) Post 0 (lv_args 0 As) [] S 0 0) : Ex (d + 1) 90 As S mc ms Post := ⟨by decide, hc, h⟩
def sg_91_0 : List RI := [(.iload_n 1, 1, 0, 0, 0, 0), (.iconst 1, 1, 0, 0, 0, 1), (.sipush 1000, 3, 0, 0, 0, 1000)]
theorem sk_91_0 : segB 11 false prog_13_method_16_code 0 sg_91_0 = true := by decide +kernel
def sg_91_11 : List RI := [(.aload_n 0, 1, 0, 0, 0, 0), (.getfield 176, 3, 11, 1, 0, 0), (.iload_n 1, 1, 0, 0, 0, 0), (.iadd, 1, 0, 0, 0, 0), (.ldc 169, 2, 0, 0, 0, 100000)]
theorem sk_91_11 : segB 11 false prog_13_method_16_code 11 sg_91_11 = true := by decide +kernel
def sg_91_22 : List RI := [(.iconst (-1), 1, 0, 0, 0, -1)]
theorem sk_91_22 : segB 11 false prog_13_method_16_code 22 sg_91_22 = true := by decide +kernel
def sg_91_24 : List RI := [(.aload_n 0, 1, 0, 0, 0, 0), (.iload_n 1, 1, 0, 0, 0, 0)]
theorem sk_91_24 : segB 11 false prog_13_method_16_code 24 sg_91_24 = true := by decide +kernel
def sg_91_29 : List RI := [(.aload_n 0, 1, 0, 0, 0, 0), (.getfield 176, 3, 11, 1, 0, 0)]
theorem sk_91_29 : segB 11 false prog_13_method_16_code 29 sg_91_29 = true := by decide +kernel
theorem ck_91_5 : decode prog_13_method_16_code 5 = .ok (.invokestatic 162, 3) ∧ lnkB 11 false 5 (.invokestatic 162, 3, 81, 0, 0, 0) = true := by decide +kernel
theorem ck_91_8 : decode prog_13_method_16_code 8 = .ok (.ifCond .eq 14, 3) ∧ lnkB 11 false 8 (.ifCond .eq 14, 3, 22, 0, 0, 0) = true := by decide +kernel
theorem ck_91_19 : decode prog_13_method_16_code 19 = .ok (.if_icmp .le 5, 3) ∧ lnkB 11 false 19 (.if_icmp .le 5, 3, 24, 0, 0, 0) = true := by decide +kernel
theorem ck_91_23 : decode prog_13_method_16_code 23 = .ok (.ireturn, 1) ∧ lnkB 11 false 23 (.ireturn, 1, 0, 0, 0, 0) = true := by decide +kernel
theorem ck_91_26 : decode prog_13_method_16_code 26 = .ok (.invokevirtual 179, 3) ∧ lnkB 11 false 26 (.invokevirtual 179, 3, 92, 0, 0, 0) = true := by decide +kernel
theorem ck_91_33 : decode prog_13_method_16_code 33 = .ok (.ireturn, 1) ∧ lnkB 11 false 33 (.ireturn, 1, 0, 0, 0, 0) = true := by decide +kernel
abbrev RU_91 (d : Nat) (cp : Nat × Nat) (Post : Option Value → Sto → Prop) : PP := Runs (Ex d) prog_13_method_16_code 11 false 2 (some .int) none cp Post
theorem en_91 {d : Nat} {As : List Value} {S : Sto} {mc ms : Nat} {Post : Option Value → Sto → Prop} (hc : cats As ≤ 2) (h : RU_91 d (mc, ms) Post 0 (lv_args 0 As) [] S 0 0) : Ex (d + 1) 91 As S mc ms Post := ⟨by decide, hc, h⟩
def sg_92_0 : List RI := [(.aload_n 0, 1, 0, 0, 0, 0), (.dup, 1, 0, 0, 0, 0), (.getfield 176, 3, 11, 1, 0, 0), (.iload_n 1, 1, 0, 0, 0, 0), (.iadd, 1, 0, 0, 0, 0), (.putfield 176, 3, 11, 1, 0, 0), (.iconst 0, 1, 0, 0, 0, 0), (.istore_n 2, 1, 0, 0, 0, 0)]
theorem sk_92_0 : segB 11 false prog_13_method_15_code 0 sg_92_0 = true := by decide +kernel
def sg_92_12 : List RI := [(.iload_n 2, 1, 0, 0, 0, 0), (.iconst 4, 1, 0, 0, 0, 4)]
theorem sk_92_12 : segB 11 false prog_13_method_15_code 12 sg_92_12 = true := by decide +kernel
def sg_92_17 : List RI := [(.aload_n 0, 1, 0, 0, 0, 0), (.getfield 92, 3, 11, 30, 2, 0), (.iload_n 2, 1, 0, 0, 0, 0)]
theorem sk_92_17 : segB 11 false prog_13_method_15_code 17 sg_92_17 = true := by decide +kernel
def sg_92_23 : List RI := [(.i2l, 1, 0, 0, 0, 0), (.iload_n 1, 1, 0, 0, 0, 0), (.i2l, 1, 0, 0, 0, 0), (.aload_n 0, 1, 0, 0, 0, 0), (.getfield 89, 3, 11, 29, 2, 0), (.iload_n 2, 1, 0, 0, 0, 0)]
theorem sk_92_23 : segB 11 false prog_13_method_15_code 23 sg_92_23 = true := by decide +kernel
def sg_92_32 : List RI := [(.i2l, 1, 0, 0, 0, 0), (.lmul, 1, 0, 0, 0, 0), (.ladd, 1, 0, 0, 0, 0), (.lstore_n 3, 1, 0, 0, 0, 0), (.aload_n 0, 1, 0, 0, 0, 0), (.getfield 92, 3, 11, 30, 2, 0), (.iload_n 2, 1, 0, 0, 0, 0), (.lload_n 3, 1, 0, 0, 0, 0), (.aload_n 0, 1, 0, 0, 0, 0), (.getfield 86, 3, 11, 28, 2, 0), (.iload_n 2, 1, 0, 0, 0, 0)]
theorem sk_92_32 : segB 11 false prog_13_method_15_code 32 sg_92_32 = true := by decide +kernel
def sg_92_48 : List RI := [(.i2l, 1, 0, 0, 0, 0), (.lcmp, 1, 0, 0, 0, 0)]
theorem sk_92_48 : segB 11 false prog_13_method_15_code 48 sg_92_48 = true := by decide +kernel
def sg_92_53 : List RI := [(.aload_n 0, 1, 0, 0, 0, 0), (.getfield 86, 3, 11, 28, 2, 0), (.iload_n 2, 1, 0, 0, 0, 0)]
theorem sk_92_53 : segB 11 false prog_13_method_15_code 53 sg_92_53 = true := by decide +kernel
def sg_92_62 : List RI := [(.lload_n 3, 1, 0, 0, 0, 0), (.l2i, 1, 0, 0, 0, 0)]
theorem sk_92_62 : segB 11 false prog_13_method_15_code 62 sg_92_62 = true := by decide +kernel
def sg_92_65 : List RI := [(.iinc 2 1, 3, 0, 0, 0, 1)]
theorem sk_92_65 : segB 11 false prog_13_method_15_code 65 sg_92_65 = true := by decide +kernel
theorem ck_92_14 : decode prog_13_method_15_code 14 = .ok (.if_icmp .ge 57, 3) ∧ lnkB 11 false 14 (.if_icmp .ge 57, 3, 71, 0, 0, 0) = true := by decide +kernel
theorem ca_92_22 : decode prog_13_method_15_code 22 = .ok (.iaload, 1) ∧ lnkB 11 false 22 (.iaload, 1, 0, 0, 0, 0) = true := by decide +kernel
theorem ca_92_31 : decode prog_13_method_15_code 31 = .ok (.iaload, 1) ∧ lnkB 11 false 31 (.iaload, 1, 0, 0, 0, 0) = true := by decide +kernel
theorem ca_92_47 : decode prog_13_method_15_code 47 = .ok (.iaload, 1) ∧ lnkB 11 false 47 (.iaload, 1, 0, 0, 0, 0) = true := by decide +kernel
theorem ck_92_50 : decode prog_13_method_15_code 50 = .ok (.ifCond .le 12, 3) ∧ lnkB 11 false 50 (.ifCond .le 12, 3, 62, 0, 0, 0) = true := by decide +kernel
theorem ca_92_58 : decode prog_13_method_15_code 58 = .ok (.iaload, 1) ∧ lnkB 11 false 58 (.iaload, 1, 0, 0, 0, 0) = true := by decide +kernel
theorem ck_92_59 : decode prog_13_method_15_code 59 = .ok (.goto 5, 3) ∧ lnkB 11 false 59 (.goto 5, 3, 64, 0, 0, 0) = true := by decide +kernel
theorem ca_92_64 : decode prog_13_method_15_code 64 = .ok (.iastore, 1) ∧ lnkB 11 false 64 (.iastore, 1, 0, 0, 0, 0) = true := by decide +kernel
theorem ck_92_68 : decode prog_13_method_15_code 68 = .ok (.goto (-56), 3) ∧ lnkB 11 false 68 (.goto (-56), 3, 12, 0, 0, 0) = true := by decide +kernel
theorem ck_92_71 : decode prog_13_method_15_code 71 = .ok (.return_, 1) ∧ lnkB 11 false 71 (.return_, 1, 0, 0, 0, 0) = true := by decide +kernel
abbrev RU_92 (d : Nat) (cp : Nat × Nat) (Post : Option Value → Sto → Prop) : PP := Runs (Ex d) prog_13_method_15_code 11 false 5 none none cp Post
theorem en_92 {d : Nat} {As : List Value} {S : Sto} {mc ms : Nat} {Post : Option Value → Sto → Prop} (hc : cats As ≤ 5) (h : RU_92 d (mc, ms) Post 0 (lv_args 0 As) [] S 0 0) : Ex (d + 1) 92 As S mc ms Post := ⟨by decide, hc, h⟩
def sg_93_0 : List RI := [(.aload_n 0, 1, 0, 0, 0, 0), (.getfield 183, 3, 11, 32, 0, 0), (.bipush 20, 2, 0, 0, 0, 20), (.iadd, 1, 0, 0, 0, 0), (.sipush 200, 3, 0, 0, 0, 200)]
theorem sk_93_0 : segB 11 false prog_13_method_17_code 0 sg_93_0 = true := by decide +kernel
def sg_93_13 : List RI := [(.iconst (-1), 1, 0, 0, 0, -1)]
theorem sk_93_13 : segB 11 false prog_13_method_17_code 13 sg_93_13 = true := by decide +kernel
def sg_93_15 : List RI := [(.aload_n 0, 1, 0, 0, 0, 0), (.iload_n 1, 1, 0, 0, 0, 0)]
theorem sk_93_15 : segB 11 false prog_13_method_17_code 15 sg_93_15 = true := by decide +kernel
def sg_93_20 : List RI := [(.aload_n 0, 1, 0, 0, 0, 0), (.iload_n 2, 1, 0, 0, 0, 0)]
theorem sk_93_20 : segB 11 false prog_13_method_17_code 20 sg_93_20 = true := by decide +kernel
def sg_93_25 : List RI := [(.aload_n 0, 1, 0, 0, 0, 0), (.iload_n 3, 1, 0, 0, 0, 0)]
theorem sk_93_25 : segB 11 false prog_13_method_17_code 25 sg_93_25 = true := by decide +kernel
def sg_93_30 : List RI := [(.aload_n 0, 1, 0, 0, 0, 0), (.iload 4, 2, 0, 0, 0, 0)]
theorem sk_93_30 : segB 11 false prog_13_method_17_code 30 sg_93_30 = true := by decide +kernel
def sg_93_36 : List RI := [(.aload_n 0, 1, 0, 0, 0, 0), (.iload 5, 2, 0, 0, 0, 0)]
theorem sk_93_36 : segB 11 false prog_13_method_17_code 36 sg_93_36 = true := by decide +kernel
def sg_93_42 : List RI := [(.aload_n 0, 1, 0, 0, 0, 0), (.getfield 183, 3, 11, 32, 0, 0)]
theorem sk_93_42 : segB 11 false prog_13_method_17_code 42 sg_93_42 = true := by decide +kernel
theorem ck_93_10 : decode prog_13_method_17_code 10 = .ok (.if_icmp .le 5, 3) ∧ lnkB 11 false 10 (.if_icmp .le 5, 3, 15, 0, 0, 0) = true := by decide +kernel
theorem ck_93_14 : decode prog_13_method_17_code 14 = .ok (.ireturn, 1) ∧ lnkB 11 false 14 (.ireturn, 1, 0, 0, 0, 0) = true := by decide +kernel
theorem ck_93_17 : decode prog_13_method_17_code 17 = .ok (.invokevirtual 186, 3) ∧ lnkB 11 false 17 (.invokevirtual 186, 3, 94, 0, 0, 0) = true := by decide +kernel
theorem ck_93_22 : decode prog_13_method_17_code 22 = .ok (.invokevirtual 186, 3) ∧ lnkB 11 false 22 (.invokevirtual 186, 3, 94, 0, 0, 0) = true := by decide +kernel
theorem ck_93_27 : decode prog_13_method_17_code 27 = .ok (.invokevirtual 186, 3) ∧ lnkB 11 false 27 (.invokevirtual 186, 3, 94, 0, 0, 0) = true := by decide +kernel
theorem ck_93_33 : decode prog_13_method_17_code 33 = .ok (.invokevirtual 186, 3) ∧ lnkB 11 false 33 (.invokevirtual 186, 3, 94, 0, 0, 0) = true := by decide +kernel
theorem ck_93_39 : decode prog_13_method_17_code 39 = .ok (.invokevirtual 186, 3) ∧ lnkB 11 false 39 (.invokevirtual 186, 3, 94, 0, 0, 0) = true := by decide +kernel
theorem ck_93_46 : decode prog_13_method_17_code 46 = .ok (.ireturn, 1) ∧ lnkB 11 false 46 (.ireturn, 1, 0, 0, 0, 0) = true := by decide +kernel
abbrev RU_93 (d : Nat) (cp : Nat × Nat) (Post : Option Value → Sto → Prop) : PP := Runs (Ex d) prog_13_method_17_code 11 false 6 (some .int) none cp Post
theorem en_93 {d : Nat} {As : List Value} {S : Sto} {mc ms : Nat} {Post : Option Value → Sto → Prop} (hc : cats As ≤ 6) (h : RU_93 d (mc, ms) Post 0 (lv_args 0 As) [] S 0 0) : Ex (d + 1) 93 As S mc ms Post := ⟨by decide, hc, h⟩
def sg_94_0 : List RI := [(.bipush 24, 2, 0, 0, 0, 24), (.istore_n 2, 1, 0, 0, 0, 0)]
theorem sk_94_0 : segB 11 false prog_13_method_18_code 0 sg_94_0 = true := by decide +kernel
def sg_94_3 : List RI := [(.iload_n 2, 1, 0, 0, 0, 0)]
theorem sk_94_3 : segB 11 false prog_13_method_18_code 3 sg_94_3 = true := by decide +kernel
def sg_94_7 : List RI := [(.aload_n 0, 1, 0, 0, 0, 0), (.getfield 95, 3, 11, 31, 2, 0), (.aload_n 0, 1, 0, 0, 0, 0), (.getfield 183, 3, 11, 32, 0, 0), (.iload_n 1, 1, 0, 0, 0, 0), (.iload_n 2, 1, 0, 0, 0, 0), (.ishr, 1, 0, 0, 0, 0), (.i2b, 1, 0, 0, 0, 0)]
theorem sk_94_7 : segB 11 false prog_13_method_18_code 7 sg_94_7 = true := by decide +kernel
def sg_94_20 : List RI := [(.aload_n 0, 1, 0, 0, 0, 0), (.dup, 1, 0, 0, 0, 0), (.getfield 183, 3, 11, 32, 0, 0), (.iconst 1, 1, 0, 0, 0, 1), (.iadd, 1, 0, 0, 0, 0), (.putfield 183, 3, 11, 32, 0, 0), (.iinc 2 (-8), 3, 0, 0, 0, -8)]
theorem sk_94_20 : segB 11 false prog_13_method_18_code 20 sg_94_20 = true := by decide +kernel
theorem ck_94_4 : decode prog_13_method_18_code 4 = .ok (.ifCond .lt 32, 3) ∧ lnkB 11 false 4 (.ifCond .lt 32, 3, 36, 0, 0, 0) = true := by decide +kernel
theorem ca_94_19 : decode prog_13_method_18_code 19 = .ok (.bastore, 1) ∧ lnkB 11 false 19 (.bastore, 1, 12, 0, 0, 0) = true := by decide +kernel
theorem ck_94_33 : decode prog_13_method_18_code 33 = .ok (.goto (-30), 3) ∧ lnkB 11 false 33 (.goto (-30), 3, 3, 0, 0, 0) = true := by decide +kernel
theorem ck_94_36 : decode prog_13_method_18_code 36 = .ok (.return_, 1) ∧ lnkB 11 false 36 (.return_, 1, 0, 0, 0, 0) = true := by decide +kernel
abbrev RU_94 (d : Nat) (cp : Nat × Nat) (Post : Option Value → Sto → Prop) : PP := Runs (Ex d) prog_13_method_18_code 11 false 3 none none cp Post
theorem en_94 {d : Nat} {As : List Value} {S : Sto} {mc ms : Nat} {Post : Option Value → Sto → Prop} (hc : cats As ≤ 3) (h : RU_94 d (mc, ms) Post 0 (lv_args 0 As) [] S 0 0) : Ex (d + 1) 94 As S mc ms Post := ⟨by decide, hc, h⟩
def sg_95_0 : List RI := [(.iload_n 1, 1, 0, 0, 0, 0)]
theorem sk_95_0 : segB 11 false prog_13_method_19_code 0 sg_95_0 = true := by decide +kernel
def sg_95_4 : List RI := [(.iload_n 1, 1, 0, 0, 0, 0), (.aload_n 0, 1, 0, 0, 0, 0), (.getfield 183, 3, 11, 32, 0, 0)]
theorem sk_95_4 : segB 11 false prog_13_method_19_code 4 sg_95_4 = true := by decide +kernel
def sg_95_12 : List RI := [(.iconst (-1), 1, 0, 0, 0, -1)]
theorem sk_95_12 : segB 11 false prog_13_method_19_code 12 sg_95_12 = true := by decide +kernel
def sg_95_14 : List RI := [(.aload_n 0, 1, 0, 0, 0, 0), (.iload_n 1, 1, 0, 0, 0, 0), (.putfield 183, 3, 11, 32, 0, 0), (.iload_n 1, 1, 0, 0, 0, 0)]
theorem sk_95_14 : segB 11 false prog_13_method_19_code 14 sg_95_14 = true := by decide +kernel
theorem ck_95_1 : decode prog_13_method_19_code 1 = .ok (.ifCond .lt 11, 3) ∧ lnkB 11 false 1 (.ifCond .lt 11, 3, 12, 0, 0, 0) = true := by decide +kernel
theorem ck_95_9 : decode prog_13_method_19_code 9 = .ok (.if_icmp .le 5, 3) ∧ lnkB 11 false 9 (.if_icmp .le 5, 3, 14, 0, 0, 0) = true := by decide +kernel
theorem ck_95_13 : decode prog_13_method_19_code 13 = .ok (.ireturn, 1) ∧ lnkB 11 false 13 (.ireturn, 1, 0, 0, 0, 0) = true := by decide +kernel
theorem ck_95_20 : decode prog_13_method_19_code 20 = .ok (.ireturn, 1) ∧ lnkB 11 false 20 (.ireturn, 1, 0, 0, 0, 0) = true := by decide +kernel
abbrev RU_95 (d : Nat) (cp : Nat × Nat) (Post : Option Value → Sto → Prop) : PP := Runs (Ex d) prog_13_method_19_code 11 false 2 (some .int) none cp Post
theorem en_95 {d : Nat} {As : List Value} {S : Sto} {mc ms : Nat} {Post : Option Value → Sto → Prop} (hc : cats As ≤ 2) (h : RU_95 d (mc, ms) Post 0 (lv_args 0 As) [] S 0 0) : Ex (d + 1) 95 As S mc ms Post := ⟨by decide, hc, h⟩
def sg_96_0 : List RI := [(.iload_n 1, 1, 0, 0, 0, 0), (.iconst 0, 1, 0, 0, 0, 0), (.iconst 5, 1, 0, 0, 0, 5)]
theorem sk_96_0 : segB 11 false prog_13_method_25_code 0 sg_96_0 = true := by decide +kernel
def sg_96_9 : List RI := [(.iconst (-1), 1, 0, 0, 0, -1)]
theorem sk_96_9 : segB 11 false prog_13_method_25_code 9 sg_96_9 = true := by decide +kernel
def sg_96_11 : List RI := [(.aload_n 0, 1, 0, 0, 0, 0), (.iload_n 1, 1, 0, 0, 0, 0)]
theorem sk_96_11 : segB 11 false prog_13_method_25_code 11 sg_96_11 = true := by decide +kernel
def sg_96_16 : List RI := [(.aload_n 0, 1, 0, 0, 0, 0), (.getfield 192, 3, 11, 34, 0, 0)]
theorem sk_96_16 : segB 11 false prog_13_method_25_code 16 sg_96_16 = true := by decide +kernel
def sg_96_23 : List RI := [(.bipush (-2), 2, 0, 0, 0, -2), (.aload_n 0, 1, 0, 0, 0, 0), (.getfield 192, 3, 11, 34, 0, 0), (.isub, 1, 0, 0, 0, 0)]
theorem sk_96_23 : segB 11 false prog_13_method_25_code 23 sg_96_23 = true := by decide +kernel
def sg_96_31 : List RI := [(.aload_n 0, 1, 0, 0, 0, 0), (.lconst 0, 1, 0, 0, 0, 0)]
theorem sk_96_31 : segB 11 false prog_13_method_25_code 31 sg_96_31 = true := by decide +kernel
def sg_96_36 : List RI := [(.pop, 1, 0, 0, 0, 0), (.aload_n 0, 1, 0, 0, 0, 0), (.getfield 209, 3, 11, 43, 1, 0), (.ldc2_w 220, 3, 0, 0, 0, 2000000000), (.lcmp, 1, 0, 0, 0, 0)]
theorem sk_96_36 : segB 11 false prog_13_method_25_code 36 sg_96_36 = true := by decide +kernel
def sg_96_48 : List RI := [(.ldc 222, 2, 0, 0, 0, 2000000000)]
theorem sk_96_48 : segB 11 false prog_13_method_25_code 48 sg_96_48 = true := by decide +kernel
def sg_96_53 : List RI := [(.aload_n 0, 1, 0, 0, 0, 0), (.getfield 209, 3, 11, 43, 1, 0), (.l2i, 1, 0, 0, 0, 0)]
theorem sk_96_53 : segB 11 false prog_13_method_25_code 53 sg_96_53 = true := by decide +kernel
theorem ck_96_3 : decode prog_13_method_25_code 3 = .ok (.invokestatic 162, 3) ∧ lnkB 11 false 3 (.invokestatic 162, 3, 81, 0, 0, 0) = true := by decide +kernel
theorem ck_96_6 : decode prog_13_method_25_code 6 = .ok (.ifCond .ne 5, 3) ∧ lnkB 11 false 6 (.ifCond .ne 5, 3, 11, 0, 0, 0) = true := by decide +kernel
theorem ck_96_10 : decode prog_13_method_25_code 10 = .ok (.ireturn, 1) ∧ lnkB 11 false 10 (.ireturn, 1, 0, 0, 0, 0) = true := by decide +kernel
theorem ck_96_13 : decode prog_13_method_25_code 13 = .ok (.invokevirtual 213, 3) ∧ lnkB 11 false 13 (.invokevirtual 213, 3, 97, 0, 0, 0) = true := by decide +kernel
theorem ck_96_20 : decode prog_13_method_25_code 20 = .ok (.ifCond .le 11, 3) ∧ lnkB 11 false 20 (.ifCond .le 11, 3, 31, 0, 0, 0) = true := by decide +kernel
theorem ck_96_30 : decode prog_13_method_25_code 30 = .ok (.ireturn, 1) ∧ lnkB 11 false 30 (.ireturn, 1, 0, 0, 0, 0) = true := by decide +kernel
theorem ck_96_33 : decode prog_13_method_25_code 33 = .ok (.invokevirtual 216, 3) ∧ lnkB 11 false 33 (.invokevirtual 216, 3, 101, 0, 0, 0) = true := by decide +kernel
theorem ck_96_45 : decode prog_13_method_25_code 45 = .ok (.ifCond .le 8, 3) ∧ lnkB 11 false 45 (.ifCond .le 8, 3, 53, 0, 0, 0) = true := by decide +kernel
theorem ck_96_50 : decode prog_13_method_25_code 50 = .ok (.goto 8, 3) ∧ lnkB 11 false 50 (.goto 8, 3, 58, 0, 0, 0) = true := by decide +kernel
theorem ck_96_58 : decode prog_13_method_25_code 58 = .ok (.ireturn, 1) ∧ lnkB 11 false 58 (.ireturn, 1, 0, 0, 0, 0) = true := by decide +kernel
abbrev RU_96 (d : Nat) (cp : Nat × Nat) (Post : Option Value → Sto → Prop) : PP := Runs (Ex d) prog_13_method_25_code 11 false 2 (some .int) none cp Post
theorem en_96 {d : Nat} {As : List Value} {S : Sto} {mc ms : Nat} {Post : Option Value → Sto → Prop} (hc : cats As ≤ 2) (h : RU_96 d (mc, ms) Post 0 (lv_args 0 As) [] S 0 0) : Ex (d + 1) 96 As S mc ms Post := ⟨by decide, hc, h⟩
def sg_97_0 : List RI := [(.aload_n 0, 1, 0, 0, 0, 0), (.iconst 0, 1, 0, 0, 0, 0), (.putfield 189, 3, 11, 33, 0, 0), (.aload_n 0, 1, 0, 0, 0, 0), (.iconst 0, 1, 0, 0, 0, 0), (.putfield 192, 3, 11, 34, 0, 0), (.aload_n 0, 1, 0, 0, 0, 0), (.iconst 0, 1, 0, 0, 0, 0), (.putfield 195, 3, 11, 35, 0, 0), (.aload_n 0, 1, 0, 0, 0, 0)]
theorem sk_97_0 : segB 11 false prog_13_method_23_code 0 sg_97_0 = true := by decide +kernel
def sg_97_19 : List RI := [(.bipush 123, 2, 0, 0, 0, 123)]
theorem sk_97_19 : segB 11 false prog_13_method_23_code 19 sg_97_19 = true := by decide +kernel
def sg_97_24 : List RI := [(.aload_n 0, 1, 0, 0, 0, 0), (.iconst 0, 1, 0, 0, 0, 0), (.aload_n 0, 1, 0, 0, 0, 0), (.getfield 189, 3, 11, 33, 0, 0)]
theorem sk_97_24 : segB 11 false prog_13_method_23_code 24 sg_97_24 = true := by decide +kernel
def sg_97_34 : List RI := [(.aload_n 0, 1, 0, 0, 0, 0), (.iload_n 1, 1, 0, 0, 0, 0), (.lconst 1, 1, 0, 0, 0, 1), (.iconst 0, 1, 0, 0, 0, 0)]
theorem sk_97_34 : segB 11 false prog_13_method_23_code 34 sg_97_34 = true := by decide +kernel
def sg_97_41 : List RI := [(.iconst 1, 1, 0, 0, 0, 1), (.istore_n 2, 1, 0, 0, 0, 0)]
theorem sk_97_41 : segB 11 false prog_13_method_23_code 41 sg_97_41 = true := by decide +kernel
def sg_97_43 : List RI := [(.aload_n 0, 1, 0, 0, 0, 0), (.getfield 192, 3, 11, 34, 0, 0)]
theorem sk_97_43 : segB 11 false prog_13_method_23_code 43 sg_97_43 = true := by decide +kernel
def sg_97_50 : List RI := [(.iload_n 2, 1, 0, 0, 0, 0)]
theorem sk_97_50 : segB 11 false prog_13_method_23_code 50 sg_97_50 = true := by decide +kernel
def sg_97_54 : List RI := [(.aload_n 0, 1, 0, 0, 0, 0), (.getfield 118, 3, 11, 42, 2, 0), (.iload_n 2, 1, 0, 0, 0, 0), (.iconst 1, 1, 0, 0, 0, 1), (.isub, 1, 0, 0, 0, 0)]
theorem sk_97_54 : segB 11 false prog_13_method_23_code 54 sg_97_54 = true := by decide +kernel
def sg_97_62 : List RI := [(.istore_n 3, 1, 0, 0, 0, 0), (.aload_n 0, 1, 0, 0, 0, 0)]
theorem sk_97_62 : segB 11 false prog_13_method_23_code 62 sg_97_62 = true := by decide +kernel
def sg_97_67 : List RI := [(.istore 4, 2, 0, 0, 0, 0), (.iload 4, 2, 0, 0, 0, 0), (.bipush 125, 2, 0, 0, 0, 125)]
theorem sk_97_67 : segB 11 false prog_13_method_23_code 67 sg_97_67 = true := by decide +kernel
def sg_97_76 : List RI := [(.aload_n 0, 1, 0, 0, 0, 0), (.getfield 105, 3, 11, 38, 2, 0), (.iload_n 3, 1, 0, 0, 0, 0)]
theorem sk_97_76 : segB 11 false prog_13_method_23_code 76 sg_97_76 = true := by decide +kernel
def sg_97_85 : List RI := [(.iinc 2 (-1), 3, 0, 0, 0, -1), (.aload_n 0, 1, 0, 0, 0, 0), (.dup, 1, 0, 0, 0, 0), (.getfield 189, 3, 11, 33, 0, 0), (.iconst 1, 1, 0, 0, 0, 1), (.iadd, 1, 0, 0, 0, 0), (.putfield 189, 3, 11, 33, 0, 0)]
theorem sk_97_85 : segB 11 false prog_13_method_23_code 85 sg_97_85 = true := by decide +kernel
def sg_97_101 : List RI := [(.iload 4, 2, 0, 0, 0, 0), (.bipush 48, 2, 0, 0, 0, 48)]
theorem sk_97_101 : segB 11 false prog_13_method_23_code 101 sg_97_101 = true := by decide +kernel
def sg_97_108 : List RI := [(.iload 4, 2, 0, 0, 0, 0), (.bipush 51, 2, 0, 0, 0, 51)]
theorem sk_97_108 : segB 11 false prog_13_method_23_code 108 sg_97_108 = true := by decide +kernel
def sg_97_115 : List RI := [(.aload_n 0, 1, 0, 0, 0, 0), (.iconst 0, 1, 0, 0, 0, 0), (.aload_n 0, 1, 0, 0, 0, 0), (.getfield 189, 3, 11, 33, 0, 0)]
theorem sk_97_115 : segB 11 false prog_13_method_23_code 115 sg_97_115 = true := by decide +kernel
def sg_97_127 : List RI := [(.aload_n 0, 1, 0, 0, 0, 0), (.getfield 105, 3, 11, 38, 2, 0), (.iload_n 3, 1, 0, 0, 0, 0)]
theorem sk_97_127 : segB 11 false prog_13_method_23_code 127 sg_97_127 = true := by decide +kernel
def sg_97_133 : List RI := [(.bipush 6, 2, 0, 0, 0, 6)]
theorem sk_97_133 : segB 11 false prog_13_method_23_code 133 sg_97_133 = true := by decide +kernel
def sg_97_138 : List RI := [(.aload_n 0, 1, 0, 0, 0, 0), (.iconst 2, 1, 0, 0, 0, 2), (.aload_n 0, 1, 0, 0, 0, 0), (.getfield 189, 3, 11, 33, 0, 0)]
theorem sk_97_138 : segB 11 false prog_13_method_23_code 138 sg_97_138 = true := by decide +kernel
def sg_97_150 : List RI := [(.iconst 4, 1, 0, 0, 0, 4), (.aload_n 0, 1, 0, 0, 0, 0), (.getfield 99, 3, 11, 36, 2, 0), (.iload_n 3, 1, 0, 0, 0, 0)]
theorem sk_97_150 : segB 11 false prog_13_method_23_code 150 sg_97_150 = true := by decide +kernel
def sg_97_157 : List RI := [(.imul, 1, 0, 0, 0, 0), (.iload 4, 2, 0, 0, 0, 0), (.iadd, 1, 0, 0, 0, 0), (.bipush 48, 2, 0, 0, 0, 48), (.isub, 1, 0, 0, 0, 0), (.istore 5, 2, 0, 0, 0, 0), (.bipush 6, 2, 0, 0, 0, 6), (.iload_n 3, 1, 0, 0, 0, 0), (.imul, 1, 0, 0, 0, 0), (.aload_n 0, 1, 0, 0, 0, 0), (.getfield 105, 3, 11, 38, 2, 0), (.iload_n 3, 1, 0, 0, 0, 0)]
theorem sk_97_157 : segB 11 false prog_13_method_23_code 157 sg_97_157 = true := by decide +kernel
def sg_97_176 : List RI := [(.iadd, 1, 0, 0, 0, 0), (.istore 6, 2, 0, 0, 0, 0), (.aload_n 0, 1, 0, 0, 0, 0), (.getfield 108, 3, 11, 39, 2, 0), (.iload 6, 2, 0, 0, 0, 0), (.iload 4, 2, 0, 0, 0, 0), (.bipush 48, 2, 0, 0, 0, 48), (.isub, 1, 0, 0, 0, 0)]
theorem sk_97_176 : segB 11 false prog_13_method_23_code 176 sg_97_176 = true := by decide +kernel
def sg_97_191 : List RI := [(.aload_n 0, 1, 0, 0, 0, 0), (.getfield 111, 3, 11, 40, 2, 0), (.iload 6, 2, 0, 0, 0, 0), (.iconst (-1), 1, 0, 0, 0, -1)]
theorem sk_97_191 : segB 11 false prog_13_method_23_code 191 sg_97_191 = true := by decide +kernel
def sg_97_199 : List RI := [(.aload_n 0, 1, 0, 0, 0, 0), (.getfield 105, 3, 11, 38, 2, 0), (.iload_n 3, 1, 0, 0, 0, 0), (.dup2, 1, 0, 0, 0, 0)]
theorem sk_97_199 : segB 11 false prog_13_method_23_code 199 sg_97_199 = true := by decide +kernel
def sg_97_206 : List RI := [(.iconst 1, 1, 0, 0, 0, 1), (.iadd, 1, 0, 0, 0, 0)]
theorem sk_97_206 : segB 11 false prog_13_method_23_code 206 sg_97_206 = true := by decide +kernel
def sg_97_209 : List RI := [(.aload_n 0, 1, 0, 0, 0, 0), (.dup, 1, 0, 0, 0, 0), (.getfield 189, 3, 11, 33, 0, 0), (.iconst 1, 1, 0, 0, 0, 1), (.iadd, 1, 0, 0, 0, 0), (.putfield 189, 3, 11, 33, 0, 0), (.aload_n 0, 1, 0, 0, 0, 0), (.getfield 52, 3, 11, 17, 2, 0), (.iload 5, 2, 0, 0, 0, 0)]
theorem sk_97_209 : segB 11 false prog_13_method_23_code 209 sg_97_209 = true := by decide +kernel
def sg_97_229 : List RI := [(.aload_n 0, 1, 0, 0, 0, 0)]
theorem sk_97_229 : segB 11 false prog_13_method_23_code 229 sg_97_229 = true := by decide +kernel
def sg_97_233 : List RI := [(.bipush 123, 2, 0, 0, 0, 123)]
theorem sk_97_233 : segB 11 false prog_13_method_23_code 233 sg_97_233 = true := by decide +kernel
def sg_97_238 : List RI := [(.aload_n 0, 1, 0, 0, 0, 0), (.iconst 0, 1, 0, 0, 0, 0), (.aload_n 0, 1, 0, 0, 0, 0), (.getfield 189, 3, 11, 33, 0, 0)]
theorem sk_97_238 : segB 11 false prog_13_method_23_code 238 sg_97_238 = true := by decide +kernel
def sg_97_250 : List RI := [(.aload_n 0, 1, 0, 0, 0, 0), (.getfield 111, 3, 11, 40, 2, 0), (.iload 6, 2, 0, 0, 0, 0), (.aload_n 0, 1, 0, 0, 0, 0), (.getfield 195, 3, 11, 35, 0, 0)]
theorem sk_97_250 : segB 11 false prog_13_method_23_code 250 sg_97_250 = true := by decide +kernel
def sg_97_261 : List RI := [(.aload_n 0, 1, 0, 0, 0, 0), (.aload_n 0, 1, 0, 0, 0, 0), (.getfield 55, 3, 11, 18, 2, 0), (.iload 5, 2, 0, 0, 0, 0)]
theorem sk_97_261 : segB 11 false prog_13_method_23_code 261 sg_97_261 = true := by decide +kernel
def sg_97_269 : List RI := [(.aload_n 0, 1, 0, 0, 0, 0), (.getfield 114, 3, 11, 41, 2, 0), (.iload_n 3, 1, 0, 0, 0, 0)]
theorem sk_97_269 : segB 11 false prog_13_method_23_code 269 sg_97_269 = true := by decide +kernel
def sg_97_275 : List RI := [(.aload_n 0, 1, 0, 0, 0, 0), (.getfield 52, 3, 11, 17, 2, 0), (.iload 5, 2, 0, 0, 0, 0)]
theorem sk_97_275 : segB 11 false prog_13_method_23_code 275 sg_97_275 = true := by decide +kernel
def sg_97_282 : List RI := [(.iconst 2, 1, 0, 0, 0, 2)]
theorem sk_97_282 : segB 11 false prog_13_method_23_code 282 sg_97_282 = true := by decide +kernel
def sg_97_286 : List RI := [(.aload_n 0, 1, 0, 0, 0, 0), (.getfield 58, 3, 11, 19, 2, 0), (.iload 5, 2, 0, 0, 0, 0)]
theorem sk_97_286 : segB 11 false prog_13_method_23_code 286 sg_97_286 = true := by decide +kernel
def sg_97_296 : List RI := [(.iconst 1, 1, 0, 0, 0, 1)]
theorem sk_97_296 : segB 11 false prog_13_method_23_code 296 sg_97_296 = true := by decide +kernel
def sg_97_297 : List RI := [(.i2l, 1, 0, 0, 0, 0), (.lmul, 1, 0, 0, 0, 0), (.iload_n 2, 1, 0, 0, 0, 0)]
theorem sk_97_297 : segB 11 false prog_13_method_23_code 297 sg_97_297 = true := by decide +kernel
def sg_97_303 : List RI := [(.iinc 2 1, 3, 0, 0, 0, 1)]
theorem sk_97_303 : segB 11 false prog_13_method_23_code 303 sg_97_303 = true := by decide +kernel
def sg_97_309 : List RI := [(.aload_n 0, 1, 0, 0, 0, 0), (.getfield 192, 3, 11, 34, 0, 0)]
theorem sk_97_309 : segB 11 false prog_13_method_23_code 309 sg_97_309 = true := by decide +kernel
def sg_97_316 : List RI := [(.aload_n 0, 1, 0, 0, 0, 0)]
theorem sk_97_316 : segB 11 false prog_13_method_23_code 316 sg_97_316 = true := by decide +kernel
def sg_97_320 : List RI := [(.iconst (-1), 1, 0, 0, 0, -1)]
theorem sk_97_320 : segB 11 false prog_13_method_23_code 320 sg_97_320 = true := by decide +kernel
def sg_97_324 : List RI := [(.aload_n 0, 1, 0, 0, 0, 0), (.iconst 0, 1, 0, 0, 0, 0), (.aload_n 0, 1, 0, 0, 0, 0), (.getfield 189, 3, 11, 33, 0, 0)]
theorem sk_97_324 : segB 11 false prog_13_method_23_code 324 sg_97_324 = true := by decide +kernel
theorem ck_97_16 : decode prog_13_method_23_code 16 = .ok (.invokevirtual 201, 3) ∧ lnkB 11 false 16 (.invokevirtual 201, 3, 98, 0, 0, 0) = true := by decide +kernel
theorem ck_97_21 : decode prog_13_method_23_code 21 = .ok (.if_icmp .eq 13, 3) ∧ lnkB 11 false 21 (.if_icmp .eq 13, 3, 34, 0, 0, 0) = true := by decide +kernel
theorem ck_97_30 : decode prog_13_method_23_code 30 = .ok (.invokevirtual 198, 3) ∧ lnkB 11 false 30 (.invokevirtual 198, 3, 99, 0, 0, 0) = true := by decide +kernel
theorem ck_97_33 : decode prog_13_method_23_code 33 = .ok (.return_, 1) ∧ lnkB 11 false 33 (.return_, 1, 0, 0, 0, 0) = true := by decide +kernel
theorem ck_97_38 : decode prog_13_method_23_code 38 = .ok (.invokevirtual 205, 3) ∧ lnkB 11 false 38 (.invokevirtual 205, 3, 100, 0, 0, 0) = true := by decide +kernel
theorem ck_97_47 : decode prog_13_method_23_code 47 = .ok (.ifCond .ne 262, 3) ∧ lnkB 11 false 47 (.ifCond .ne 262, 3, 309, 0, 0, 0) = true := by decide +kernel
theorem ck_97_51 : decode prog_13_method_23_code 51 = .ok (.ifCond .le 258, 3) ∧ lnkB 11 false 51 (.ifCond .le 258, 3, 309, 0, 0, 0) = true := by decide +kernel
theorem ca_97_61 : decode prog_13_method_23_code 61 = .ok (.iaload, 1) ∧ lnkB 11 false 61 (.iaload, 1, 0, 0, 0, 0) = true := by decide +kernel
theorem ck_97_64 : decode prog_13_method_23_code 64 = .ok (.invokevirtual 201, 3) ∧ lnkB 11 false 64 (.invokevirtual 201, 3, 98, 0, 0, 0) = true := by decide +kernel
theorem ck_97_73 : decode prog_13_method_23_code 73 = .ok (.if_icmp .ne 28, 3) ∧ lnkB 11 false 73 (.if_icmp .ne 28, 3, 101, 0, 0, 0) = true := by decide +kernel
theorem ca_97_81 : decode prog_13_method_23_code 81 = .ok (.iaload, 1) ∧ lnkB 11 false 81 (.iaload, 1, 0, 0, 0, 0) = true := by decide +kernel
theorem ck_97_82 : decode prog_13_method_23_code 82 = .ok (.ifCond .le 19, 3) ∧ lnkB 11 false 82 (.ifCond .le 19, 3, 101, 0, 0, 0) = true := by decide +kernel
theorem ck_97_98 : decode prog_13_method_23_code 98 = .ok (.goto 208, 3) ∧ lnkB 11 false 98 (.goto 208, 3, 306, 0, 0, 0) = true := by decide +kernel
theorem ck_97_105 : decode prog_13_method_23_code 105 = .ok (.if_icmp .lt 10, 3) ∧ lnkB 11 false 105 (.if_icmp .lt 10, 3, 115, 0, 0, 0) = true := by decide +kernel
theorem ck_97_112 : decode prog_13_method_23_code 112 = .ok (.if_icmp .le 15, 3) ∧ lnkB 11 false 112 (.if_icmp .le 15, 3, 127, 0, 0, 0) = true := by decide +kernel
theorem ck_97_121 : decode prog_13_method_23_code 121 = .ok (.invokevirtual 198, 3) ∧ lnkB 11 false 121 (.invokevirtual 198, 3, 99, 0, 0, 0) = true := by decide +kernel
theorem ck_97_124 : decode prog_13_method_23_code 124 = .ok (.goto 182, 3) ∧ lnkB 11 false 124 (.goto 182, 3, 306, 0, 0, 0) = true := by decide +kernel
theorem ca_97_132 : decode prog_13_method_23_code 132 = .ok (.iaload, 1) ∧ lnkB 11 false 132 (.iaload, 1, 0, 0, 0, 0) = true := by decide +kernel
theorem ck_97_135 : decode prog_13_method_23_code 135 = .ok (.if_icmp .ne 15, 3) ∧ lnkB 11 false 135 (.if_icmp .ne 15, 3, 150, 0, 0, 0) = true := by decide +kernel
theorem ck_97_144 : decode prog_13_method_23_code 144 = .ok (.invokevirtual 198, 3) ∧ lnkB 11 false 144 (.invokevirtual 198, 3, 99, 0, 0, 0) = true := by decide +kernel
theorem ck_97_147 : decode prog_13_method_23_code 147 = .ok (.goto 159, 3) ∧ lnkB 11 false 147 (.goto 159, 3, 306, 0, 0, 0) = true := by decide +kernel
theorem ca_97_156 : decode prog_13_method_23_code 156 = .ok (.iaload, 1) ∧ lnkB 11 false 156 (.iaload, 1, 0, 0, 0, 0) = true := by decide +kernel
theorem ca_97_175 : decode prog_13_method_23_code 175 = .ok (.iaload, 1) ∧ lnkB 11 false 175 (.iaload, 1, 0, 0, 0, 0) = true := by decide +kernel
theorem ca_97_190 : decode prog_13_method_23_code 190 = .ok (.iastore, 1) ∧ lnkB 11 false 190 (.iastore, 1, 0, 0, 0, 0) = true := by decide +kernel
theorem ca_97_198 : decode prog_13_method_23_code 198 = .ok (.iastore, 1) ∧ lnkB 11 false 198 (.iastore, 1, 0, 0, 0, 0) = true := by decide +kernel
theorem ca_97_205 : decode prog_13_method_23_code 205 = .ok (.iaload, 1) ∧ lnkB 11 false 205 (.iaload, 1, 0, 0, 0, 0) = true := by decide +kernel
theorem ca_97_208 : decode prog_13_method_23_code 208 = .ok (.iastore, 1) ∧ lnkB 11 false 208 (.iastore, 1, 0, 0, 0, 0) = true := by decide +kernel
theorem ca_97_225 : decode prog_13_method_23_code 225 = .ok (.iaload, 1) ∧ lnkB 11 false 225 (.iaload, 1, 0, 0, 0, 0) = true := by decide +kernel
theorem ck_97_226 : decode prog_13_method_23_code 226 = .ok (.ifCond .eq 80, 3) ∧ lnkB 11 false 226 (.ifCond .eq 80, 3, 306, 0, 0, 0) = true := by decide +kernel
theorem ck_97_230 : decode prog_13_method_23_code 230 = .ok (.invokevirtual 201, 3) ∧ lnkB 11 false 230 (.invokevirtual 201, 3, 98, 0, 0, 0) = true := by decide +kernel
theorem ck_97_235 : decode prog_13_method_23_code 235 = .ok (.if_icmp .eq 15, 3) ∧ lnkB 11 false 235 (.if_icmp .eq 15, 3, 250, 0, 0, 0) = true := by decide +kernel
theorem ck_97_244 : decode prog_13_method_23_code 244 = .ok (.invokevirtual 198, 3) ∧ lnkB 11 false 244 (.invokevirtual 198, 3, 99, 0, 0, 0) = true := by decide +kernel
theorem ck_97_247 : decode prog_13_method_23_code 247 = .ok (.goto 59, 3) ∧ lnkB 11 false 247 (.goto 59, 3, 306, 0, 0, 0) = true := by decide +kernel
theorem ca_97_260 : decode prog_13_method_23_code 260 = .ok (.iastore, 1) ∧ lnkB 11 false 260 (.iastore, 1, 0, 0, 0, 0) = true := by decide +kernel
theorem ca_97_268 : decode prog_13_method_23_code 268 = .ok (.iaload, 1) ∧ lnkB 11 false 268 (.iaload, 1, 0, 0, 0, 0) = true := by decide +kernel
theorem ca_97_274 : decode prog_13_method_23_code 274 = .ok (.laload, 1) ∧ lnkB 11 false 274 (.laload, 1, 0, 0, 0, 0) = true := by decide +kernel
theorem ca_97_281 : decode prog_13_method_23_code 281 = .ok (.iaload, 1) ∧ lnkB 11 false 281 (.iaload, 1, 0, 0, 0, 0) = true := by decide +kernel
theorem ck_97_283 : decode prog_13_method_23_code 283 = .ok (.if_icmp .ne 13, 3) ∧ lnkB 11 false 283 (.if_icmp .ne 13, 3, 296, 0, 0, 0) = true := by decide +kernel
theorem ca_97_292 : decode prog_13_method_23_code 292 = .ok (.iaload, 1) ∧ lnkB 11 false 292 (.iaload, 1, 0, 0, 0, 0) = true := by decide +kernel
theorem ck_97_293 : decode prog_13_method_23_code 293 = .ok (.goto 4, 3) ∧ lnkB 11 false 293 (.goto 4, 3, 297, 0, 0, 0) = true := by decide +kernel
theorem ck_97_300 : decode prog_13_method_23_code 300 = .ok (.invokevirtual 205, 3) ∧ lnkB 11 false 300 (.invokevirtual 205, 3, 100, 0, 0, 0) = true := by decide +kernel
theorem ck_97_306 : decode prog_13_method_23_code 306 = .ok (.goto (-263), 3) ∧ lnkB 11 false 306 (.goto (-263), 3, 43, 0, 0, 0) = true := by decide +kernel
theorem ck_97_313 : decode prog_13_method_23_code 313 = .ok (.ifCond .ne 20, 3) ∧ lnkB 11 false 313 (.ifCond .ne 20, 3, 333, 0, 0, 0) = true := by decide +kernel
theorem ck_97_317 : decode prog_13_method_23_code 317 = .ok (.invokevirtual 201, 3) ∧ lnkB 11 false 317 (.invokevirtual 201, 3, 98, 0, 0, 0) = true := by decide +kernel
theorem ck_97_321 : decode prog_13_method_23_code 321 = .ok (.if_icmp .eq 12, 3) ∧ lnkB 11 false 321 (.if_icmp .eq 12, 3, 333, 0, 0, 0) = true := by decide +kernel
theorem ck_97_330 : decode prog_13_method_23_code 330 = .ok (.invokevirtual 198, 3) ∧ lnkB 11 false 330 (.invokevirtual 198, 3, 99, 0, 0, 0) = true := by decide +kernel
theorem ck_97_333 : decode prog_13_method_23_code 333 = .ok (.return_, 1) ∧ lnkB 11 false 333 (.return_, 1, 0, 0, 0, 0) = true := by decide +kernel
abbrev RU_97 (d : Nat) (cp : Nat × Nat) (Post : Option Value → Sto → Prop) : PP := Runs (Ex d) prog_13_method_23_code 11 false 7 none none cp Post
theorem en_97 {d : Nat} {As : List Value} {S : Sto} {mc ms : Nat} {Post : Option Value → Sto → Prop} (hc : cats As ≤ 7) (h : RU_97 d (mc, ms) Post 0 (lv_args 0 As) [] S 0 0) : Ex (d + 1) 97 As S mc ms Post := ⟨by decide, hc, h⟩
def sg_98_0 : List RI := [(.aload_n 0, 1, 0, 0, 0, 0), (.getfield 189, 3, 11, 33, 0, 0), (.aload_n 0, 1, 0, 0, 0, 0), (.getfield 183, 3, 11, 32, 0, 0)]
theorem sk_98_0 : segB 11 false prog_13_method_20_code 0 sg_98_0 = true := by decide +kernel
def sg_98_11 : List RI := [(.aload_n 0, 1, 0, 0, 0, 0), (.getfield 95, 3, 11, 31, 2, 0), (.aload_n 0, 1, 0, 0, 0, 0), (.getfield 189, 3, 11, 33, 0, 0)]
theorem sk_98_11 : segB 11 false prog_13_method_20_code 11 sg_98_11 = true := by decide +kernel
def sg_98_20 : List RI := [(.bipush 32, 2, 0, 0, 0, 32)]
theorem sk_98_20 : segB 11 false prog_13_method_20_code 20 sg_98_20 = true := by decide +kernel
def sg_98_25 : List RI := [(.aload_n 0, 1, 0, 0, 0, 0), (.dup, 1, 0, 0, 0, 0), (.getfield 189, 3, 11, 33, 0, 0), (.iconst 1, 1, 0, 0, 0, 1), (.iadd, 1, 0, 0, 0, 0), (.putfield 189, 3, 11, 33, 0, 0)]
theorem sk_98_25 : segB 11 false prog_13_method_20_code 25 sg_98_25 = true := by decide +kernel
def sg_98_38 : List RI := [(.aload_n 0, 1, 0, 0, 0, 0), (.getfield 189, 3, 11, 33, 0, 0), (.aload_n 0, 1, 0, 0, 0, 0), (.getfield 183, 3, 11, 32, 0, 0)]
theorem sk_98_38 : segB 11 false prog_13_method_20_code 38 sg_98_38 = true := by decide +kernel
def sg_98_49 : List RI := [(.iconst (-1), 1, 0, 0, 0, -1)]
theorem sk_98_49 : segB 11 false prog_13_method_20_code 49 sg_98_49 = true := by decide +kernel
def sg_98_53 : List RI := [(.aload_n 0, 1, 0, 0, 0, 0), (.getfield 95, 3, 11, 31, 2, 0), (.aload_n 0, 1, 0, 0, 0, 0), (.getfield 189, 3, 11, 33, 0, 0)]
theorem sk_98_53 : segB 11 false prog_13_method_20_code 53 sg_98_53 = true := by decide +kernel
def sg_98_62 : List RI := [(.sipush 255, 3, 0, 0, 0, 255), (.iand, 1, 0, 0, 0, 0)]
theorem sk_98_62 : segB 11 false prog_13_method_20_code 62 sg_98_62 = true := by decide +kernel
theorem ck_98_8 : decode prog_13_method_20_code 8 = .ok (.if_icmp .ge 30, 3) ∧ lnkB 11 false 8 (.if_icmp .ge 30, 3, 38, 0, 0, 0) = true := by decide +kernel
theorem ca_98_19 : decode prog_13_method_20_code 19 = .ok (.baload, 1) ∧ lnkB 11 false 19 (.baload, 1, 12, 0, 0, 0) = true := by decide +kernel
theorem ck_98_22 : decode prog_13_method_20_code 22 = .ok (.if_icmp .ne 16, 3) ∧ lnkB 11 false 22 (.if_icmp .ne 16, 3, 38, 0, 0, 0) = true := by decide +kernel
theorem ck_98_35 : decode prog_13_method_20_code 35 = .ok (.goto (-35), 3) ∧ lnkB 11 false 35 (.goto (-35), 3, 0, 0, 0, 0) = true := by decide +kernel
theorem ck_98_46 : decode prog_13_method_20_code 46 = .ok (.if_icmp .ne 7, 3) ∧ lnkB 11 false 46 (.if_icmp .ne 7, 3, 53, 0, 0, 0) = true := by decide +kernel
theorem ck_98_50 : decode prog_13_method_20_code 50 = .ok (.goto 16, 3) ∧ lnkB 11 false 50 (.goto 16, 3, 66, 0, 0, 0) = true := by decide +kernel
theorem ca_98_61 : decode prog_13_method_20_code 61 = .ok (.baload, 1) ∧ lnkB 11 false 61 (.baload, 1, 12, 0, 0, 0) = true := by decide +kernel
theorem ck_98_66 : decode prog_13_method_20_code 66 = .ok (.ireturn, 1) ∧ lnkB 11 false 66 (.ireturn, 1, 0, 0, 0, 0) = true := by decide +kernel
abbrev RU_98 (d : Nat) (cp : Nat × Nat) (Post : Option Value → Sto → Prop) : PP := Runs (Ex d) prog_13_method_20_code 11 false 1 (some .int) none cp Post
theorem en_98 {d : Nat} {As : List Value} {S : Sto} {mc ms : Nat} {Post : Option Value → Sto → Prop} (hc : cats As ≤ 1) (h : RU_98 d (mc, ms) Post 0 (lv_args 0 As) [] S 0 0) : Ex (d + 1) 98 As S mc ms Post := ⟨by decide, hc, h⟩
def sg_99_0 : List RI := [(.aload_n 0, 1, 0, 0, 0, 0), (.getfield 192, 3, 11, 34, 0, 0)]
theorem sk_99_0 : segB 11 false prog_13_method_21_code 0 sg_99_0 = true := by decide +kernel
def sg_99_7 : List RI := [(.aload_n 0, 1, 0, 0, 0, 0), (.iconst 1, 1, 0, 0, 0, 1), (.iconst 4, 1, 0, 0, 0, 4), (.iload_n 2, 1, 0, 0, 0, 0), (.imul, 1, 0, 0, 0, 0), (.iadd, 1, 0, 0, 0, 0), (.iload_n 1, 1, 0, 0, 0, 0), (.iadd, 1, 0, 0, 0, 0), (.putfield 192, 3, 11, 34, 0, 0)]
theorem sk_99_7 : segB 11 false prog_13_method_21_code 7 sg_99_7 = true := by decide +kernel
theorem ck_99_4 : decode prog_13_method_21_code 4 = .ok (.ifCond .ne 14, 3) ∧ lnkB 11 false 4 (.ifCond .ne 14, 3, 18, 0, 0, 0) = true := by decide +kernel
theorem ck_99_18 : decode prog_13_method_21_code 18 = .ok (.return_, 1) ∧ lnkB 11 false 18 (.return_, 1, 0, 0, 0, 0) = true := by decide +kernel
abbrev RU_99 (d : Nat) (cp : Nat × Nat) (Post : Option Value → Sto → Prop) : PP := Runs (Ex d) prog_13_method_21_code 11 false 3 none none cp Post
theorem en_99 {d : Nat} {As : List Value} {S : Sto} {mc ms : Nat} {Post : Option Value → Sto → Prop} (hc : cats As ≤ 3) (h : RU_99 d (mc, ms) Post 0 (lv_args 0 As) [] S 0 0) : Ex (d + 1) 99 As S mc ms Post := ⟨by decide, hc, h⟩
def sg_100_0 : List RI := [(.aload_n 0, 1, 0, 0, 0, 0), (.getfield 195, 3, 11, 35, 0, 0), (.bipush 20, 2, 0, 0, 0, 20)]
theorem sk_100_0 : segB 11 false prog_13_method_22_code 0 sg_100_0 = true := by decide +kernel
def sg_100_9 : List RI := [(.iload 4, 2, 0, 0, 0, 0), (.iconst 5, 1, 0, 0, 0, 5)]
theorem sk_100_9 : segB 11 false prog_13_method_22_code 9 sg_100_9 = true := by decide +kernel
def sg_100_15 : List RI := [(.aload_n 0, 1, 0, 0, 0, 0), (.iconst 1, 1, 0, 0, 0, 1), (.aload_n 0, 1, 0, 0, 0, 0), (.getfield 189, 3, 11, 33, 0, 0)]
theorem sk_100_15 : segB 11 false prog_13_method_22_code 15 sg_100_15 = true := by decide +kernel
def sg_100_25 : List RI := [(.aload_n 0, 1, 0, 0, 0, 0), (.getfield 99, 3, 11, 36, 2, 0), (.aload_n 0, 1, 0, 0, 0, 0), (.getfield 195, 3, 11, 35, 0, 0), (.iload_n 1, 1, 0, 0, 0, 0)]
theorem sk_100_25 : segB 11 false prog_13_method_22_code 25 sg_100_25 = true := by decide +kernel
def sg_100_35 : List RI := [(.aload_n 0, 1, 0, 0, 0, 0), (.getfield 102, 3, 11, 37, 2, 0), (.aload_n 0, 1, 0, 0, 0, 0), (.getfield 195, 3, 11, 35, 0, 0), (.aload_n 0, 1, 0, 0, 0, 0), (.getfield 189, 3, 11, 33, 0, 0)]
theorem sk_100_35 : segB 11 false prog_13_method_22_code 35 sg_100_35 = true := by decide +kernel
def sg_100_48 : List RI := [(.aload_n 0, 1, 0, 0, 0, 0), (.getfield 105, 3, 11, 38, 2, 0), (.aload_n 0, 1, 0, 0, 0, 0), (.getfield 195, 3, 11, 35, 0, 0), (.iconst 0, 1, 0, 0, 0, 0)]
theorem sk_100_48 : segB 11 false prog_13_method_22_code 48 sg_100_48 = true := by decide +kernel
def sg_100_58 : List RI := [(.aload_n 0, 1, 0, 0, 0, 0), (.getfield 114, 3, 11, 41, 2, 0), (.aload_n 0, 1, 0, 0, 0, 0), (.getfield 195, 3, 11, 35, 0, 0), (.lload_n 2, 1, 0, 0, 0, 0)]
theorem sk_100_58 : segB 11 false prog_13_method_22_code 58 sg_100_58 = true := by decide +kernel
def sg_100_68 : List RI := [(.aload_n 0, 1, 0, 0, 0, 0), (.getfield 118, 3, 11, 42, 2, 0), (.iload 4, 2, 0, 0, 0, 0), (.aload_n 0, 1, 0, 0, 0, 0), (.getfield 195, 3, 11, 35, 0, 0)]
theorem sk_100_68 : segB 11 false prog_13_method_22_code 68 sg_100_68 = true := by decide +kernel
def sg_100_79 : List RI := [(.aload_n 0, 1, 0, 0, 0, 0), (.dup, 1, 0, 0, 0, 0), (.getfield 195, 3, 11, 35, 0, 0), (.iconst 1, 1, 0, 0, 0, 1), (.iadd, 1, 0, 0, 0, 0), (.putfield 195, 3, 11, 35, 0, 0), (.aload_n 0, 1, 0, 0, 0, 0), (.dup, 1, 0, 0, 0, 0), (.getfield 189, 3, 11, 33, 0, 0), (.iconst 1, 1, 0, 0, 0, 1), (.iadd, 1, 0, 0, 0, 0), (.putfield 189, 3, 11, 33, 0, 0)]
theorem sk_100_79 : segB 11 false prog_13_method_22_code 79 sg_100_79 = true := by decide +kernel
theorem ck_100_6 : decode prog_13_method_22_code 6 = .ok (.if_icmp .eq 9, 3) ∧ lnkB 11 false 6 (.if_icmp .eq 9, 3, 15, 0, 0, 0) = true := by decide +kernel
theorem ck_100_12 : decode prog_13_method_22_code 12 = .ok (.if_icmp .ne 13, 3) ∧ lnkB 11 false 12 (.if_icmp .ne 13, 3, 25, 0, 0, 0) = true := by decide +kernel
theorem ck_100_21 : decode prog_13_method_22_code 21 = .ok (.invokevirtual 198, 3) ∧ lnkB 11 false 21 (.invokevirtual 198, 3, 99, 0, 0, 0) = true := by decide +kernel
theorem ck_100_24 : decode prog_13_method_22_code 24 = .ok (.return_, 1) ∧ lnkB 11 false 24 (.return_, 1, 0, 0, 0, 0) = true := by decide +kernel
theorem ca_100_34 : decode prog_13_method_22_code 34 = .ok (.iastore, 1) ∧ lnkB 11 false 34 (.iastore, 1, 0, 0, 0, 0) = true := by decide +kernel
theorem ca_100_47 : decode prog_13_method_22_code 47 = .ok (.iastore, 1) ∧ lnkB 11 false 47 (.iastore, 1, 0, 0, 0, 0) = true := by decide +kernel
theorem ca_100_57 : decode prog_13_method_22_code 57 = .ok (.iastore, 1) ∧ lnkB 11 false 57 (.iastore, 1, 0, 0, 0, 0) = true := by decide +kernel
theorem ca_100_67 : decode prog_13_method_22_code 67 = .ok (.lastore, 1) ∧ lnkB 11 false 67 (.lastore, 1, 0, 0, 0, 0) = true := by decide +kernel
theorem ca_100_78 : decode prog_13_method_22_code 78 = .ok (.iastore, 1) ∧ lnkB 11 false 78 (.iastore, 1, 0, 0, 0, 0) = true := by decide +kernel
theorem ck_100_99 : decode prog_13_method_22_code 99 = .ok (.return_, 1) ∧ lnkB 11 false 99 (.return_, 1, 0, 0, 0, 0) = true := by decide +kernel
abbrev RU_100 (d : Nat) (cp : Nat × Nat) (Post : Option Value → Sto → Prop) : PP := Runs (Ex d) prog_13_method_22_code 11 false 5 none none cp Post
theorem en_100 {d : Nat} {As : List Value} {S : Sto} {mc ms : Nat} {Post : Option Value → Sto → Prop} (hc : cats As ≤ 5) (h : RU_100 d (mc, ms) Post 0 (lv_args 0 As) [] S 0 0) : Ex (d + 1) 100 As S mc ms Post := ⟨by decide, hc, h⟩
def sg_101_0 : List RI := [(.iconst (-1), 1, 0, 0, 0, -1), (.istore_n 3, 1, 0, 0, 0, 0), (.aload_n 0, 1, 0, 0, 0, 0), (.lconst 0, 1, 0, 0, 0, 0), (.putfield 209, 3, 11, 43, 1, 0), (.iconst 0, 1, 0, 0, 0, 0), (.istore 4, 2, 0, 0, 0, 0)]
theorem sk_101_0 : segB 11 false prog_13_method_24_code 0 sg_101_0 = true := by decide +kernel
def sg_101_10 : List RI := [(.iload 4, 2, 0, 0, 0, 0), (.aload_n 0, 1, 0, 0, 0, 0), (.getfield 195, 3, 11, 35, 0, 0)]
theorem sk_101_10 : segB 11 false prog_13_method_24_code 10 sg_101_10 = true := by decide +kernel
def sg_101_19 : List RI := [(.aload_n 0, 1, 0, 0, 0, 0), (.dup, 1, 0, 0, 0, 0), (.getfield 209, 3, 11, 43, 1, 0), (.aload_n 0, 1, 0, 0, 0, 0), (.getfield 46, 3, 11, 15, 2, 0), (.aload_n 0, 1, 0, 0, 0, 0), (.getfield 99, 3, 11, 36, 2, 0), (.iload 4, 2, 0, 0, 0, 0)]
theorem sk_101_19 : segB 11 false prog_13_method_24_code 19 sg_101_19 = true := by decide +kernel
def sg_101_36 : List RI := [(.i2l, 1, 0, 0, 0, 0), (.aload_n 0, 1, 0, 0, 0, 0), (.getfield 114, 3, 11, 41, 2, 0), (.iload 4, 2, 0, 0, 0, 0)]
theorem sk_101_36 : segB 11 false prog_13_method_24_code 36 sg_101_36 = true := by decide +kernel
def sg_101_44 : List RI := [(.lmul, 1, 0, 0, 0, 0), (.ladd, 1, 0, 0, 0, 0), (.putfield 209, 3, 11, 43, 1, 0), (.iload_n 3, 1, 0, 0, 0, 0), (.iconst (-1), 1, 0, 0, 0, -1)]
theorem sk_101_44 : segB 11 false prog_13_method_24_code 44 sg_101_44 = true := by decide +kernel
def sg_101_54 : List RI := [(.aload_n 0, 1, 0, 0, 0, 0), (.getfield 209, 3, 11, 43, 1, 0), (.lload_n 1, 1, 0, 0, 0, 0), (.lcmp, 1, 0, 0, 0, 0)]
theorem sk_101_54 : segB 11 false prog_13_method_24_code 54 sg_101_54 = true := by decide +kernel
def sg_101_63 : List RI := [(.iload 4, 2, 0, 0, 0, 0)]
theorem sk_101_63 : segB 11 false prog_13_method_24_code 63 sg_101_63 = true := by decide +kernel
def sg_101_68 : List RI := [(.iload_n 3, 1, 0, 0, 0, 0)]
theorem sk_101_68 : segB 11 false prog_13_method_24_code 68 sg_101_68 = true := by decide +kernel
def sg_101_69 : List RI := [(.istore_n 3, 1, 0, 0, 0, 0), (.iinc 4 1, 3, 0, 0, 0, 1)]
theorem sk_101_69 : segB 11 false prog_13_method_24_code 69 sg_101_69 = true := by decide +kernel
def sg_101_76 : List RI := [(.iload_n 3, 1, 0, 0, 0, 0)]
theorem sk_101_76 : segB 11 false prog_13_method_24_code 76 sg_101_76 = true := by decide +kernel
theorem ck_101_16 : decode prog_13_method_24_code 16 = .ok (.if_icmp .ge 60, 3) ∧ lnkB 11 false 16 (.if_icmp .ge 60, 3, 76, 0, 0, 0) = true := by decide +kernel
theorem ca_101_34 : decode prog_13_method_24_code 34 = .ok (.iaload, 1) ∧ lnkB 11 false 34 (.iaload, 1, 0, 0, 0, 0) = true := by decide +kernel
theorem ca_101_35 : decode prog_13_method_24_code 35 = .ok (.iaload, 1) ∧ lnkB 11 false 35 (.iaload, 1, 0, 0, 0, 0) = true := by decide +kernel
theorem ca_101_43 : decode prog_13_method_24_code 43 = .ok (.laload, 1) ∧ lnkB 11 false 43 (.laload, 1, 0, 0, 0, 0) = true := by decide +kernel
theorem ck_101_51 : decode prog_13_method_24_code 51 = .ok (.if_icmp .ne 17, 3) ∧ lnkB 11 false 51 (.if_icmp .ne 17, 3, 68, 0, 0, 0) = true := by decide +kernel
theorem ck_101_60 : decode prog_13_method_24_code 60 = .ok (.ifCond .le 8, 3) ∧ lnkB 11 false 60 (.ifCond .le 8, 3, 68, 0, 0, 0) = true := by decide +kernel
theorem ck_101_65 : decode prog_13_method_24_code 65 = .ok (.goto 4, 3) ∧ lnkB 11 false 65 (.goto 4, 3, 69, 0, 0, 0) = true := by decide +kernel
theorem ck_101_73 : decode prog_13_method_24_code 73 = .ok (.goto (-63), 3) ∧ lnkB 11 false 73 (.goto (-63), 3, 10, 0, 0, 0) = true := by decide +kernel
theorem ck_101_77 : decode prog_13_method_24_code 77 = .ok (.ireturn, 1) ∧ lnkB 11 false 77 (.ireturn, 1, 0, 0, 0, 0) = true := by decide +kernel
abbrev RU_101 (d : Nat) (cp : Nat × Nat) (Post : Option Value → Sto → Prop) : PP := Runs (Ex d) prog_13_method_24_code 11 false 5 (some .int) none cp Post
theorem en_101 {d : Nat} {As : List Value} {S : Sto} {mc ms : Nat} {Post : Option Value → Sto → Prop} (hc : cats As ≤ 5) (h : RU_101 d (mc, ms) Post 0 (lv_args 0 As) [] S 0 0) : Ex (d + 1) 101 As S mc ms Post := ⟨by decide, hc, h⟩
def sg_102_0 : List RI := [(.iload_n 1, 1, 0, 0, 0, 0), (.iconst 0, 1, 0, 0, 0, 0), (.iconst 3, 1, 0, 0, 0, 3)]
theorem sk_102_0 : segB 11 false prog_13_method_39_code 0 sg_102_0 = true := by decide +kernel
def sg_102_9 : List RI := [(.iload_n 2, 1, 0, 0, 0, 0), (.iload_n 3, 1, 0, 0, 0, 0)]
theorem sk_102_9 : segB 11 false prog_13_method_39_code 9 sg_102_9 = true := by decide +kernel
def sg_102_17 : List RI := [(.iload 4, 2, 0, 0, 0, 0), (.iconst 1, 1, 0, 0, 0, 1), (.sipush 200, 3, 0, 0, 0, 200)]
theorem sk_102_17 : segB 11 false prog_13_method_39_code 17 sg_102_17 = true := by decide +kernel
def sg_102_29 : List RI := [(.aload_n 0, 1, 0, 0, 0, 0), (.getfield 176, 3, 11, 1, 0, 0), (.iload 4, 2, 0, 0, 0, 0), (.iadd, 1, 0, 0, 0, 0), (.ldc 169, 2, 0, 0, 0, 100000)]
theorem sk_102_29 : segB 11 false prog_13_method_39_code 29 sg_102_29 = true := by decide +kernel
def sg_102_41 : List RI := [(.iconst (-1), 1, 0, 0, 0, -1)]
theorem sk_102_41 : segB 11 false prog_13_method_39_code 41 sg_102_41 = true := by decide +kernel
def sg_102_43 : List RI := [(.aload_n 0, 1, 0, 0, 0, 0), (.iload_n 2, 1, 0, 0, 0, 0)]
theorem sk_102_43 : segB 11 false prog_13_method_39_code 43 sg_102_43 = true := by decide +kernel
def sg_102_48 : List RI := [(.aload_n 0, 1, 0, 0, 0, 0), (.iconst 0, 1, 0, 0, 0, 0), (.putfield 183, 3, 11, 32, 0, 0), (.aload_n 0, 1, 0, 0, 0, 0), (.getfield 192, 3, 11, 34, 0, 0)]
theorem sk_102_48 : segB 11 false prog_13_method_39_code 48 sg_102_48 = true := by decide +kernel
def sg_102_60 : List RI := [(.bipush (-2), 2, 0, 0, 0, -2), (.aload_n 0, 1, 0, 0, 0, 0), (.getfield 192, 3, 11, 34, 0, 0), (.isub, 1, 0, 0, 0, 0)]
theorem sk_102_60 : segB 11 false prog_13_method_39_code 60 sg_102_60 = true := by decide +kernel
def sg_102_68 : List RI := [(.aload_n 0, 1, 0, 0, 0, 0), (.aload_n 0, 1, 0, 0, 0, 0), (.getfield 92, 3, 11, 30, 2, 0), (.iload_n 1, 1, 0, 0, 0, 0)]
theorem sk_102_68 : segB 11 false prog_13_method_39_code 68 sg_102_68 = true := by decide +kernel
def sg_102_75 : List RI := [(.i2l, 1, 0, 0, 0, 0)]
theorem sk_102_75 : segB 11 false prog_13_method_39_code 75 sg_102_75 = true := by decide +kernel
def sg_102_79 : List RI := [(.istore 5, 2, 0, 0, 0, 0), (.iload 5, 2, 0, 0, 0, 0), (.iconst (-1), 1, 0, 0, 0, -1)]
theorem sk_102_79 : segB 11 false prog_13_method_39_code 79 sg_102_79 = true := by decide +kernel
def sg_102_87 : List RI := [(.aload_n 0, 1, 0, 0, 0, 0), (.aload_n 0, 1, 0, 0, 0, 0), (.getfield 102, 3, 11, 37, 2, 0), (.iload 5, 2, 0, 0, 0, 0)]
theorem sk_102_87 : segB 11 false prog_13_method_39_code 87 sg_102_87 = true := by decide +kernel
def sg_102_95 : List RI := [(.putfield 151, 3, 11, 58, 0, 0), (.iconst 2, 1, 0, 0, 0, 2)]
theorem sk_102_95 : segB 11 false prog_13_method_39_code 95 sg_102_95 = true := by decide +kernel
def sg_102_100 : List RI := [(.aload_n 0, 1, 0, 0, 0, 0), (.getfield 92, 3, 11, 30, 2, 0), (.iload_n 1, 1, 0, 0, 0, 0), (.dup2, 1, 0, 0, 0, 0)]
theorem sk_102_100 : segB 11 false prog_13_method_39_code 100 sg_102_100 = true := by decide +kernel
def sg_102_107 : List RI := [(.aload_n 0, 1, 0, 0, 0, 0), (.getfield 209, 3, 11, 43, 1, 0), (.l2i, 1, 0, 0, 0, 0), (.isub, 1, 0, 0, 0, 0)]
theorem sk_102_107 : segB 11 false prog_13_method_39_code 107 sg_102_107 = true := by decide +kernel
def sg_102_114 : List RI := [(.aload_n 0, 1, 0, 0, 0, 0), (.iload_n 1, 1, 0, 0, 0, 0), (.putfield 223, 3, 11, 49, 0, 0), (.aload_n 0, 1, 0, 0, 0, 0), (.iconst 0, 1, 0, 0, 0, 0), (.putfield 232, 3, 11, 50, 0, 0), (.aload_n 0, 1, 0, 0, 0, 0), (.iconst 0, 1, 0, 0, 0, 0), (.putfield 254, 3, 11, 51, 0, 0), (.aload_n 0, 1, 0, 0, 0, 0), (.iconst 0, 1, 0, 0, 0, 0), (.putfield 229, 3, 11, 47, 0, 0), (.iconst 0, 1, 0, 0, 0, 0), (.istore 6, 2, 0, 0, 0, 0)]
theorem sk_102_114 : segB 11 false prog_13_method_39_code 114 sg_102_114 = true := by decide +kernel
def sg_102_137 : List RI := [(.iload 6, 2, 0, 0, 0, 0), (.sipush 192, 3, 0, 0, 0, 192)]
theorem sk_102_137 : segB 11 false prog_13_method_39_code 137 sg_102_137 = true := by decide +kernel
def sg_102_145 : List RI := [(.aload_n 0, 1, 0, 0, 0, 0), (.getfield 121, 3, 11, 44, 2, 0), (.iload 6, 2, 0, 0, 0, 0), (.iconst 0, 1, 0, 0, 0, 0)]
theorem sk_102_145 : segB 11 false prog_13_method_39_code 145 sg_102_145 = true := by decide +kernel
def sg_102_153 : List RI := [(.aload_n 0, 1, 0, 0, 0, 0), (.getfield 124, 3, 11, 45, 2, 0), (.iload 6, 2, 0, 0, 0, 0), (.iconst 0, 1, 0, 0, 0, 0)]
theorem sk_102_153 : segB 11 false prog_13_method_39_code 153 sg_102_153 = true := by decide +kernel
def sg_102_161 : List RI := [(.iinc 6 1, 3, 0, 0, 0, 1)]
theorem sk_102_161 : segB 11 false prog_13_method_39_code 161 sg_102_161 = true := by decide +kernel
def sg_102_167 : List RI := [(.iconst 0, 1, 0, 0, 0, 0), (.istore 6, 2, 0, 0, 0, 0)]
theorem sk_102_167 : segB 11 false prog_13_method_39_code 167 sg_102_167 = true := by decide +kernel
def sg_102_170 : List RI := [(.iload 6, 2, 0, 0, 0, 0), (.sipush 3840, 3, 0, 0, 0, 3840)]
theorem sk_102_170 : segB 11 false prog_13_method_39_code 170 sg_102_170 = true := by decide +kernel
def sg_102_178 : List RI := [(.aload_n 0, 1, 0, 0, 0, 0), (.getfield 127, 3, 11, 46, 2, 0), (.iload 6, 2, 0, 0, 0, 0), (.iconst 0, 1, 0, 0, 0, 0)]
theorem sk_102_178 : segB 11 false prog_13_method_39_code 178 sg_102_178 = true := by decide +kernel
def sg_102_186 : List RI := [(.iinc 6 1, 3, 0, 0, 0, 1)]
theorem sk_102_186 : segB 11 false prog_13_method_39_code 186 sg_102_186 = true := by decide +kernel
def sg_102_192 : List RI := [(.aload_n 0, 1, 0, 0, 0, 0), (.bipush 32, 2, 0, 0, 0, 32), (.iload_n 2, 1, 0, 0, 0, 0), (.imul, 1, 0, 0, 0, 0), (.iload_n 3, 1, 0, 0, 0, 0), (.iadd, 1, 0, 0, 0, 0), (.iconst 0, 1, 0, 0, 0, 0)]
theorem sk_102_192 : segB 11 false prog_13_method_39_code 192 sg_102_192 = true := by decide +kernel
def sg_102_203 : List RI := [(.aload_n 0, 1, 0, 0, 0, 0), (.getfield 176, 3, 11, 1, 0, 0), (.iload 4, 2, 0, 0, 0, 0), (.iadd, 1, 0, 0, 0, 0), (.istore 6, 2, 0, 0, 0, 0), (.iconst 1, 1, 0, 0, 0, 1), (.istore 7, 2, 0, 0, 0, 0)]
theorem sk_102_203 : segB 11 false prog_13_method_39_code 203 sg_102_203 = true := by decide +kernel
def sg_102_215 : List RI := [(.iload 7, 2, 0, 0, 0, 0)]
theorem sk_102_215 : segB 11 false prog_13_method_39_code 215 sg_102_215 = true := by decide +kernel
def sg_102_220 : List RI := [(.aload_n 0, 1, 0, 0, 0, 0)]
theorem sk_102_220 : segB 11 false prog_13_method_39_code 220 sg_102_220 = true := by decide +kernel
def sg_102_224 : List RI := [(.aload_n 0, 1, 0, 0, 0, 0), (.getfield 176, 3, 11, 1, 0, 0), (.iload 6, 2, 0, 0, 0, 0)]
theorem sk_102_224 : segB 11 false prog_13_method_39_code 224 sg_102_224 = true := by decide +kernel
def sg_102_233 : List RI := [(.iconst 0, 1, 0, 0, 0, 0), (.istore 8, 2, 0, 0, 0, 0)]
theorem sk_102_233 : segB 11 false prog_13_method_39_code 233 sg_102_233 = true := by decide +kernel
def sg_102_236 : List RI := [(.iload 8, 2, 0, 0, 0, 0), (.iconst 5, 1, 0, 0, 0, 5)]
theorem sk_102_236 : segB 11 false prog_13_method_39_code 236 sg_102_236 = true := by decide +kernel
def sg_102_242 : List RI := [(.aload_n 0, 1, 0, 0, 0, 0), (.iload 8, 2, 0, 0, 0, 0)]
theorem sk_102_242 : segB 11 false prog_13_method_39_code 242 sg_102_242 = true := by decide +kernel
def sg_102_248 : List RI := [(.iinc 8 1, 3, 0, 0, 0, 1)]
theorem sk_102_248 : segB 11 false prog_13_method_39_code 248 sg_102_248 = true := by decide +kernel
def sg_102_257 : List RI := [(.aload_n 0, 1, 0, 0, 0, 0)]
theorem sk_102_257 : segB 11 false prog_13_method_39_code 257 sg_102_257 = true := by decide +kernel
def sg_102_261 : List RI := [(.aload_n 0, 1, 0, 0, 0, 0)]
theorem sk_102_261 : segB 11 false prog_13_method_39_code 261 sg_102_261 = true := by decide +kernel
def sg_102_268 : List RI := [(.iconst 1, 1, 0, 0, 0, 1)]
theorem sk_102_268 : segB 11 false prog_13_method_39_code 268 sg_102_268 = true := by decide +kernel
def sg_102_272 : List RI := [(.iconst 0, 1, 0, 0, 0, 0)]
theorem sk_102_272 : segB 11 false prog_13_method_39_code 272 sg_102_272 = true := by decide +kernel
def sg_102_273 : List RI := [(.istore 7, 2, 0, 0, 0, 0), (.iload 7, 2, 0, 0, 0, 0)]
theorem sk_102_273 : segB 11 false prog_13_method_39_code 273 sg_102_273 = true := by decide +kernel
def sg_102_280 : List RI := [(.aload_n 0, 1, 0, 0, 0, 0), (.iconst 1, 1, 0, 0, 0, 1)]
theorem sk_102_280 : segB 11 false prog_13_method_39_code 280 sg_102_280 = true := by decide +kernel
def sg_102_288 : List RI := [(.aload_n 0, 1, 0, 0, 0, 0), (.iconst 0, 1, 0, 0, 0, 0), (.putfield 279, 3, 11, 59, 0, 0), (.aload_n 0, 1, 0, 0, 0, 0), (.iconst 0, 1, 0, 0, 0, 0), (.putfield 282, 3, 11, 60, 0, 0), (.aload_n 0, 1, 0, 0, 0, 0), (.bipush 32, 2, 0, 0, 0, 32), (.iload_n 2, 1, 0, 0, 0, 0), (.imul, 1, 0, 0, 0, 0), (.iload_n 3, 1, 0, 0, 0, 0), (.iadd, 1, 0, 0, 0, 0), (.iconst 0, 1, 0, 0, 0, 0)]
theorem sk_102_288 : segB 11 false prog_13_method_39_code 288 sg_102_288 = true := by decide +kernel
def sg_102_309 : List RI := [(.aload_n 0, 1, 0, 0, 0, 0), (.getfield 282, 3, 11, 60, 0, 0)]
theorem sk_102_309 : segB 11 false prog_13_method_39_code 309 sg_102_309 = true := by decide +kernel
def sg_102_316 : List RI := [(.iconst 1, 1, 0, 0, 0, 1)]
theorem sk_102_316 : segB 11 false prog_13_method_39_code 316 sg_102_316 = true := by decide +kernel
def sg_102_320 : List RI := [(.iconst 0, 1, 0, 0, 0, 0)]
theorem sk_102_320 : segB 11 false prog_13_method_39_code 320 sg_102_320 = true := by decide +kernel
theorem ck_102_3 : decode prog_13_method_39_code 3 = .ok (.invokestatic 162, 3) ∧ lnkB 11 false 3 (.invokestatic 162, 3, 81, 0, 0, 0) = true := by decide +kernel
theorem ck_102_6 : decode prog_13_method_39_code 6 = .ok (.ifCond .eq 35, 3) ∧ lnkB 11 false 6 (.ifCond .eq 35, 3, 41, 0, 0, 0) = true := by decide +kernel
theorem ck_102_11 : decode prog_13_method_39_code 11 = .ok (.invokestatic 170, 3) ∧ lnkB 11 false 11 (.invokestatic 170, 3, 86, 0, 0, 0) = true := by decide +kernel
theorem ck_102_14 : decode prog_13_method_39_code 14 = .ok (.ifCond .eq 27, 3) ∧ lnkB 11 false 14 (.ifCond .eq 27, 3, 41, 0, 0, 0) = true := by decide +kernel
theorem ck_102_23 : decode prog_13_method_39_code 23 = .ok (.invokestatic 162, 3) ∧ lnkB 11 false 23 (.invokestatic 162, 3, 81, 0, 0, 0) = true := by decide +kernel
theorem ck_102_26 : decode prog_13_method_39_code 26 = .ok (.ifCond .eq 15, 3) ∧ lnkB 11 false 26 (.ifCond .eq 15, 3, 41, 0, 0, 0) = true := by decide +kernel
theorem ck_102_38 : decode prog_13_method_39_code 38 = .ok (.if_icmp .le 5, 3) ∧ lnkB 11 false 38 (.if_icmp .le 5, 3, 43, 0, 0, 0) = true := by decide +kernel
theorem ck_102_42 : decode prog_13_method_39_code 42 = .ok (.ireturn, 1) ∧ lnkB 11 false 42 (.ireturn, 1, 0, 0, 0, 0) = true := by decide +kernel
theorem ck_102_45 : decode prog_13_method_39_code 45 = .ok (.invokevirtual 213, 3) ∧ lnkB 11 false 45 (.invokevirtual 213, 3, 97, 0, 0, 0) = true := by decide +kernel
theorem ck_102_57 : decode prog_13_method_39_code 57 = .ok (.ifCond .le 11, 3) ∧ lnkB 11 false 57 (.ifCond .le 11, 3, 68, 0, 0, 0) = true := by decide +kernel
theorem ck_102_67 : decode prog_13_method_39_code 67 = .ok (.ireturn, 1) ∧ lnkB 11 false 67 (.ireturn, 1, 0, 0, 0, 0) = true := by decide +kernel
theorem ca_102_74 : decode prog_13_method_39_code 74 = .ok (.iaload, 1) ∧ lnkB 11 false 74 (.iaload, 1, 0, 0, 0, 0) = true := by decide +kernel
theorem ck_102_76 : decode prog_13_method_39_code 76 = .ok (.invokevirtual 216, 3) ∧ lnkB 11 false 76 (.invokevirtual 216, 3, 101, 0, 0, 0) = true := by decide +kernel
theorem ck_102_84 : decode prog_13_method_39_code 84 = .ok (.if_icmp .eq 16, 3) ∧ lnkB 11 false 84 (.if_icmp .eq 16, 3, 100, 0, 0, 0) = true := by decide +kernel
theorem ca_102_94 : decode prog_13_method_39_code 94 = .ok (.iaload, 1) ∧ lnkB 11 false 94 (.iaload, 1, 0, 0, 0, 0) = true := by decide +kernel
theorem ck_102_99 : decode prog_13_method_39_code 99 = .ok (.ireturn, 1) ∧ lnkB 11 false 99 (.ireturn, 1, 0, 0, 0, 0) = true := by decide +kernel
theorem ca_102_106 : decode prog_13_method_39_code 106 = .ok (.iaload, 1) ∧ lnkB 11 false 106 (.iaload, 1, 0, 0, 0, 0) = true := by decide +kernel
theorem ca_102_113 : decode prog_13_method_39_code 113 = .ok (.iastore, 1) ∧ lnkB 11 false 113 (.iastore, 1, 0, 0, 0, 0) = true := by decide +kernel
theorem ck_102_142 : decode prog_13_method_39_code 142 = .ok (.if_icmp .ge 25, 3) ∧ lnkB 11 false 142 (.if_icmp .ge 25, 3, 167, 0, 0, 0) = true := by decide +kernel
theorem ca_102_152 : decode prog_13_method_39_code 152 = .ok (.iastore, 1) ∧ lnkB 11 false 152 (.iastore, 1, 0, 0, 0, 0) = true := by decide +kernel
theorem ca_102_160 : decode prog_13_method_39_code 160 = .ok (.iastore, 1) ∧ lnkB 11 false 160 (.iastore, 1, 0, 0, 0, 0) = true := by decide +kernel
theorem ck_102_164 : decode prog_13_method_39_code 164 = .ok (.goto (-27), 3) ∧ lnkB 11 false 164 (.goto (-27), 3, 137, 0, 0, 0) = true := by decide +kernel
theorem ck_102_175 : decode prog_13_method_39_code 175 = .ok (.if_icmp .ge 17, 3) ∧ lnkB 11 false 175 (.if_icmp .ge 17, 3, 192, 0, 0, 0) = true := by decide +kernel
theorem ca_102_185 : decode prog_13_method_39_code 185 = .ok (.bastore, 1) ∧ lnkB 11 false 185 (.bastore, 1, 15, 0, 0, 0) = true := by decide +kernel
theorem ck_102_189 : decode prog_13_method_39_code 189 = .ok (.goto (-19), 3) ∧ lnkB 11 false 189 (.goto (-19), 3, 170, 0, 0, 0) = true := by decide +kernel
theorem ck_102_200 : decode prog_13_method_39_code 200 = .ok (.invokevirtual 237, 3) ∧ lnkB 11 false 200 (.invokevirtual 237, 3, 103, 0, 0, 0) = true := by decide +kernel
theorem ck_102_217 : decode prog_13_method_39_code 217 = .ok (.ifCond .eq 71, 3) ∧ lnkB 11 false 217 (.ifCond .eq 71, 3, 288, 0, 0, 0) = true := by decide +kernel
theorem ck_102_221 : decode prog_13_method_39_code 221 = .ok (.invokevirtual 266, 3) ∧ lnkB 11 false 221 (.invokevirtual 266, 3, 108, 0, 0, 0) = true := by decide +kernel
theorem ck_102_230 : decode prog_13_method_39_code 230 = .ok (.if_icmp .ge 27, 3) ∧ lnkB 11 false 230 (.if_icmp .ge 27, 3, 257, 0, 0, 0) = true := by decide +kernel
theorem ck_102_239 : decode prog_13_method_39_code 239 = .ok (.if_icmp .ge 15, 3) ∧ lnkB 11 false 239 (.if_icmp .ge 15, 3, 254, 0, 0, 0) = true := by decide +kernel
theorem ck_102_245 : decode prog_13_method_39_code 245 = .ok (.invokevirtual 269, 3) ∧ lnkB 11 false 245 (.invokevirtual 269, 3, 112, 0, 0, 0) = true := by decide +kernel
theorem ck_102_251 : decode prog_13_method_39_code 251 = .ok (.goto (-15), 3) ∧ lnkB 11 false 251 (.goto (-15), 3, 236, 0, 0, 0) = true := by decide +kernel
theorem ck_102_254 : decode prog_13_method_39_code 254 = .ok (.goto 7, 3) ∧ lnkB 11 false 254 (.goto 7, 3, 261, 0, 0, 0) = true := by decide +kernel
theorem ck_102_258 : decode prog_13_method_39_code 258 = .ok (.invokevirtual 272, 3) ∧ lnkB 11 false 258 (.invokevirtual 272, 3, 115, 0, 0, 0) = true := by decide +kernel
theorem ck_102_262 : decode prog_13_method_39_code 262 = .ok (.invokevirtual 275, 3) ∧ lnkB 11 false 262 (.invokevirtual 275, 3, 116, 0, 0, 0) = true := by decide +kernel
theorem ck_102_265 : decode prog_13_method_39_code 265 = .ok (.ifCond .ne 7, 3) ∧ lnkB 11 false 265 (.ifCond .ne 7, 3, 272, 0, 0, 0) = true := by decide +kernel
theorem ck_102_269 : decode prog_13_method_39_code 269 = .ok (.goto 4, 3) ∧ lnkB 11 false 269 (.goto 4, 3, 273, 0, 0, 0) = true := by decide +kernel
theorem ck_102_277 : decode prog_13_method_39_code 277 = .ok (.ifCond .eq (-62), 3) ∧ lnkB 11 false 277 (.ifCond .eq (-62), 3, 215, 0, 0, 0) = true := by decide +kernel
theorem ck_102_282 : decode prog_13_method_39_code 282 = .ok (.invokevirtual 179, 3) ∧ lnkB 11 false 282 (.invokevirtual 179, 3, 92, 0, 0, 0) = true := by decide +kernel
theorem ck_102_285 : decode prog_13_method_39_code 285 = .ok (.goto (-70), 3) ∧ lnkB 11 false 285 (.goto (-70), 3, 215, 0, 0, 0) = true := by decide +kernel
theorem ck_102_306 : decode prog_13_method_39_code 306 = .ok (.invokevirtual 286, 3) ∧ lnkB 11 false 306 (.invokevirtual 286, 3, 117, 0, 0, 0) = true := by decide +kernel
theorem ck_102_313 : decode prog_13_method_39_code 313 = .ok (.ifCond .eq 7, 3) ∧ lnkB 11 false 313 (.ifCond .eq 7, 3, 320, 0, 0, 0) = true := by decide +kernel
theorem ck_102_317 : decode prog_13_method_39_code 317 = .ok (.goto 4, 3) ∧ lnkB 11 false 317 (.goto 4, 3, 321, 0, 0, 0) = true := by decide +kernel
theorem ck_102_321 : decode prog_13_method_39_code 321 = .ok (.ireturn, 1) ∧ lnkB 11 false 321 (.ireturn, 1, 0, 0, 0, 0) = true := by decide +kernel
abbrev RU_102 (d : Nat) (cp : Nat × Nat) (Post : Option Value → Sto → Prop) : PP := Runs (Ex d) prog_13_method_39_code 11 false 9 (some .int) none cp Post
theorem en_102 {d : Nat} {As : List Value} {S : Sto} {mc ms : Nat} {Post : Option Value → Sto → Prop} (hc : cats As ≤ 9) (h : RU_102 d (mc, ms) Post 0 (lv_args 0 As) [] S 0 0) : Ex (d + 1) 102 As S mc ms Post := ⟨by decide, hc, h⟩
def sg_103_0 : List RI := [(.aload_n 0, 1, 0, 0, 0, 0), (.getfield 127, 3, 11, 46, 2, 0), (.bipush 20, 2, 0, 0, 0, 20), (.iload_n 1, 1, 0, 0, 0, 0), (.imul, 1, 0, 0, 0, 0), (.iload_n 2, 1, 0, 0, 0, 0), (.iadd, 1, 0, 0, 0, 0)]
theorem sk_103_0 : segB 11 false prog_13_method_27_code 0 sg_103_0 = true := by decide +kernel
def sg_103_15 : List RI := [(.aload_n 0, 1, 0, 0, 0, 0), (.getfield 127, 3, 11, 46, 2, 0), (.bipush 20, 2, 0, 0, 0, 20), (.iload_n 1, 1, 0, 0, 0, 0), (.imul, 1, 0, 0, 0, 0), (.iload_n 2, 1, 0, 0, 0, 0), (.iadd, 1, 0, 0, 0, 0), (.iconst 1, 1, 0, 0, 0, 1)]
theorem sk_103_15 : segB 11 false prog_13_method_27_code 15 sg_103_15 = true := by decide +kernel
def sg_103_27 : List RI := [(.aload_n 0, 1, 0, 0, 0, 0), (.getfield 121, 3, 11, 44, 2, 0), (.iload_n 1, 1, 0, 0, 0, 0)]
theorem sk_103_27 : segB 11 false prog_13_method_27_code 27 sg_103_27 = true := by decide +kernel
def sg_103_36 : List RI := [(.aload_n 0, 1, 0, 0, 0, 0), (.getfield 83, 3, 11, 27, 2, 0), (.aload_n 0, 1, 0, 0, 0, 0), (.getfield 223, 3, 11, 49, 0, 0)]
theorem sk_103_36 : segB 11 false prog_13_method_27_code 36 sg_103_36 = true := by decide +kernel
def sg_103_45 : List RI := [(.iload_n 1, 1, 0, 0, 0, 0), (.bipush 32, 2, 0, 0, 0, 32), (.idiv, 1, 0, 0, 0, 0), (.ishr, 1, 0, 0, 0, 0), (.iconst 1, 1, 0, 0, 0, 1), (.iand, 1, 0, 0, 0, 0)]
theorem sk_103_45 : segB 11 false prog_13_method_27_code 45 sg_103_45 = true := by decide +kernel
def sg_103_55 : List RI := [(.aload_n 0, 1, 0, 0, 0, 0), (.iload_n 1, 1, 0, 0, 0, 0), (.iconst 1, 1, 0, 0, 0, 1)]
theorem sk_103_55 : segB 11 false prog_13_method_27_code 55 sg_103_55 = true := by decide +kernel
def sg_103_64 : List RI := [(.aload_n 0, 1, 0, 0, 0, 0), (.getfield 80, 3, 11, 26, 2, 0), (.iload_n 1, 1, 0, 0, 0, 0)]
theorem sk_103_64 : segB 11 false prog_13_method_27_code 64 sg_103_64 = true := by decide +kernel
def sg_103_70 : List RI := [(.aload_n 0, 1, 0, 0, 0, 0), (.getfield 176, 3, 11, 1, 0, 0)]
theorem sk_103_70 : segB 11 false prog_13_method_27_code 70 sg_103_70 = true := by decide +kernel
def sg_103_77 : List RI := [(.aload_n 0, 1, 0, 0, 0, 0), (.getfield 121, 3, 11, 44, 2, 0), (.iload_n 1, 1, 0, 0, 0, 0), (.iconst 3, 1, 0, 0, 0, 3)]
theorem sk_103_77 : segB 11 false prog_13_method_27_code 77 sg_103_77 = true := by decide +kernel
def sg_103_87 : List RI := [(.aload_n 0, 1, 0, 0, 0, 0), (.getfield 121, 3, 11, 44, 2, 0), (.iload_n 1, 1, 0, 0, 0, 0), (.iconst 1, 1, 0, 0, 0, 1)]
theorem sk_103_87 : segB 11 false prog_13_method_27_code 87 sg_103_87 = true := by decide +kernel
def sg_103_94 : List RI := [(.aload_n 0, 1, 0, 0, 0, 0), (.getfield 130, 3, 11, 48, 2, 0), (.aload_n 0, 1, 0, 0, 0, 0), (.getfield 229, 3, 11, 47, 0, 0), (.iload_n 1, 1, 0, 0, 0, 0)]
theorem sk_103_94 : segB 11 false prog_13_method_27_code 94 sg_103_94 = true := by decide +kernel
def sg_103_104 : List RI := [(.aload_n 0, 1, 0, 0, 0, 0), (.dup, 1, 0, 0, 0, 0), (.getfield 229, 3, 11, 47, 0, 0), (.iconst 1, 1, 0, 0, 0, 1), (.iadd, 1, 0, 0, 0, 0), (.putfield 229, 3, 11, 47, 0, 0), (.aload_n 0, 1, 0, 0, 0, 0), (.dup, 1, 0, 0, 0, 0), (.getfield 232, 3, 11, 50, 0, 0), (.iconst 1, 1, 0, 0, 0, 1), (.iadd, 1, 0, 0, 0, 0), (.putfield 232, 3, 11, 50, 0, 0)]
theorem sk_103_104 : segB 11 false prog_13_method_27_code 104 sg_103_104 = true := by decide +kernel
def sg_103_124 : List RI := [(.aload_n 0, 1, 0, 0, 0, 0), (.getfield 121, 3, 11, 44, 2, 0), (.iload_n 1, 1, 0, 0, 0, 0)]
theorem sk_103_124 : segB 11 false prog_13_method_27_code 124 sg_103_124 = true := by decide +kernel
def sg_103_130 : List RI := [(.iconst 3, 1, 0, 0, 0, 3)]
theorem sk_103_130 : segB 11 false prog_13_method_27_code 130 sg_103_130 = true := by decide +kernel
def sg_103_134 : List RI := [(.aload_n 0, 1, 0, 0, 0, 0), (.iload_n 1, 1, 0, 0, 0, 0), (.iload_n 2, 1, 0, 0, 0, 0)]
theorem sk_103_134 : segB 11 false prog_13_method_27_code 134 sg_103_134 = true := by decide +kernel
theorem ca_103_10 : decode prog_13_method_27_code 10 = .ok (.baload, 1) ∧ lnkB 11 false 10 (.baload, 1, 15, 0, 0, 0) = true := by decide +kernel
theorem ck_103_11 : decode prog_13_method_27_code 11 = .ok (.ifCond .eq 4, 3) ∧ lnkB 11 false 11 (.ifCond .eq 4, 3, 15, 0, 0, 0) = true := by decide +kernel
theorem ck_103_14 : decode prog_13_method_27_code 14 = .ok (.return_, 1) ∧ lnkB 11 false 14 (.return_, 1, 0, 0, 0, 0) = true := by decide +kernel
theorem ca_103_26 : decode prog_13_method_27_code 26 = .ok (.bastore, 1) ∧ lnkB 11 false 26 (.bastore, 1, 15, 0, 0, 0) = true := by decide +kernel
theorem ca_103_32 : decode prog_13_method_27_code 32 = .ok (.iaload, 1) ∧ lnkB 11 false 32 (.iaload, 1, 0, 0, 0, 0) = true := by decide +kernel
theorem ck_103_33 : decode prog_13_method_27_code 33 = .ok (.ifCond .ne 91, 3) ∧ lnkB 11 false 33 (.ifCond .ne 91, 3, 124, 0, 0, 0) = true := by decide +kernel
theorem ca_103_44 : decode prog_13_method_27_code 44 = .ok (.iaload, 1) ∧ lnkB 11 false 44 (.iaload, 1, 0, 0, 0, 0) = true := by decide +kernel
theorem ck_103_52 : decode prog_13_method_27_code 52 = .ok (.ifCond .ne 12, 3) ∧ lnkB 11 false 52 (.ifCond .ne 12, 3, 64, 0, 0, 0) = true := by decide +kernel
theorem ck_103_58 : decode prog_13_method_27_code 58 = .ok (.invokevirtual 226, 3) ∧ lnkB 11 false 58 (.invokevirtual 226, 3, 104, 0, 0, 0) = true := by decide +kernel
theorem ck_103_61 : decode prog_13_method_27_code 61 = .ok (.goto 63, 3) ∧ lnkB 11 false 61 (.goto 63, 3, 124, 0, 0, 0) = true := by decide +kernel
theorem ca_103_69 : decode prog_13_method_27_code 69 = .ok (.iaload, 1) ∧ lnkB 11 false 69 (.iaload, 1, 0, 0, 0, 0) = true := by decide +kernel
theorem ck_103_74 : decode prog_13_method_27_code 74 = .ok (.if_icmp .le 13, 3) ∧ lnkB 11 false 74 (.if_icmp .le 13, 3, 87, 0, 0, 0) = true := by decide +kernel
theorem ca_103_83 : decode prog_13_method_27_code 83 = .ok (.iastore, 1) ∧ lnkB 11 false 83 (.iastore, 1, 0, 0, 0, 0) = true := by decide +kernel
theorem ck_103_84 : decode prog_13_method_27_code 84 = .ok (.goto 40, 3) ∧ lnkB 11 false 84 (.goto 40, 3, 124, 0, 0, 0) = true := by decide +kernel
theorem ca_103_93 : decode prog_13_method_27_code 93 = .ok (.iastore, 1) ∧ lnkB 11 false 93 (.iastore, 1, 0, 0, 0, 0) = true := by decide +kernel
theorem ca_103_103 : decode prog_13_method_27_code 103 = .ok (.iastore, 1) ∧ lnkB 11 false 103 (.iastore, 1, 0, 0, 0, 0) = true := by decide +kernel
theorem ca_103_129 : decode prog_13_method_27_code 129 = .ok (.iaload, 1) ∧ lnkB 11 false 129 (.iaload, 1, 0, 0, 0, 0) = true := by decide +kernel
theorem ck_103_131 : decode prog_13_method_27_code 131 = .ok (.if_icmp .ne 9, 3) ∧ lnkB 11 false 131 (.if_icmp .ne 9, 3, 140, 0, 0, 0) = true := by decide +kernel
theorem ck_103_137 : decode prog_13_method_27_code 137 = .ok (.invokevirtual 235, 3) ∧ lnkB 11 false 137 (.invokevirtual 235, 3, 105, 0, 0, 0) = true := by decide +kernel
theorem ck_103_140 : decode prog_13_method_27_code 140 = .ok (.return_, 1) ∧ lnkB 11 false 140 (.return_, 1, 0, 0, 0, 0) = true := by decide +kernel
abbrev RU_103 (d : Nat) (cp : Nat × Nat) (Post : Option Value → Sto → Prop) : PP := Runs (Ex d) prog_13_method_27_code 11 false 3 none none cp Post
theorem en_103 {d : Nat} {As : List Value} {S : Sto} {mc ms : Nat} {Post : Option Value → Sto → Prop} (hc : cats As ≤ 3) (h : RU_103 d (mc, ms) Post 0 (lv_args 0 As) [] S 0 0) : Ex (d + 1) 103 As S mc ms Post := ⟨by decide, hc, h⟩
def sg_104_0 : List RI := [(.aload_n 0, 1, 0, 0, 0, 0), (.getfield 121, 3, 11, 44, 2, 0), (.iload_n 1, 1, 0, 0, 0, 0), (.iconst 4, 1, 0, 0, 0, 4)]
theorem sk_104_0 : segB 11 false prog_13_method_26_code 0 sg_104_0 = true := by decide +kernel
def sg_104_7 : List RI := [(.aload_n 0, 1, 0, 0, 0, 0), (.getfield 124, 3, 11, 45, 2, 0), (.iload_n 1, 1, 0, 0, 0, 0), (.iload_n 2, 1, 0, 0, 0, 0)]
theorem sk_104_7 : segB 11 false prog_13_method_26_code 7 sg_104_7 = true := by decide +kernel
theorem ca_104_6 : decode prog_13_method_26_code 6 = .ok (.iastore, 1) ∧ lnkB 11 false 6 (.iastore, 1, 0, 0, 0, 0) = true := by decide +kernel
theorem ca_104_13 : decode prog_13_method_26_code 13 = .ok (.iastore, 1) ∧ lnkB 11 false 13 (.iastore, 1, 0, 0, 0, 0) = true := by decide +kernel
theorem ck_104_14 : decode prog_13_method_26_code 14 = .ok (.return_, 1) ∧ lnkB 11 false 14 (.return_, 1, 0, 0, 0, 0) = true := by decide +kernel
abbrev RU_104 (d : Nat) (cp : Nat × Nat) (Post : Option Value → Sto → Prop) : PP := Runs (Ex d) prog_13_method_26_code 11 false 3 none none cp Post
theorem en_104 {d : Nat} {As : List Value} {S : Sto} {mc ms : Nat} {Post : Option Value → Sto → Prop} (hc : cats As ≤ 3) (h : RU_104 d (mc, ms) Post 0 (lv_args 0 As) [] S 0 0) : Ex (d + 1) 104 As S mc ms Post := ⟨by decide, hc, h⟩
def sg_105_0 : List RI := [(.iconst 0, 1, 0, 0, 0, 0), (.istore_n 3, 1, 0, 0, 0, 0)]
theorem sk_105_0 : segB 11 false prog_13_method_30_code 0 sg_105_0 = true := by decide +kernel
def sg_105_2 : List RI := [(.iload_n 3, 1, 0, 0, 0, 0), (.aload_n 0, 1, 0, 0, 0, 0), (.getfield 105, 3, 11, 38, 2, 0), (.iload_n 2, 1, 0, 0, 0, 0)]
theorem sk_105_2 : segB 11 false prog_13_method_30_code 2 sg_105_2 = true := by decide +kernel
def sg_105_12 : List RI := [(.aload_n 0, 1, 0, 0, 0, 0), (.getfield 108, 3, 11, 39, 2, 0), (.bipush 6, 2, 0, 0, 0, 6), (.iload_n 2, 1, 0, 0, 0, 0), (.imul, 1, 0, 0, 0, 0), (.iload_n 3, 1, 0, 0, 0, 0), (.iadd, 1, 0, 0, 0, 0)]
theorem sk_105_12 : segB 11 false prog_13_method_30_code 12 sg_105_12 = true := by decide +kernel
def sg_105_23 : List RI := [(.istore 4, 2, 0, 0, 0, 0), (.iconst 4, 1, 0, 0, 0, 4), (.iload_n 1, 1, 0, 0, 0, 0), (.bipush 32, 2, 0, 0, 0, 32), (.idiv, 1, 0, 0, 0, 0), (.imul, 1, 0, 0, 0, 0), (.iload 4, 2, 0, 0, 0, 0), (.iadd, 1, 0, 0, 0, 0), (.istore 5, 2, 0, 0, 0, 0), (.aload_n 0, 1, 0, 0, 0, 0), (.getfield 111, 3, 11, 40, 2, 0), (.bipush 6, 2, 0, 0, 0, 6), (.iload_n 2, 1, 0, 0, 0, 0), (.imul, 1, 0, 0, 0, 0), (.iload_n 3, 1, 0, 0, 0, 0), (.iadd, 1, 0, 0, 0, 0)]
theorem sk_105_23 : segB 11 false prog_13_method_30_code 23 sg_105_23 = true := by decide +kernel
def sg_105_47 : List RI := [(.istore 6, 2, 0, 0, 0, 0), (.aload_n 0, 1, 0, 0, 0, 0), (.getfield 52, 3, 11, 17, 2, 0), (.iload 5, 2, 0, 0, 0, 0)]
theorem sk_105_47 : segB 11 false prog_13_method_30_code 47 sg_105_47 = true := by decide +kernel
def sg_105_56 : List RI := [(.iconst 1, 1, 0, 0, 0, 1)]
theorem sk_105_56 : segB 11 false prog_13_method_30_code 56 sg_105_56 = true := by decide +kernel
def sg_105_60 : List RI := [(.aload_n 0, 1, 0, 0, 0, 0), (.getfield 71, 3, 11, 23, 2, 0), (.iconst 4, 1, 0, 0, 0, 4), (.iload_n 1, 1, 0, 0, 0, 0), (.imul, 1, 0, 0, 0, 0), (.iload 4, 2, 0, 0, 0, 0), (.iadd, 1, 0, 0, 0, 0)]
theorem sk_105_60 : segB 11 false prog_13_method_30_code 60 sg_105_60 = true := by decide +kernel
def sg_105_71 : List RI := [(.iconst (-1), 1, 0, 0, 0, -1)]
theorem sk_105_71 : segB 11 false prog_13_method_30_code 71 sg_105_71 = true := by decide +kernel
def sg_105_75 : List RI := [(.aload_n 0, 1, 0, 0, 0, 0), (.bipush 32, 2, 0, 0, 0, 32), (.aload_n 0, 1, 0, 0, 0, 0), (.getfield 55, 3, 11, 18, 2, 0), (.iload 5, 2, 0, 0, 0, 0)]
theorem sk_105_75 : segB 11 false prog_13_method_30_code 75 sg_105_75 = true := by decide +kernel
def sg_105_85 : List RI := [(.imul, 1, 0, 0, 0, 0), (.aload_n 0, 1, 0, 0, 0, 0), (.getfield 71, 3, 11, 23, 2, 0), (.iconst 4, 1, 0, 0, 0, 4), (.iload_n 1, 1, 0, 0, 0, 0), (.imul, 1, 0, 0, 0, 0), (.iload 4, 2, 0, 0, 0, 0), (.iadd, 1, 0, 0, 0, 0)]
theorem sk_105_85 : segB 11 false prog_13_method_30_code 85 sg_105_85 = true := by decide +kernel
def sg_105_97 : List RI := [(.iadd, 1, 0, 0, 0, 0), (.iload 6, 2, 0, 0, 0, 0)]
theorem sk_105_97 : segB 11 false prog_13_method_30_code 97 sg_105_97 = true := by decide +kernel
def sg_105_106 : List RI := [(.aload_n 0, 1, 0, 0, 0, 0), (.getfield 52, 3, 11, 17, 2, 0), (.iload 5, 2, 0, 0, 0, 0)]
theorem sk_105_106 : segB 11 false prog_13_method_30_code 106 sg_105_106 = true := by decide +kernel
def sg_105_113 : List RI := [(.iconst 2, 1, 0, 0, 0, 2)]
theorem sk_105_113 : segB 11 false prog_13_method_30_code 113 sg_105_113 = true := by decide +kernel
def sg_105_117 : List RI := [(.iconst 0, 1, 0, 0, 0, 0), (.istore 7, 2, 0, 0, 0, 0)]
theorem sk_105_117 : segB 11 false prog_13_method_30_code 117 sg_105_117 = true := by decide +kernel
def sg_105_120 : List RI := [(.iload 7, 2, 0, 0, 0, 0), (.aload_n 0, 1, 0, 0, 0, 0), (.iload_n 1, 1, 0, 0, 0, 0), (.iload 4, 2, 0, 0, 0, 0)]
theorem sk_105_120 : segB 11 false prog_13_method_30_code 120 sg_105_120 = true := by decide +kernel
def sg_105_132 : List RI := [(.aload_n 0, 1, 0, 0, 0, 0), (.bipush 32, 2, 0, 0, 0, 32), (.aload_n 0, 1, 0, 0, 0, 0), (.getfield 55, 3, 11, 18, 2, 0), (.iload 5, 2, 0, 0, 0, 0)]
theorem sk_105_132 : segB 11 false prog_13_method_30_code 132 sg_105_132 = true := by decide +kernel
def sg_105_142 : List RI := [(.imul, 1, 0, 0, 0, 0), (.aload_n 0, 1, 0, 0, 0, 0), (.iload_n 1, 1, 0, 0, 0, 0), (.iload 4, 2, 0, 0, 0, 0), (.iload 7, 2, 0, 0, 0, 0)]
theorem sk_105_142 : segB 11 false prog_13_method_30_code 142 sg_105_142 = true := by decide +kernel
def sg_105_152 : List RI := [(.iadd, 1, 0, 0, 0, 0), (.iload 6, 2, 0, 0, 0, 0)]
theorem sk_105_152 : segB 11 false prog_13_method_30_code 152 sg_105_152 = true := by decide +kernel
def sg_105_158 : List RI := [(.iinc 7 1, 3, 0, 0, 0, 1)]
theorem sk_105_158 : segB 11 false prog_13_method_30_code 158 sg_105_158 = true := by decide +kernel
def sg_105_164 : List RI := [(.iinc 3 1, 3, 0, 0, 0, 1)]
theorem sk_105_164 : segB 11 false prog_13_method_30_code 164 sg_105_164 = true := by decide +kernel
theorem ca_105_8 : decode prog_13_method_30_code 8 = .ok (.iaload, 1) ∧ lnkB 11 false 8 (.iaload, 1, 0, 0, 0, 0) = true := by decide +kernel
theorem ck_105_9 : decode prog_13_method_30_code 9 = .ok (.if_icmp .ge 161, 3) ∧ lnkB 11 false 9 (.if_icmp .ge 161, 3, 170, 0, 0, 0) = true := by decide +kernel
theorem ca_105_22 : decode prog_13_method_30_code 22 = .ok (.iaload, 1) ∧ lnkB 11 false 22 (.iaload, 1, 0, 0, 0, 0) = true := by decide +kernel
theorem ca_105_46 : decode prog_13_method_30_code 46 = .ok (.iaload, 1) ∧ lnkB 11 false 46 (.iaload, 1, 0, 0, 0, 0) = true := by decide +kernel
theorem ca_105_55 : decode prog_13_method_30_code 55 = .ok (.iaload, 1) ∧ lnkB 11 false 55 (.iaload, 1, 0, 0, 0, 0) = true := by decide +kernel
theorem ck_105_57 : decode prog_13_method_30_code 57 = .ok (.if_icmp .ne 49, 3) ∧ lnkB 11 false 57 (.if_icmp .ne 49, 3, 106, 0, 0, 0) = true := by decide +kernel
theorem ca_105_70 : decode prog_13_method_30_code 70 = .ok (.iaload, 1) ∧ lnkB 11 false 70 (.iaload, 1, 0, 0, 0, 0) = true := by decide +kernel
theorem ck_105_72 : decode prog_13_method_30_code 72 = .ok (.if_icmp .eq 34, 3) ∧ lnkB 11 false 72 (.if_icmp .eq 34, 3, 106, 0, 0, 0) = true := by decide +kernel
theorem ca_105_84 : decode prog_13_method_30_code 84 = .ok (.iaload, 1) ∧ lnkB 11 false 84 (.iaload, 1, 0, 0, 0, 0) = true := by decide +kernel
theorem ca_105_96 : decode prog_13_method_30_code 96 = .ok (.iaload, 1) ∧ lnkB 11 false 96 (.iaload, 1, 0, 0, 0, 0) = true := by decide +kernel
theorem ck_105_100 : decode prog_13_method_30_code 100 = .ok (.invokevirtual 237, 3) ∧ lnkB 11 false 100 (.invokevirtual 237, 3, 103, 0, 0, 0) = true := by decide +kernel
theorem ck_105_103 : decode prog_13_method_30_code 103 = .ok (.goto 61, 3) ∧ lnkB 11 false 103 (.goto 61, 3, 164, 0, 0, 0) = true := by decide +kernel
theorem ca_105_112 : decode prog_13_method_30_code 112 = .ok (.iaload, 1) ∧ lnkB 11 false 112 (.iaload, 1, 0, 0, 0, 0) = true := by decide +kernel
theorem ck_105_114 : decode prog_13_method_30_code 114 = .ok (.if_icmp .ne 50, 3) ∧ lnkB 11 false 114 (.if_icmp .ne 50, 3, 164, 0, 0, 0) = true := by decide +kernel
theorem ck_105_126 : decode prog_13_method_30_code 126 = .ok (.invokevirtual 240, 3) ∧ lnkB 11 false 126 (.invokevirtual 240, 3, 106, 0, 0, 0) = true := by decide +kernel
theorem ck_105_129 : decode prog_13_method_30_code 129 = .ok (.if_icmp .ge 35, 3) ∧ lnkB 11 false 129 (.if_icmp .ge 35, 3, 164, 0, 0, 0) = true := by decide +kernel
theorem ca_105_141 : decode prog_13_method_30_code 141 = .ok (.iaload, 1) ∧ lnkB 11 false 141 (.iaload, 1, 0, 0, 0, 0) = true := by decide +kernel
theorem ck_105_149 : decode prog_13_method_30_code 149 = .ok (.invokevirtual 244, 3) ∧ lnkB 11 false 149 (.invokevirtual 244, 3, 107, 0, 0, 0) = true := by decide +kernel
theorem ck_105_155 : decode prog_13_method_30_code 155 = .ok (.invokevirtual 237, 3) ∧ lnkB 11 false 155 (.invokevirtual 237, 3, 103, 0, 0, 0) = true := by decide +kernel
theorem ck_105_161 : decode prog_13_method_30_code 161 = .ok (.goto (-41), 3) ∧ lnkB 11 false 161 (.goto (-41), 3, 120, 0, 0, 0) = true := by decide +kernel
theorem ck_105_167 : decode prog_13_method_30_code 167 = .ok (.goto (-165), 3) ∧ lnkB 11 false 167 (.goto (-165), 3, 2, 0, 0, 0) = true := by decide +kernel
theorem ck_105_170 : decode prog_13_method_30_code 170 = .ok (.return_, 1) ∧ lnkB 11 false 170 (.return_, 1, 0, 0, 0, 0) = true := by decide +kernel
abbrev RU_105 (d : Nat) (cp : Nat × Nat) (Post : Option Value → Sto → Prop) : PP := Runs (Ex d) prog_13_method_30_code 11 false 8 none none cp Post
theorem en_105 {d : Nat} {As : List Value} {S : Sto} {mc ms : Nat} {Post : Option Value → Sto → Prop} (hc : cats As ≤ 8) (h : RU_105 d (mc, ms) Post 0 (lv_args 0 As) [] S 0 0) : Ex (d + 1) 105 As S mc ms Post := ⟨by decide, hc, h⟩
def sg_106_0 : List RI := [(.aload_n 0, 1, 0, 0, 0, 0), (.getfield 74, 3, 11, 24, 2, 0), (.iconst 4, 1, 0, 0, 0, 4), (.iload_n 1, 1, 0, 0, 0, 0), (.imul, 1, 0, 0, 0, 0), (.iload_n 2, 1, 0, 0, 0, 0), (.iadd, 1, 0, 0, 0, 0)]
theorem sk_106_0 : segB 11 false prog_13_method_28_code 0 sg_106_0 = true := by decide +kernel
def sg_106_10 : List RI := [(.istore_n 3, 1, 0, 0, 0, 0), (.aload_n 0, 1, 0, 0, 0, 0), (.getfield 58, 3, 11, 19, 2, 0), (.iconst 4, 1, 0, 0, 0, 4), (.iload_n 1, 1, 0, 0, 0, 0), (.bipush 32, 2, 0, 0, 0, 32), (.idiv, 1, 0, 0, 0, 0), (.imul, 1, 0, 0, 0, 0), (.iload_n 2, 1, 0, 0, 0, 0), (.iadd, 1, 0, 0, 0, 0)]
theorem sk_106_10 : segB 11 false prog_13_method_28_code 10 sg_106_10 = true := by decide +kernel
def sg_106_24 : List RI := [(.istore 4, 2, 0, 0, 0, 0), (.iload_n 3, 1, 0, 0, 0, 0), (.iload 4, 2, 0, 0, 0, 0)]
theorem sk_106_24 : segB 11 false prog_13_method_28_code 24 sg_106_24 = true := by decide +kernel
def sg_106_32 : List RI := [(.iload_n 3, 1, 0, 0, 0, 0)]
theorem sk_106_32 : segB 11 false prog_13_method_28_code 32 sg_106_32 = true := by decide +kernel
def sg_106_36 : List RI := [(.iload 4, 2, 0, 0, 0, 0)]
theorem sk_106_36 : segB 11 false prog_13_method_28_code 36 sg_106_36 = true := by decide +kernel
theorem ca_106_9 : decode prog_13_method_28_code 9 = .ok (.iaload, 1) ∧ lnkB 11 false 9 (.iaload, 1, 0, 0, 0, 0) = true := by decide +kernel
theorem ca_106_23 : decode prog_13_method_28_code 23 = .ok (.iaload, 1) ∧ lnkB 11 false 23 (.iaload, 1, 0, 0, 0, 0) = true := by decide +kernel
theorem ck_106_29 : decode prog_13_method_28_code 29 = .ok (.if_icmp .ge 7, 3) ∧ lnkB 11 false 29 (.if_icmp .ge 7, 3, 36, 0, 0, 0) = true := by decide +kernel
theorem ck_106_33 : decode prog_13_method_28_code 33 = .ok (.goto 5, 3) ∧ lnkB 11 false 33 (.goto 5, 3, 38, 0, 0, 0) = true := by decide +kernel
theorem ck_106_38 : decode prog_13_method_28_code 38 = .ok (.ireturn, 1) ∧ lnkB 11 false 38 (.ireturn, 1, 0, 0, 0, 0) = true := by decide +kernel
abbrev RU_106 (d : Nat) (cp : Nat × Nat) (Post : Option Value → Sto → Prop) : PP := Runs (Ex d) prog_13_method_28_code 11 false 5 (some .int) none cp Post
theorem en_106 {d : Nat} {As : List Value} {S : Sto} {mc ms : Nat} {Post : Option Value → Sto → Prop} (hc : cats As ≤ 5) (h : RU_106 d (mc, ms) Post 0 (lv_args 0 As) [] S 0 0) : Ex (d + 1) 106 As S mc ms Post := ⟨by decide, hc, h⟩
def sg_107_0 : List RI := [(.aload_n 0, 1, 0, 0, 0, 0), (.getfield 77, 3, 11, 25, 2, 0), (.iconst 4, 1, 0, 0, 0, 4), (.iload_n 1, 1, 0, 0, 0, 0), (.imul, 1, 0, 0, 0, 0), (.iload_n 2, 1, 0, 0, 0, 0), (.iadd, 1, 0, 0, 0, 0)]
theorem sk_107_0 : segB 11 false prog_13_method_29_code 0 sg_107_0 = true := by decide +kernel
def sg_107_10 : List RI := [(.iconst 5, 1, 0, 0, 0, 5), (.iload_n 3, 1, 0, 0, 0, 0), (.imul, 1, 0, 0, 0, 0), (.ishr, 1, 0, 0, 0, 0), (.bipush 31, 2, 0, 0, 0, 31), (.iand, 1, 0, 0, 0, 0)]
theorem sk_107_10 : segB 11 false prog_13_method_29_code 10 sg_107_10 = true := by decide +kernel
theorem ca_107_9 : decode prog_13_method_29_code 9 = .ok (.iaload, 1) ∧ lnkB 11 false 9 (.iaload, 1, 0, 0, 0, 0) = true := by decide +kernel
theorem ck_107_17 : decode prog_13_method_29_code 17 = .ok (.ireturn, 1) ∧ lnkB 11 false 17 (.ireturn, 1, 0, 0, 0, 0) = true := by decide +kernel
abbrev RU_107 (d : Nat) (cp : Nat × Nat) (Post : Option Value → Sto → Prop) : PP := Runs (Ex d) prog_13_method_29_code 11 false 4 (some .int) none cp Post
theorem en_107 {d : Nat} {As : List Value} {S : Sto} {mc ms : Nat} {Post : Option Value → Sto → Prop} (hc : cats As ≤ 4) (h : RU_107 d (mc, ms) Post 0 (lv_args 0 As) [] S 0 0) : Ex (d + 1) 107 As S mc ms Post := ⟨by decide, hc, h⟩
def sg_108_0 : List RI := [(.aload_n 0, 1, 0, 0, 0, 0), (.getfield 254, 3, 11, 51, 0, 0), (.istore_n 1, 1, 0, 0, 0, 0), (.iconst 0, 1, 0, 0, 0, 0), (.istore_n 2, 1, 0, 0, 0, 0)]
theorem sk_108_0 : segB 11 false prog_13_method_37_code 0 sg_108_0 = true := by decide +kernel
def sg_108_7 : List RI := [(.iload_n 2, 1, 0, 0, 0, 0), (.iload_n 1, 1, 0, 0, 0, 0)]
theorem sk_108_7 : segB 11 false prog_13_method_37_code 7 sg_108_7 = true := by decide +kernel
def sg_108_12 : List RI := [(.aload_n 0, 1, 0, 0, 0, 0), (.getfield 145, 3, 11, 56, 2, 0), (.iload_n 2, 1, 0, 0, 0, 0)]
theorem sk_108_12 : segB 11 false prog_13_method_37_code 12 sg_108_12 = true := by decide +kernel
def sg_108_18 : List RI := [(.iconst 3, 1, 0, 0, 0, 3)]
theorem sk_108_18 : segB 11 false prog_13_method_37_code 18 sg_108_18 = true := by decide +kernel
def sg_108_22 : List RI := [(.aload_n 0, 1, 0, 0, 0, 0), (.getfield 139, 3, 11, 54, 2, 0), (.iload_n 2, 1, 0, 0, 0, 0)]
theorem sk_108_22 : segB 11 false prog_13_method_37_code 22 sg_108_22 = true := by decide +kernel
def sg_108_28 : List RI := [(.aload_n 0, 1, 0, 0, 0, 0), (.getfield 9, 3, 11, 2, 2, 0), (.aload_n 0, 1, 0, 0, 0, 0), (.getfield 133, 3, 11, 52, 2, 0), (.iload_n 2, 1, 0, 0, 0, 0)]
theorem sk_108_28 : segB 11 false prog_13_method_37_code 28 sg_108_28 = true := by decide +kernel
def sg_108_39 : List RI := [(.iadd, 1, 0, 0, 0, 0), (.aload_n 0, 1, 0, 0, 0, 0), (.getfield 176, 3, 11, 1, 0, 0)]
theorem sk_108_39 : segB 11 false prog_13_method_37_code 39 sg_108_39 = true := by decide +kernel
def sg_108_47 : List RI := [(.aload_n 0, 1, 0, 0, 0, 0), (.iload_n 2, 1, 0, 0, 0, 0)]
theorem sk_108_47 : segB 11 false prog_13_method_37_code 47 sg_108_47 = true := by decide +kernel
def sg_108_52 : List RI := [(.iinc 2 1, 3, 0, 0, 0, 1)]
theorem sk_108_52 : segB 11 false prog_13_method_37_code 52 sg_108_52 = true := by decide +kernel
theorem ck_108_9 : decode prog_13_method_37_code 9 = .ok (.if_icmp .ge 49, 3) ∧ lnkB 11 false 9 (.if_icmp .ge 49, 3, 58, 0, 0, 0) = true := by decide +kernel
theorem ca_108_17 : decode prog_13_method_37_code 17 = .ok (.iaload, 1) ∧ lnkB 11 false 17 (.iaload, 1, 0, 0, 0, 0) = true := by decide +kernel
theorem ck_108_19 : decode prog_13_method_37_code 19 = .ok (.if_icmp .ne 33, 3) ∧ lnkB 11 false 19 (.if_icmp .ne 33, 3, 52, 0, 0, 0) = true := by decide +kernel
theorem ca_108_27 : decode prog_13_method_37_code 27 = .ok (.iaload, 1) ∧ lnkB 11 false 27 (.iaload, 1, 0, 0, 0, 0) = true := by decide +kernel
theorem ca_108_37 : decode prog_13_method_37_code 37 = .ok (.iaload, 1) ∧ lnkB 11 false 37 (.iaload, 1, 0, 0, 0, 0) = true := by decide +kernel
theorem ca_108_38 : decode prog_13_method_37_code 38 = .ok (.iaload, 1) ∧ lnkB 11 false 38 (.iaload, 1, 0, 0, 0, 0) = true := by decide +kernel
theorem ck_108_44 : decode prog_13_method_37_code 44 = .ok (.if_icmp .ne 8, 3) ∧ lnkB 11 false 44 (.if_icmp .ne 8, 3, 52, 0, 0, 0) = true := by decide +kernel
theorem ck_108_49 : decode prog_13_method_37_code 49 = .ok (.invokevirtual 263, 3) ∧ lnkB 11 false 49 (.invokevirtual 263, 3, 109, 0, 0, 0) = true := by decide +kernel
theorem ck_108_55 : decode prog_13_method_37_code 55 = .ok (.goto (-48), 3) ∧ lnkB 11 false 55 (.goto (-48), 3, 7, 0, 0, 0) = true := by decide +kernel
theorem ck_108_58 : decode prog_13_method_37_code 58 = .ok (.return_, 1) ∧ lnkB 11 false 58 (.return_, 1, 0, 0, 0, 0) = true := by decide +kernel
abbrev RU_108 (d : Nat) (cp : Nat × Nat) (Post : Option Value → Sto → Prop) : PP := Runs (Ex d) prog_13_method_37_code 11 false 3 none none cp Post
theorem en_108 {d : Nat} {As : List Value} {S : Sto} {mc ms : Nat} {Post : Option Value → Sto → Prop} (hc : cats As ≤ 3) (h : RU_108 d (mc, ms) Post 0 (lv_args 0 As) [] S 0 0) : Ex (d + 1) 108 As S mc ms Post := ⟨by decide, hc, h⟩
def sg_109_0 : List RI := [(.aload_n 0, 1, 0, 0, 0, 0), (.getfield 133, 3, 11, 52, 2, 0), (.iload_n 1, 1, 0, 0, 0, 0)]
theorem sk_109_0 : segB 11 false prog_13_method_32_code 0 sg_109_0 = true := by decide +kernel
def sg_109_6 : List RI := [(.istore_n 2, 1, 0, 0, 0, 0), (.aload_n 0, 1, 0, 0, 0, 0), (.iload_n 2, 1, 0, 0, 0, 0), (.aload_n 0, 1, 0, 0, 0, 0), (.getfield 139, 3, 11, 54, 2, 0), (.iload_n 1, 1, 0, 0, 0, 0)]
theorem sk_109_6 : segB 11 false prog_13_method_32_code 6 sg_109_6 = true := by decide +kernel
def sg_109_18 : List RI := [(.istore_n 3, 1, 0, 0, 0, 0), (.aload_n 0, 1, 0, 0, 0, 0), (.getfield 145, 3, 11, 56, 2, 0), (.iload_n 1, 1, 0, 0, 0, 0), (.iload_n 3, 1, 0, 0, 0, 0)]
theorem sk_109_18 : segB 11 false prog_13_method_32_code 18 sg_109_18 = true := by decide +kernel
def sg_109_28 : List RI := [(.iconst 1, 1, 0, 0, 0, 1)]
theorem sk_109_28 : segB 11 false prog_13_method_32_code 28 sg_109_28 = true := by decide +kernel
def sg_109_32 : List RI := [(.iconst 0, 1, 0, 0, 0, 0)]
theorem sk_109_32 : segB 11 false prog_13_method_32_code 32 sg_109_32 = true := by decide +kernel
def sg_109_34 : List RI := [(.aload_n 0, 1, 0, 0, 0, 0), (.getfield 31, 3, 11, 9, 2, 0), (.iload_n 2, 1, 0, 0, 0, 0)]
theorem sk_109_34 : segB 11 false prog_13_method_32_code 34 sg_109_34 = true := by decide +kernel
def sg_109_40 : List RI := [(.iload_n 1, 1, 0, 0, 0, 0)]
theorem sk_109_40 : segB 11 false prog_13_method_32_code 40 sg_109_40 = true := by decide +kernel
def sg_109_44 : List RI := [(.iload_n 3, 1, 0, 0, 0, 0)]
theorem sk_109_44 : segB 11 false prog_13_method_32_code 44 sg_109_44 = true := by decide +kernel
def sg_109_48 : List RI := [(.aload_n 0, 1, 0, 0, 0, 0), (.iload_n 2, 1, 0, 0, 0, 0)]
theorem sk_109_48 : segB 11 false prog_13_method_32_code 48 sg_109_48 = true := by decide +kernel
def sg_109_56 : List RI := [(.aload_n 0, 1, 0, 0, 0, 0), (.getfield 28, 3, 11, 8, 2, 0), (.iload_n 2, 1, 0, 0, 0, 0), (.iconst (-1), 1, 0, 0, 0, -1)]
theorem sk_109_56 : segB 11 false prog_13_method_32_code 56 sg_109_56 = true := by decide +kernel
def sg_109_63 : List RI := [(.aload_n 0, 1, 0, 0, 0, 0), (.getfield 25, 3, 11, 7, 2, 0), (.iload_n 2, 1, 0, 0, 0, 0), (.iconst 0, 1, 0, 0, 0, 0)]
theorem sk_109_63 : segB 11 false prog_13_method_32_code 63 sg_109_63 = true := by decide +kernel
def sg_109_70 : List RI := [(.aload_n 0, 1, 0, 0, 0, 0), (.getfield 31, 3, 11, 9, 2, 0), (.iload_n 2, 1, 0, 0, 0, 0), (.iconst (-1), 1, 0, 0, 0, -1)]
theorem sk_109_70 : segB 11 false prog_13_method_32_code 70 sg_109_70 = true := by decide +kernel
def sg_109_80 : List RI := [(.aload_n 0, 1, 0, 0, 0, 0), (.getfield 28, 3, 11, 8, 2, 0), (.iload_n 2, 1, 0, 0, 0, 0)]
theorem sk_109_80 : segB 11 false prog_13_method_32_code 80 sg_109_80 = true := by decide +kernel
def sg_109_86 : List RI := [(.iconst (-1), 1, 0, 0, 0, -1)]
theorem sk_109_86 : segB 11 false prog_13_method_32_code 86 sg_109_86 = true := by decide +kernel
def sg_109_90 : List RI := [(.aload_n 0, 1, 0, 0, 0, 0), (.getfield 19, 3, 11, 5, 2, 0), (.iload_n 2, 1, 0, 0, 0, 0)]
theorem sk_109_90 : segB 11 false prog_13_method_32_code 90 sg_109_90 = true := by decide +kernel
def sg_109_99 : List RI := [(.aload_n 0, 1, 0, 0, 0, 0), (.getfield 25, 3, 11, 7, 2, 0), (.iload_n 2, 1, 0, 0, 0, 0), (.iload_n 3, 1, 0, 0, 0, 0)]
theorem sk_109_99 : segB 11 false prog_13_method_32_code 99 sg_109_99 = true := by decide +kernel
def sg_109_108 : List RI := [(.aload_n 0, 1, 0, 0, 0, 0), (.getfield 25, 3, 11, 7, 2, 0), (.iload_n 2, 1, 0, 0, 0, 0)]
theorem sk_109_108 : segB 11 false prog_13_method_32_code 108 sg_109_108 = true := by decide +kernel
def sg_109_114 : List RI := [(.iconst 1, 1, 0, 0, 0, 1), (.iadd, 1, 0, 0, 0, 0)]
theorem sk_109_114 : segB 11 false prog_13_method_32_code 114 sg_109_114 = true := by decide +kernel
def sg_109_119 : List RI := [(.iconst 0, 1, 0, 0, 0, 0)]
theorem sk_109_119 : segB 11 false prog_13_method_32_code 119 sg_109_119 = true := by decide +kernel
def sg_109_121 : List RI := [(.aload_n 0, 1, 0, 0, 0, 0), (.getfield 25, 3, 11, 7, 2, 0), (.iload_n 2, 1, 0, 0, 0, 0)]
theorem sk_109_121 : segB 11 false prog_13_method_32_code 121 sg_109_121 = true := by decide +kernel
def sg_109_127 : List RI := [(.aload_n 0, 1, 0, 0, 0, 0), (.getfield 19, 3, 11, 5, 2, 0), (.iload_n 2, 1, 0, 0, 0, 0)]
theorem sk_109_127 : segB 11 false prog_13_method_32_code 127 sg_109_127 = true := by decide +kernel
def sg_109_136 : List RI := [(.aload_n 0, 1, 0, 0, 0, 0), (.iload_n 2, 1, 0, 0, 0, 0)]
theorem sk_109_136 : segB 11 false prog_13_method_32_code 136 sg_109_136 = true := by decide +kernel
def sg_109_141 : List RI := [(.iconst 0, 1, 0, 0, 0, 0), (.istore 4, 2, 0, 0, 0, 0)]
theorem sk_109_141 : segB 11 false prog_13_method_32_code 141 sg_109_141 = true := by decide +kernel
def sg_109_144 : List RI := [(.iload 4, 2, 0, 0, 0, 0), (.aload_n 0, 1, 0, 0, 0, 0), (.getfield 142, 3, 11, 55, 2, 0), (.iload_n 1, 1, 0, 0, 0, 0)]
theorem sk_109_144 : segB 11 false prog_13_method_32_code 144 sg_109_144 = true := by decide +kernel
def sg_109_155 : List RI := [(.bipush 32, 2, 0, 0, 0, 32), (.aload_n 0, 1, 0, 0, 0, 0), (.getfield 136, 3, 11, 53, 2, 0), (.iload_n 1, 1, 0, 0, 0, 0)]
theorem sk_109_155 : segB 11 false prog_13_method_32_code 155 sg_109_155 = true := by decide +kernel
def sg_109_163 : List RI := [(.imul, 1, 0, 0, 0, 0), (.aload_n 0, 1, 0, 0, 0, 0), (.getfield 148, 3, 11, 57, 2, 0), (.bipush 8, 2, 0, 0, 0, 8), (.iload_n 1, 1, 0, 0, 0, 0), (.imul, 1, 0, 0, 0, 0), (.iload 4, 2, 0, 0, 0, 0), (.iadd, 1, 0, 0, 0, 0)]
theorem sk_109_163 : segB 11 false prog_13_method_32_code 163 sg_109_163 = true := by decide +kernel
def sg_109_176 : List RI := [(.iadd, 1, 0, 0, 0, 0), (.istore 5, 2, 0, 0, 0, 0), (.iload_n 3, 1, 0, 0, 0, 0)]
theorem sk_109_176 : segB 11 false prog_13_method_32_code 176 sg_109_176 = true := by decide +kernel
def sg_109_183 : List RI := [(.aload_n 0, 1, 0, 0, 0, 0), (.iload 5, 2, 0, 0, 0, 0), (.iconst 3, 1, 0, 0, 0, 3)]
theorem sk_109_183 : segB 11 false prog_13_method_32_code 183 sg_109_183 = true := by decide +kernel
def sg_109_193 : List RI := [(.aload_n 0, 1, 0, 0, 0, 0), (.getfield 65, 3, 11, 21, 2, 0), (.iload 5, 2, 0, 0, 0, 0)]
theorem sk_109_193 : segB 11 false prog_13_method_32_code 193 sg_109_193 = true := by decide +kernel
def sg_109_203 : List RI := [(.aload_n 0, 1, 0, 0, 0, 0), (.iload 5, 2, 0, 0, 0, 0), (.iconst 2, 1, 0, 0, 0, 2)]
theorem sk_109_203 : segB 11 false prog_13_method_32_code 203 sg_109_203 = true := by decide +kernel
def sg_109_213 : List RI := [(.aload_n 0, 1, 0, 0, 0, 0), (.getfield 121, 3, 11, 44, 2, 0), (.iload 5, 2, 0, 0, 0, 0), (.iconst 3, 1, 0, 0, 0, 3)]
theorem sk_109_213 : segB 11 false prog_13_method_32_code 213 sg_109_213 = true := by decide +kernel
def sg_109_221 : List RI := [(.aload_n 0, 1, 0, 0, 0, 0), (.getfield 80, 3, 11, 26, 2, 0), (.iload 5, 2, 0, 0, 0, 0), (.aload_n 0, 1, 0, 0, 0, 0), (.getfield 49, 3, 11, 16, 2, 0), (.iload 5, 2, 0, 0, 0, 0), (.bipush 32, 2, 0, 0, 0, 32), (.idiv, 1, 0, 0, 0, 0)]
theorem sk_109_221 : segB 11 false prog_13_method_32_code 221 sg_109_221 = true := by decide +kernel
def sg_109_240 : List RI := [(.aload_n 0, 1, 0, 0, 0, 0), (.getfield 176, 3, 11, 1, 0, 0), (.aload_n 0, 1, 0, 0, 0, 0), (.getfield 49, 3, 11, 16, 2, 0), (.iload 5, 2, 0, 0, 0, 0), (.bipush 32, 2, 0, 0, 0, 32), (.idiv, 1, 0, 0, 0, 0)]
theorem sk_109_240 : segB 11 false prog_13_method_32_code 240 sg_109_240 = true := by decide +kernel
def sg_109_254 : List RI := [(.iadd, 1, 0, 0, 0, 0)]
theorem sk_109_254 : segB 11 false prog_13_method_32_code 254 sg_109_254 = true := by decide +kernel
def sg_109_258 : List RI := [(.iconst (-1), 1, 0, 0, 0, -1)]
theorem sk_109_258 : segB 11 false prog_13_method_32_code 258 sg_109_258 = true := by decide +kernel
def sg_109_260 : List RI := [(.iconst 0, 1, 0, 0, 0, 0), (.istore 6, 2, 0, 0, 0, 0)]
theorem sk_109_260 : segB 11 false prog_13_method_32_code 260 sg_109_260 = true := by decide +kernel
def sg_109_263 : List RI := [(.iload 6, 2, 0, 0, 0, 0), (.aload_n 0, 1, 0, 0, 0, 0), (.getfield 195, 3, 11, 35, 0, 0)]
theorem sk_109_263 : segB 11 false prog_13_method_32_code 263 sg_109_263 = true := by decide +kernel
def sg_109_272 : List RI := [(.aload_n 0, 1, 0, 0, 0, 0), (.getfield 127, 3, 11, 46, 2, 0), (.bipush 20, 2, 0, 0, 0, 20), (.iload 5, 2, 0, 0, 0, 0), (.imul, 1, 0, 0, 0, 0), (.iload 6, 2, 0, 0, 0, 0), (.iadd, 1, 0, 0, 0, 0)]
theorem sk_109_272 : segB 11 false prog_13_method_32_code 272 sg_109_272 = true := by decide +kernel
def sg_109_288 : List RI := [(.aload_n 0, 1, 0, 0, 0, 0), (.iload 5, 2, 0, 0, 0, 0), (.iload 6, 2, 0, 0, 0, 0)]
theorem sk_109_288 : segB 11 false prog_13_method_32_code 288 sg_109_288 = true := by decide +kernel
def sg_109_296 : List RI := [(.iinc 6 1, 3, 0, 0, 0, 1)]
theorem sk_109_296 : segB 11 false prog_13_method_32_code 296 sg_109_296 = true := by decide +kernel
def sg_109_302 : List RI := [(.iinc 4 1, 3, 0, 0, 0, 1)]
theorem sk_109_302 : segB 11 false prog_13_method_32_code 302 sg_109_302 = true := by decide +kernel
theorem ca_109_5 : decode prog_13_method_32_code 5 = .ok (.iaload, 1) ∧ lnkB 11 false 5 (.iaload, 1, 0, 0, 0, 0) = true := by decide +kernel
theorem ca_109_14 : decode prog_13_method_32_code 14 = .ok (.iaload, 1) ∧ lnkB 11 false 14 (.iaload, 1, 0, 0, 0, 0) = true := by decide +kernel
theorem ck_109_15 : decode prog_13_method_32_code 15 = .ok (.invokevirtual 248, 3) ∧ lnkB 11 false 15 (.invokevirtual 248, 3, 110, 0, 0, 0) = true := by decide +kernel
theorem ck_109_25 : decode prog_13_method_32_code 25 = .ok (.ifCond .eq 7, 3) ∧ lnkB 11 false 25 (.ifCond .eq 7, 3, 32, 0, 0, 0) = true := by decide +kernel
theorem ck_109_29 : decode prog_13_method_32_code 29 = .ok (.goto 4, 3) ∧ lnkB 11 false 29 (.goto 4, 3, 33, 0, 0, 0) = true := by decide +kernel
theorem ca_109_33 : decode prog_13_method_32_code 33 = .ok (.iastore, 1) ∧ lnkB 11 false 33 (.iastore, 1, 0, 0, 0, 0) = true := by decide +kernel
theorem ca_109_39 : decode prog_13_method_32_code 39 = .ok (.iaload, 1) ∧ lnkB 11 false 39 (.iaload, 1, 0, 0, 0, 0) = true := by decide +kernel
theorem ck_109_41 : decode prog_13_method_32_code 41 = .ok (.if_icmp .ne 39, 3) ∧ lnkB 11 false 41 (.if_icmp .ne 39, 3, 80, 0, 0, 0) = true := by decide +kernel
theorem ck_109_45 : decode prog_13_method_32_code 45 = .ok (.ifCond .eq 11, 3) ∧ lnkB 11 false 45 (.ifCond .eq 11, 3, 56, 0, 0, 0) = true := by decide +kernel
theorem ck_109_50 : decode prog_13_method_32_code 50 = .ok (.invokevirtual 251, 3) ∧ lnkB 11 false 50 (.invokevirtual 251, 3, 111, 0, 0, 0) = true := by decide +kernel
theorem ck_109_53 : decode prog_13_method_32_code 53 = .ok (.goto 88, 3) ∧ lnkB 11 false 53 (.goto 88, 3, 141, 0, 0, 0) = true := by decide +kernel
theorem ca_109_62 : decode prog_13_method_32_code 62 = .ok (.iastore, 1) ∧ lnkB 11 false 62 (.iastore, 1, 0, 0, 0, 0) = true := by decide +kernel
theorem ca_109_69 : decode prog_13_method_32_code 69 = .ok (.iastore, 1) ∧ lnkB 11 false 69 (.iastore, 1, 0, 0, 0, 0) = true := by decide +kernel
theorem ca_109_76 : decode prog_13_method_32_code 76 = .ok (.iastore, 1) ∧ lnkB 11 false 76 (.iastore, 1, 0, 0, 0, 0) = true := by decide +kernel
theorem ck_109_77 : decode prog_13_method_32_code 77 = .ok (.goto 64, 3) ∧ lnkB 11 false 77 (.goto 64, 3, 141, 0, 0, 0) = true := by decide +kernel
theorem ca_109_85 : decode prog_13_method_32_code 85 = .ok (.iaload, 1) ∧ lnkB 11 false 85 (.iaload, 1, 0, 0, 0, 0) = true := by decide +kernel
theorem ck_109_87 : decode prog_13_method_32_code 87 = .ok (.if_icmp .ne 54, 3) ∧ lnkB 11 false 87 (.if_icmp .ne 54, 3, 141, 0, 0, 0) = true := by decide +kernel
theorem ca_109_95 : decode prog_13_method_32_code 95 = .ok (.iaload, 1) ∧ lnkB 11 false 95 (.iaload, 1, 0, 0, 0, 0) = true := by decide +kernel
theorem ck_109_96 : decode prog_13_method_32_code 96 = .ok (.ifCond .le 45, 3) ∧ lnkB 11 false 96 (.ifCond .le 45, 3, 141, 0, 0, 0) = true := by decide +kernel
theorem ck_109_105 : decode prog_13_method_32_code 105 = .ok (.ifCond .eq 14, 3) ∧ lnkB 11 false 105 (.ifCond .eq 14, 3, 119, 0, 0, 0) = true := by decide +kernel
theorem ca_109_113 : decode prog_13_method_32_code 113 = .ok (.iaload, 1) ∧ lnkB 11 false 113 (.iaload, 1, 0, 0, 0, 0) = true := by decide +kernel
theorem ck_109_116 : decode prog_13_method_32_code 116 = .ok (.goto 4, 3) ∧ lnkB 11 false 116 (.goto 4, 3, 120, 0, 0, 0) = true := by decide +kernel
theorem ca_109_120 : decode prog_13_method_32_code 120 = .ok (.iastore, 1) ∧ lnkB 11 false 120 (.iastore, 1, 0, 0, 0, 0) = true := by decide +kernel
theorem ca_109_126 : decode prog_13_method_32_code 126 = .ok (.iaload, 1) ∧ lnkB 11 false 126 (.iaload, 1, 0, 0, 0, 0) = true := by decide +kernel
theorem ca_109_132 : decode prog_13_method_32_code 132 = .ok (.iaload, 1) ∧ lnkB 11 false 132 (.iaload, 1, 0, 0, 0, 0) = true := by decide +kernel
theorem ck_109_133 : decode prog_13_method_32_code 133 = .ok (.if_icmp .ne 8, 3) ∧ lnkB 11 false 133 (.if_icmp .ne 8, 3, 141, 0, 0, 0) = true := by decide +kernel
theorem ck_109_138 : decode prog_13_method_32_code 138 = .ok (.invokevirtual 251, 3) ∧ lnkB 11 false 138 (.invokevirtual 251, 3, 111, 0, 0, 0) = true := by decide +kernel
theorem ca_109_151 : decode prog_13_method_32_code 151 = .ok (.iaload, 1) ∧ lnkB 11 false 151 (.iaload, 1, 0, 0, 0, 0) = true := by decide +kernel
theorem ck_109_152 : decode prog_13_method_32_code 152 = .ok (.if_icmp .ge 156, 3) ∧ lnkB 11 false 152 (.if_icmp .ge 156, 3, 308, 0, 0, 0) = true := by decide +kernel
theorem ca_109_162 : decode prog_13_method_32_code 162 = .ok (.iaload, 1) ∧ lnkB 11 false 162 (.iaload, 1, 0, 0, 0, 0) = true := by decide +kernel
theorem ca_109_175 : decode prog_13_method_32_code 175 = .ok (.iaload, 1) ∧ lnkB 11 false 175 (.iaload, 1, 0, 0, 0, 0) = true := by decide +kernel
theorem ck_109_180 : decode prog_13_method_32_code 180 = .ok (.ifCond .eq 13, 3) ∧ lnkB 11 false 180 (.ifCond .eq 13, 3, 193, 0, 0, 0) = true := by decide +kernel
theorem ck_109_187 : decode prog_13_method_32_code 187 = .ok (.invokevirtual 226, 3) ∧ lnkB 11 false 187 (.invokevirtual 226, 3, 104, 0, 0, 0) = true := by decide +kernel
theorem ck_109_190 : decode prog_13_method_32_code 190 = .ok (.goto 112, 3) ∧ lnkB 11 false 190 (.goto 112, 3, 302, 0, 0, 0) = true := by decide +kernel
theorem ca_109_199 : decode prog_13_method_32_code 199 = .ok (.baload, 1) ∧ lnkB 11 false 199 (.baload, 1, 15, 0, 0, 0) = true := by decide +kernel
theorem ck_109_200 : decode prog_13_method_32_code 200 = .ok (.ifCond .ne 13, 3) ∧ lnkB 11 false 200 (.ifCond .ne 13, 3, 213, 0, 0, 0) = true := by decide +kernel
theorem ck_109_207 : decode prog_13_method_32_code 207 = .ok (.invokevirtual 226, 3) ∧ lnkB 11 false 207 (.invokevirtual 226, 3, 104, 0, 0, 0) = true := by decide +kernel
theorem ck_109_210 : decode prog_13_method_32_code 210 = .ok (.goto 92, 3) ∧ lnkB 11 false 210 (.goto 92, 3, 302, 0, 0, 0) = true := by decide +kernel
theorem ca_109_220 : decode prog_13_method_32_code 220 = .ok (.iastore, 1) ∧ lnkB 11 false 220 (.iastore, 1, 0, 0, 0, 0) = true := by decide +kernel
theorem ca_109_236 : decode prog_13_method_32_code 236 = .ok (.iaload, 1) ∧ lnkB 11 false 236 (.iaload, 1, 0, 0, 0, 0) = true := by decide +kernel
theorem ck_109_237 : decode prog_13_method_32_code 237 = .ok (.ifCond .le 21, 3) ∧ lnkB 11 false 237 (.ifCond .le 21, 3, 258, 0, 0, 0) = true := by decide +kernel
theorem ca_109_253 : decode prog_13_method_32_code 253 = .ok (.iaload, 1) ∧ lnkB 11 false 253 (.iaload, 1, 0, 0, 0, 0) = true := by decide +kernel
theorem ck_109_255 : decode prog_13_method_32_code 255 = .ok (.goto 4, 3) ∧ lnkB 11 false 255 (.goto 4, 3, 259, 0, 0, 0) = true := by decide +kernel
theorem ca_109_259 : decode prog_13_method_32_code 259 = .ok (.iastore, 1) ∧ lnkB 11 false 259 (.iastore, 1, 0, 0, 0, 0) = true := by decide +kernel
theorem ck_109_269 : decode prog_13_method_32_code 269 = .ok (.if_icmp .ge 33, 3) ∧ lnkB 11 false 269 (.if_icmp .ge 33, 3, 302, 0, 0, 0) = true := by decide +kernel
theorem ca_109_284 : decode prog_13_method_32_code 284 = .ok (.baload, 1) ∧ lnkB 11 false 284 (.baload, 1, 15, 0, 0, 0) = true := by decide +kernel
theorem ck_109_285 : decode prog_13_method_32_code 285 = .ok (.ifCond .eq 11, 3) ∧ lnkB 11 false 285 (.ifCond .eq 11, 3, 296, 0, 0, 0) = true := by decide +kernel
theorem ck_109_293 : decode prog_13_method_32_code 293 = .ok (.invokevirtual 235, 3) ∧ lnkB 11 false 293 (.invokevirtual 235, 3, 105, 0, 0, 0) = true := by decide +kernel
theorem ck_109_299 : decode prog_13_method_32_code 299 = .ok (.goto (-36), 3) ∧ lnkB 11 false 299 (.goto (-36), 3, 263, 0, 0, 0) = true := by decide +kernel
theorem ck_109_305 : decode prog_13_method_32_code 305 = .ok (.goto (-161), 3) ∧ lnkB 11 false 305 (.goto (-161), 3, 144, 0, 0, 0) = true := by decide +kernel
theorem ck_109_308 : decode prog_13_method_32_code 308 = .ok (.return_, 1) ∧ lnkB 11 false 308 (.return_, 1, 0, 0, 0, 0) = true := by decide +kernel
abbrev RU_109 (d : Nat) (cp : Nat × Nat) (Post : Option Value → Sto → Prop) : PP := Runs (Ex d) prog_13_method_32_code 11 false 7 none none cp Post
theorem en_109 {d : Nat} {As : List Value} {S : Sto} {mc ms : Nat} {Post : Option Value → Sto → Prop} (hc : cats As ≤ 7) (h : RU_109 d (mc, ms) Post 0 (lv_args 0 As) [] S 0 0) : Ex (d + 1) 109 As S mc ms Post := ⟨by decide, hc, h⟩
def sg_110_0 : List RI := [(.iconst 0, 1, 0, 0, 0, 0), (.istore_n 3, 1, 0, 0, 0, 0), (.iconst 0, 1, 0, 0, 0, 0), (.istore 4, 2, 0, 0, 0, 0)]
theorem sk_110_0 : segB 11 false prog_13_method_6_code 0 sg_110_0 = true := by decide +kernel
def sg_110_5 : List RI := [(.iload 4, 2, 0, 0, 0, 0), (.aload_n 0, 1, 0, 0, 0, 0), (.getfield 166, 3, 11, 10, 0, 0)]
theorem sk_110_5 : segB 11 false prog_13_method_6_code 5 sg_110_5 = true := by decide +kernel
def sg_110_14 : List RI := [(.iload_n 3, 1, 0, 0, 0, 0)]
theorem sk_110_14 : segB 11 false prog_13_method_6_code 14 sg_110_14 = true := by decide +kernel
def sg_110_18 : List RI := [(.aload_n 0, 1, 0, 0, 0, 0), (.getfield 34, 3, 11, 11, 2, 0), (.iload 4, 2, 0, 0, 0, 0)]
theorem sk_110_18 : segB 11 false prog_13_method_6_code 18 sg_110_18 = true := by decide +kernel
def sg_110_25 : List RI := [(.iload_n 1, 1, 0, 0, 0, 0)]
theorem sk_110_25 : segB 11 false prog_13_method_6_code 25 sg_110_25 = true := by decide +kernel
def sg_110_29 : List RI := [(.iload_n 2, 1, 0, 0, 0, 0), (.aload_n 0, 1, 0, 0, 0, 0), (.getfield 37, 3, 11, 12, 2, 0), (.iload 4, 2, 0, 0, 0, 0)]
theorem sk_110_29 : segB 11 false prog_13_method_6_code 29 sg_110_29 = true := by decide +kernel
def sg_110_37 : List RI := [(.aload_n 0, 1, 0, 0, 0, 0), (.getfield 40, 3, 11, 13, 2, 0), (.iload 4, 2, 0, 0, 0, 0)]
theorem sk_110_37 : segB 11 false prog_13_method_6_code 37 sg_110_37 = true := by decide +kernel
def sg_110_50 : List RI := [(.iconst 1, 1, 0, 0, 0, 1)]
theorem sk_110_50 : segB 11 false prog_13_method_6_code 50 sg_110_50 = true := by decide +kernel
def sg_110_54 : List RI := [(.iconst 0, 1, 0, 0, 0, 0)]
theorem sk_110_54 : segB 11 false prog_13_method_6_code 54 sg_110_54 = true := by decide +kernel
def sg_110_55 : List RI := [(.istore_n 3, 1, 0, 0, 0, 0), (.iinc 4 1, 3, 0, 0, 0, 1)]
theorem sk_110_55 : segB 11 false prog_13_method_6_code 55 sg_110_55 = true := by decide +kernel
def sg_110_62 : List RI := [(.iload_n 3, 1, 0, 0, 0, 0)]
theorem sk_110_62 : segB 11 false prog_13_method_6_code 62 sg_110_62 = true := by decide +kernel
theorem ck_110_11 : decode prog_13_method_6_code 11 = .ok (.if_icmp .ge 51, 3) ∧ lnkB 11 false 11 (.if_icmp .ge 51, 3, 62, 0, 0, 0) = true := by decide +kernel
theorem ck_110_15 : decode prog_13_method_6_code 15 = .ok (.ifCond .ne 35, 3) ∧ lnkB 11 false 15 (.ifCond .ne 35, 3, 50, 0, 0, 0) = true := by decide +kernel
theorem ca_110_24 : decode prog_13_method_6_code 24 = .ok (.iaload, 1) ∧ lnkB 11 false 24 (.iaload, 1, 0, 0, 0, 0) = true := by decide +kernel
theorem ck_110_26 : decode prog_13_method_6_code 26 = .ok (.if_icmp .ne 28, 3) ∧ lnkB 11 false 26 (.if_icmp .ne 28, 3, 54, 0, 0, 0) = true := by decide +kernel
theorem ca_110_36 : decode prog_13_method_6_code 36 = .ok (.iaload, 1) ∧ lnkB 11 false 36 (.iaload, 1, 0, 0, 0, 0) = true := by decide +kernel
theorem ca_110_43 : decode prog_13_method_6_code 43 = .ok (.iaload, 1) ∧ lnkB 11 false 43 (.iaload, 1, 0, 0, 0, 0) = true := by decide +kernel
theorem ck_110_44 : decode prog_13_method_6_code 44 = .ok (.invokestatic 162, 3) ∧ lnkB 11 false 44 (.invokestatic 162, 3, 81, 0, 0, 0) = true := by decide +kernel
theorem ck_110_47 : decode prog_13_method_6_code 47 = .ok (.ifCond .eq 7, 3) ∧ lnkB 11 false 47 (.ifCond .eq 7, 3, 54, 0, 0, 0) = true := by decide +kernel
theorem ck_110_51 : decode prog_13_method_6_code 51 = .ok (.goto 4, 3) ∧ lnkB 11 false 51 (.goto 4, 3, 55, 0, 0, 0) = true := by decide +kernel
theorem ck_110_59 : decode prog_13_method_6_code 59 = .ok (.goto (-54), 3) ∧ lnkB 11 false 59 (.goto (-54), 3, 5, 0, 0, 0) = true := by decide +kernel
theorem ck_110_63 : decode prog_13_method_6_code 63 = .ok (.ireturn, 1) ∧ lnkB 11 false 63 (.ireturn, 1, 0, 0, 0, 0) = true := by decide +kernel
abbrev RU_110 (d : Nat) (cp : Nat × Nat) (Post : Option Value → Sto → Prop) : PP := Runs (Ex d) prog_13_method_6_code 11 false 5 (some .boolean) none cp Post
theorem en_110 {d : Nat} {As : List Value} {S : Sto} {mc ms : Nat} {Post : Option Value → Sto → Prop} (hc : cats As ≤ 5) (h : RU_110 d (mc, ms) Post 0 (lv_args 0 As) [] S 0 0) : Ex (d + 1) 110 As S mc ms Post := ⟨by decide, hc, h⟩
def sg_111_0 : List RI := [(.aload_n 0, 1, 0, 0, 0, 0), (.getfield 28, 3, 11, 8, 2, 0), (.iload_n 1, 1, 0, 0, 0, 0), (.aload_n 0, 1, 0, 0, 0, 0), (.getfield 176, 3, 11, 1, 0, 0), (.aload_n 0, 1, 0, 0, 0, 0), (.getfield 22, 3, 11, 6, 2, 0), (.iload_n 1, 1, 0, 0, 0, 0)]
theorem sk_111_0 : segB 11 false prog_13_method_31_code 0 sg_111_0 = true := by decide +kernel
def sg_111_15 : List RI := [(.iadd, 1, 0, 0, 0, 0)]
theorem sk_111_15 : segB 11 false prog_13_method_31_code 15 sg_111_15 = true := by decide +kernel
def sg_111_17 : List RI := [(.aload_n 0, 1, 0, 0, 0, 0), (.getfield 25, 3, 11, 7, 2, 0), (.iload_n 1, 1, 0, 0, 0, 0), (.iconst 0, 1, 0, 0, 0, 0)]
theorem sk_111_17 : segB 11 false prog_13_method_31_code 17 sg_111_17 = true := by decide +kernel
def sg_111_24 : List RI := [(.aload_n 0, 1, 0, 0, 0, 0), (.getfield 31, 3, 11, 9, 2, 0), (.iload_n 1, 1, 0, 0, 0, 0), (.iconst (-1), 1, 0, 0, 0, -1)]
theorem sk_111_24 : segB 11 false prog_13_method_31_code 24 sg_111_24 = true := by decide +kernel
theorem ca_111_14 : decode prog_13_method_31_code 14 = .ok (.iaload, 1) ∧ lnkB 11 false 14 (.iaload, 1, 0, 0, 0, 0) = true := by decide +kernel
theorem ca_111_16 : decode prog_13_method_31_code 16 = .ok (.iastore, 1) ∧ lnkB 11 false 16 (.iastore, 1, 0, 0, 0, 0) = true := by decide +kernel
theorem ca_111_23 : decode prog_13_method_31_code 23 = .ok (.iastore, 1) ∧ lnkB 11 false 23 (.iastore, 1, 0, 0, 0, 0) = true := by decide +kernel
theorem ca_111_30 : decode prog_13_method_31_code 30 = .ok (.iastore, 1) ∧ lnkB 11 false 30 (.iastore, 1, 0, 0, 0, 0) = true := by decide +kernel
theorem ck_111_31 : decode prog_13_method_31_code 31 = .ok (.return_, 1) ∧ lnkB 11 false 31 (.return_, 1, 0, 0, 0, 0) = true := by decide +kernel
abbrev RU_111 (d : Nat) (cp : Nat × Nat) (Post : Option Value → Sto → Prop) : PP := Runs (Ex d) prog_13_method_31_code 11 false 2 none none cp Post
theorem en_111 {d : Nat} {As : List Value} {S : Sto} {mc ms : Nat} {Post : Option Value → Sto → Prop} (hc : cats As ≤ 2) (h : RU_111 d (mc, ms) Post 0 (lv_args 0 As) [] S 0 0) : Ex (d + 1) 111 As S mc ms Post := ⟨by decide, hc, h⟩
def sg_112_0 : List RI := [(.aload_n 0, 1, 0, 0, 0, 0), (.getfield 28, 3, 11, 8, 2, 0), (.iload_n 1, 1, 0, 0, 0, 0)]
theorem sk_112_0 : segB 11 false prog_13_method_35_code 0 sg_112_0 = true := by decide +kernel
def sg_112_6 : List RI := [(.iconst (-1), 1, 0, 0, 0, -1)]
theorem sk_112_6 : segB 11 false prog_13_method_35_code 6 sg_112_6 = true := by decide +kernel
def sg_112_10 : List RI := [(.aload_n 0, 1, 0, 0, 0, 0), (.getfield 176, 3, 11, 1, 0, 0), (.aload_n 0, 1, 0, 0, 0, 0), (.getfield 28, 3, 11, 8, 2, 0), (.iload_n 1, 1, 0, 0, 0, 0)]
theorem sk_112_10 : segB 11 false prog_13_method_35_code 10 sg_112_10 = true := by decide +kernel
def sg_112_23 : List RI := [(.aload_n 0, 1, 0, 0, 0, 0), (.iload_n 1, 1, 0, 0, 0, 0)]
theorem sk_112_23 : segB 11 false prog_13_method_35_code 23 sg_112_23 = true := by decide +kernel
def sg_112_28 : List RI := [(.istore_n 2, 1, 0, 0, 0, 0)]
theorem sk_112_28 : segB 11 false prog_13_method_35_code 28 sg_112_28 = true := by decide +kernel
def sg_112_29 : List RI := [(.iload_n 2, 1, 0, 0, 0, 0), (.iconst (-1), 1, 0, 0, 0, -1)]
theorem sk_112_29 : segB 11 false prog_13_method_35_code 29 sg_112_29 = true := by decide +kernel
def sg_112_34 : List RI := [(.aload_n 0, 1, 0, 0, 0, 0), (.aload_n 0, 1, 0, 0, 0, 0), (.getfield 130, 3, 11, 48, 2, 0), (.iload_n 2, 1, 0, 0, 0, 0)]
theorem sk_112_34 : segB 11 false prog_13_method_35_code 34 sg_112_34 = true := by decide +kernel
def sg_112_41 : List RI := [(.iconst 4, 1, 0, 0, 0, 4)]
theorem sk_112_41 : segB 11 false prog_13_method_35_code 41 sg_112_41 = true := by decide +kernel
def sg_112_45 : List RI := [(.aload_n 0, 1, 0, 0, 0, 0), (.iload_n 1, 1, 0, 0, 0, 0)]
theorem sk_112_45 : segB 11 false prog_13_method_35_code 45 sg_112_45 = true := by decide +kernel
def sg_112_50 : List RI := [(.istore_n 2, 1, 0, 0, 0, 0)]
theorem sk_112_50 : segB 11 false prog_13_method_35_code 50 sg_112_50 = true := by decide +kernel
def sg_112_55 : List RI := [(.aload_n 0, 1, 0, 0, 0, 0), (.getfield 28, 3, 11, 8, 2, 0), (.iload_n 1, 1, 0, 0, 0, 0)]
theorem sk_112_55 : segB 11 false prog_13_method_35_code 55 sg_112_55 = true := by decide +kernel
def sg_112_61 : List RI := [(.iconst (-1), 1, 0, 0, 0, -1)]
theorem sk_112_61 : segB 11 false prog_13_method_35_code 61 sg_112_61 = true := by decide +kernel
def sg_112_65 : List RI := [(.aload_n 0, 1, 0, 0, 0, 0), (.getfield 16, 3, 11, 4, 2, 0), (.iload_n 1, 1, 0, 0, 0, 0)]
theorem sk_112_65 : segB 11 false prog_13_method_35_code 65 sg_112_65 = true := by decide +kernel
def sg_112_74 : List RI := [(.aload_n 0, 1, 0, 0, 0, 0), (.getfield 31, 3, 11, 9, 2, 0), (.iload_n 1, 1, 0, 0, 0, 0)]
theorem sk_112_74 : segB 11 false prog_13_method_35_code 74 sg_112_74 = true := by decide +kernel
def sg_112_80 : List RI := [(.iconst (-1), 1, 0, 0, 0, -1)]
theorem sk_112_80 : segB 11 false prog_13_method_35_code 80 sg_112_80 = true := by decide +kernel
def sg_112_84 : List RI := [(.iconst 1, 1, 0, 0, 0, 1)]
theorem sk_112_84 : segB 11 false prog_13_method_35_code 84 sg_112_84 = true := by decide +kernel
def sg_112_88 : List RI := [(.iconst 0, 1, 0, 0, 0, 0)]
theorem sk_112_88 : segB 11 false prog_13_method_35_code 88 sg_112_88 = true := by decide +kernel
def sg_112_89 : List RI := [(.istore_n 2, 1, 0, 0, 0, 0), (.aload_n 0, 1, 0, 0, 0, 0), (.iload_n 1, 1, 0, 0, 0, 0)]
theorem sk_112_89 : segB 11 false prog_13_method_35_code 89 sg_112_89 = true := by decide +kernel
def sg_112_95 : List RI := [(.istore_n 3, 1, 0, 0, 0, 0)]
theorem sk_112_95 : segB 11 false prog_13_method_35_code 95 sg_112_95 = true := by decide +kernel
def sg_112_96 : List RI := [(.iload_n 3, 1, 0, 0, 0, 0), (.iconst (-1), 1, 0, 0, 0, -1)]
theorem sk_112_96 : segB 11 false prog_13_method_35_code 96 sg_112_96 = true := by decide +kernel
def sg_112_101 : List RI := [(.iload_n 2, 1, 0, 0, 0, 0)]
theorem sk_112_101 : segB 11 false prog_13_method_35_code 101 sg_112_101 = true := by decide +kernel
def sg_112_105 : List RI := [(.aload_n 0, 1, 0, 0, 0, 0), (.getfield 28, 3, 11, 8, 2, 0), (.iload_n 1, 1, 0, 0, 0, 0)]
theorem sk_112_105 : segB 11 false prog_13_method_35_code 105 sg_112_105 = true := by decide +kernel
def sg_112_111 : List RI := [(.iconst (-1), 1, 0, 0, 0, -1)]
theorem sk_112_111 : segB 11 false prog_13_method_35_code 111 sg_112_111 = true := by decide +kernel
def sg_112_115 : List RI := [(.aload_n 0, 1, 0, 0, 0, 0), (.getfield 31, 3, 11, 9, 2, 0), (.iload_n 1, 1, 0, 0, 0, 0), (.aload_n 0, 1, 0, 0, 0, 0), (.getfield 254, 3, 11, 51, 0, 0)]
theorem sk_112_115 : segB 11 false prog_13_method_35_code 115 sg_112_115 = true := by decide +kernel
def sg_112_125 : List RI := [(.aload_n 0, 1, 0, 0, 0, 0), (.iload_n 1, 1, 0, 0, 0, 0), (.iload_n 3, 1, 0, 0, 0, 0)]
theorem sk_112_125 : segB 11 false prog_13_method_35_code 125 sg_112_125 = true := by decide +kernel
def sg_112_131 : List RI := [(.iinc 2 (-1), 3, 0, 0, 0, -1), (.aload_n 0, 1, 0, 0, 0, 0), (.iload_n 1, 1, 0, 0, 0, 0)]
theorem sk_112_131 : segB 11 false prog_13_method_35_code 131 sg_112_131 = true := by decide +kernel
def sg_112_139 : List RI := [(.istore_n 3, 1, 0, 0, 0, 0)]
theorem sk_112_139 : segB 11 false prog_13_method_35_code 139 sg_112_139 = true := by decide +kernel
theorem ca_112_5 : decode prog_13_method_35_code 5 = .ok (.iaload, 1) ∧ lnkB 11 false 5 (.iaload, 1, 0, 0, 0, 0) = true := by decide +kernel
theorem ck_112_7 : decode prog_13_method_35_code 7 = .ok (.if_icmp .eq 48, 3) ∧ lnkB 11 false 7 (.if_icmp .eq 48, 3, 55, 0, 0, 0) = true := by decide +kernel
theorem ca_112_19 : decode prog_13_method_35_code 19 = .ok (.iaload, 1) ∧ lnkB 11 false 19 (.iaload, 1, 0, 0, 0, 0) = true := by decide +kernel
theorem ck_112_20 : decode prog_13_method_35_code 20 = .ok (.if_icmp .ge 35, 3) ∧ lnkB 11 false 20 (.if_icmp .ge 35, 3, 55, 0, 0, 0) = true := by decide +kernel
theorem ck_112_25 : decode prog_13_method_35_code 25 = .ok (.invokevirtual 257, 3) ∧ lnkB 11 false 25 (.invokevirtual 257, 3, 113, 0, 0, 0) = true := by decide +kernel
theorem ck_112_31 : decode prog_13_method_35_code 31 = .ok (.if_icmp .eq 23, 3) ∧ lnkB 11 false 31 (.if_icmp .eq 23, 3, 54, 0, 0, 0) = true := by decide +kernel
theorem ca_112_40 : decode prog_13_method_35_code 40 = .ok (.iaload, 1) ∧ lnkB 11 false 40 (.iaload, 1, 0, 0, 0, 0) = true := by decide +kernel
theorem ck_112_42 : decode prog_13_method_35_code 42 = .ok (.invokevirtual 226, 3) ∧ lnkB 11 false 42 (.invokevirtual 226, 3, 104, 0, 0, 0) = true := by decide +kernel
theorem ck_112_47 : decode prog_13_method_35_code 47 = .ok (.invokevirtual 257, 3) ∧ lnkB 11 false 47 (.invokevirtual 257, 3, 113, 0, 0, 0) = true := by decide +kernel
theorem ck_112_51 : decode prog_13_method_35_code 51 = .ok (.goto (-22), 3) ∧ lnkB 11 false 51 (.goto (-22), 3, 29, 0, 0, 0) = true := by decide +kernel
theorem ck_112_54 : decode prog_13_method_35_code 54 = .ok (.return_, 1) ∧ lnkB 11 false 54 (.return_, 1, 0, 0, 0, 0) = true := by decide +kernel
theorem ca_112_60 : decode prog_13_method_35_code 60 = .ok (.iaload, 1) ∧ lnkB 11 false 60 (.iaload, 1, 0, 0, 0, 0) = true := by decide +kernel
theorem ck_112_62 : decode prog_13_method_35_code 62 = .ok (.if_icmp .ne 12, 3) ∧ lnkB 11 false 62 (.if_icmp .ne 12, 3, 74, 0, 0, 0) = true := by decide +kernel
theorem ca_112_70 : decode prog_13_method_35_code 70 = .ok (.iaload, 1) ∧ lnkB 11 false 70 (.iaload, 1, 0, 0, 0, 0) = true := by decide +kernel
theorem ck_112_71 : decode prog_13_method_35_code 71 = .ok (.goto 18, 3) ∧ lnkB 11 false 71 (.goto 18, 3, 89, 0, 0, 0) = true := by decide +kernel
theorem ca_112_79 : decode prog_13_method_35_code 79 = .ok (.iaload, 1) ∧ lnkB 11 false 79 (.iaload, 1, 0, 0, 0, 0) = true := by decide +kernel
theorem ck_112_81 : decode prog_13_method_35_code 81 = .ok (.if_icmp .ne 7, 3) ∧ lnkB 11 false 81 (.if_icmp .ne 7, 3, 88, 0, 0, 0) = true := by decide +kernel
theorem ck_112_85 : decode prog_13_method_35_code 85 = .ok (.goto 4, 3) ∧ lnkB 11 false 85 (.goto 4, 3, 89, 0, 0, 0) = true := by decide +kernel
theorem ck_112_92 : decode prog_13_method_35_code 92 = .ok (.invokevirtual 257, 3) ∧ lnkB 11 false 92 (.invokevirtual 257, 3, 113, 0, 0, 0) = true := by decide +kernel
theorem ck_112_98 : decode prog_13_method_35_code 98 = .ok (.if_icmp .eq 45, 3) ∧ lnkB 11 false 98 (.if_icmp .eq 45, 3, 143, 0, 0, 0) = true := by decide +kernel
theorem ck_112_102 : decode prog_13_method_35_code 102 = .ok (.ifCond .le 41, 3) ∧ lnkB 11 false 102 (.ifCond .le 41, 3, 143, 0, 0, 0) = true := by decide +kernel
theorem ca_112_110 : decode prog_13_method_35_code 110 = .ok (.iaload, 1) ∧ lnkB 11 false 110 (.iaload, 1, 0, 0, 0, 0) = true := by decide +kernel
theorem ck_112_112 : decode prog_13_method_35_code 112 = .ok (.if_icmp .eq 13, 3) ∧ lnkB 11 false 112 (.if_icmp .eq 13, 3, 125, 0, 0, 0) = true := by decide +kernel
theorem ca_112_124 : decode prog_13_method_35_code 124 = .ok (.iastore, 1) ∧ lnkB 11 false 124 (.iastore, 1, 0, 0, 0, 0) = true := by decide +kernel
theorem ck_112_128 : decode prog_13_method_35_code 128 = .ok (.invokevirtual 261, 3) ∧ lnkB 11 false 128 (.invokevirtual 261, 3, 114, 0, 0, 0) = true := by decide +kernel
theorem ck_112_136 : decode prog_13_method_35_code 136 = .ok (.invokevirtual 257, 3) ∧ lnkB 11 false 136 (.invokevirtual 257, 3, 113, 0, 0, 0) = true := by decide +kernel
theorem ck_112_140 : decode prog_13_method_35_code 140 = .ok (.goto (-44), 3) ∧ lnkB 11 false 140 (.goto (-44), 3, 96, 0, 0, 0) = true := by decide +kernel
theorem ck_112_143 : decode prog_13_method_35_code 143 = .ok (.return_, 1) ∧ lnkB 11 false 143 (.return_, 1, 0, 0, 0, 0) = true := by decide +kernel
abbrev RU_112 (d : Nat) (cp : Nat × Nat) (Post : Option Value → Sto → Prop) : PP := Runs (Ex d) prog_13_method_35_code 11 false 4 none none cp Post
theorem en_112 {d : Nat} {As : List Value} {S : Sto} {mc ms : Nat} {Post : Option Value → Sto → Prop} (hc : cats As ≤ 4) (h : RU_112 d (mc, ms) Post 0 (lv_args 0 As) [] S 0 0) : Ex (d + 1) 112 As S mc ms Post := ⟨by decide, hc, h⟩
def sg_113_0 : List RI := [(.iconst 0, 1, 0, 0, 0, 0), (.istore_n 2, 1, 0, 0, 0, 0)]
theorem sk_113_0 : segB 11 false prog_13_method_33_code 0 sg_113_0 = true := by decide +kernel
def sg_113_2 : List RI := [(.iload_n 2, 1, 0, 0, 0, 0), (.aload_n 0, 1, 0, 0, 0, 0), (.getfield 229, 3, 11, 47, 0, 0)]
theorem sk_113_2 : segB 11 false prog_13_method_33_code 2 sg_113_2 = true := by decide +kernel
def sg_113_10 : List RI := [(.aload_n 0, 1, 0, 0, 0, 0), (.getfield 121, 3, 11, 44, 2, 0), (.aload_n 0, 1, 0, 0, 0, 0), (.getfield 130, 3, 11, 48, 2, 0), (.iload_n 2, 1, 0, 0, 0, 0)]
theorem sk_113_10 : segB 11 false prog_13_method_33_code 10 sg_113_10 = true := by decide +kernel
def sg_113_21 : List RI := [(.iconst 1, 1, 0, 0, 0, 1)]
theorem sk_113_21 : segB 11 false prog_13_method_33_code 21 sg_113_21 = true := by decide +kernel
def sg_113_25 : List RI := [(.aload_n 0, 1, 0, 0, 0, 0), (.getfield 43, 3, 11, 14, 2, 0), (.aload_n 0, 1, 0, 0, 0, 0), (.getfield 130, 3, 11, 48, 2, 0), (.iload_n 2, 1, 0, 0, 0, 0)]
theorem sk_113_25 : segB 11 false prog_13_method_33_code 25 sg_113_25 = true := by decide +kernel
def sg_113_35 : List RI := [(.bipush 32, 2, 0, 0, 0, 32), (.idiv, 1, 0, 0, 0, 0)]
theorem sk_113_35 : segB 11 false prog_13_method_33_code 35 sg_113_35 = true := by decide +kernel
def sg_113_39 : List RI := [(.iload_n 1, 1, 0, 0, 0, 0)]
theorem sk_113_39 : segB 11 false prog_13_method_33_code 39 sg_113_39 = true := by decide +kernel
def sg_113_43 : List RI := [(.iload_n 2, 1, 0, 0, 0, 0)]
theorem sk_113_43 : segB 11 false prog_13_method_33_code 43 sg_113_43 = true := by decide +kernel
def sg_113_45 : List RI := [(.iinc 2 1, 3, 0, 0, 0, 1)]
theorem sk_113_45 : segB 11 false prog_13_method_33_code 45 sg_113_45 = true := by decide +kernel
def sg_113_51 : List RI := [(.iconst (-1), 1, 0, 0, 0, -1)]
theorem sk_113_51 : segB 11 false prog_13_method_33_code 51 sg_113_51 = true := by decide +kernel
theorem ck_113_7 : decode prog_13_method_33_code 7 = .ok (.if_icmp .ge 44, 3) ∧ lnkB 11 false 7 (.if_icmp .ge 44, 3, 51, 0, 0, 0) = true := by decide +kernel
theorem ca_113_19 : decode prog_13_method_33_code 19 = .ok (.iaload, 1) ∧ lnkB 11 false 19 (.iaload, 1, 0, 0, 0, 0) = true := by decide +kernel
theorem ca_113_20 : decode prog_13_method_33_code 20 = .ok (.iaload, 1) ∧ lnkB 11 false 20 (.iaload, 1, 0, 0, 0, 0) = true := by decide +kernel
theorem ck_113_22 : decode prog_13_method_33_code 22 = .ok (.if_icmp .ne 23, 3) ∧ lnkB 11 false 22 (.if_icmp .ne 23, 3, 45, 0, 0, 0) = true := by decide +kernel
theorem ca_113_34 : decode prog_13_method_33_code 34 = .ok (.iaload, 1) ∧ lnkB 11 false 34 (.iaload, 1, 0, 0, 0, 0) = true := by decide +kernel
theorem ca_113_38 : decode prog_13_method_33_code 38 = .ok (.iaload, 1) ∧ lnkB 11 false 38 (.iaload, 1, 0, 0, 0, 0) = true := by decide +kernel
theorem ck_113_40 : decode prog_13_method_33_code 40 = .ok (.if_icmp .ne 5, 3) ∧ lnkB 11 false 40 (.if_icmp .ne 5, 3, 45, 0, 0, 0) = true := by decide +kernel
theorem ck_113_44 : decode prog_13_method_33_code 44 = .ok (.ireturn, 1) ∧ lnkB 11 false 44 (.ireturn, 1, 0, 0, 0, 0) = true := by decide +kernel
theorem ck_113_48 : decode prog_13_method_33_code 48 = .ok (.goto (-46), 3) ∧ lnkB 11 false 48 (.goto (-46), 3, 2, 0, 0, 0) = true := by decide +kernel
theorem ck_113_52 : decode prog_13_method_33_code 52 = .ok (.ireturn, 1) ∧ lnkB 11 false 52 (.ireturn, 1, 0, 0, 0, 0) = true := by decide +kernel
abbrev RU_113 (d : Nat) (cp : Nat × Nat) (Post : Option Value → Sto → Prop) : PP := Runs (Ex d) prog_13_method_33_code 11 false 3 (some .int) none cp Post
theorem en_113 {d : Nat} {As : List Value} {S : Sto} {mc ms : Nat} {Post : Option Value → Sto → Prop} (hc : cats As ≤ 3) (h : RU_113 d (mc, ms) Post 0 (lv_args 0 As) [] S 0 0) : Ex (d + 1) 113 As S mc ms Post := ⟨by decide, hc, h⟩
def sg_114_0 : List RI := [(.aload_n 0, 1, 0, 0, 0, 0), (.getfield 254, 3, 11, 51, 0, 0), (.istore_n 3, 1, 0, 0, 0, 0), (.aload_n 0, 1, 0, 0, 0, 0), (.dup, 1, 0, 0, 0, 0), (.getfield 254, 3, 11, 51, 0, 0), (.iconst 1, 1, 0, 0, 0, 1), (.iadd, 1, 0, 0, 0, 0), (.putfield 254, 3, 11, 51, 0, 0), (.aload_n 0, 1, 0, 0, 0, 0), (.getfield 133, 3, 11, 52, 2, 0), (.iload_n 3, 1, 0, 0, 0, 0), (.iload_n 1, 1, 0, 0, 0, 0)]
theorem sk_114_0 : segB 11 false prog_13_method_34_code 0 sg_114_0 = true := by decide +kernel
def sg_114_22 : List RI := [(.aload_n 0, 1, 0, 0, 0, 0), (.getfield 136, 3, 11, 53, 2, 0), (.iload_n 3, 1, 0, 0, 0, 0), (.aload_n 0, 1, 0, 0, 0, 0), (.getfield 130, 3, 11, 48, 2, 0), (.iload_n 2, 1, 0, 0, 0, 0)]
theorem sk_114_22 : segB 11 false prog_13_method_34_code 22 sg_114_22 = true := by decide +kernel
def sg_114_33 : List RI := [(.bipush 32, 2, 0, 0, 0, 32), (.idiv, 1, 0, 0, 0, 0)]
theorem sk_114_33 : segB 11 false prog_13_method_34_code 33 sg_114_33 = true := by decide +kernel
def sg_114_37 : List RI := [(.aload_n 0, 1, 0, 0, 0, 0), (.getfield 139, 3, 11, 54, 2, 0), (.iload_n 3, 1, 0, 0, 0, 0), (.aload_n 0, 1, 0, 0, 0, 0), (.getfield 176, 3, 11, 1, 0, 0)]
theorem sk_114_37 : segB 11 false prog_13_method_34_code 37 sg_114_37 = true := by decide +kernel
def sg_114_47 : List RI := [(.aload_n 0, 1, 0, 0, 0, 0), (.getfield 142, 3, 11, 55, 2, 0), (.iload_n 3, 1, 0, 0, 0, 0), (.iconst 0, 1, 0, 0, 0, 0)]
theorem sk_114_47 : segB 11 false prog_13_method_34_code 47 sg_114_47 = true := by decide +kernel
def sg_114_54 : List RI := [(.aload_n 0, 1, 0, 0, 0, 0), (.getfield 145, 3, 11, 56, 2, 0), (.iload_n 3, 1, 0, 0, 0, 0), (.iconst 3, 1, 0, 0, 0, 3)]
theorem sk_114_54 : segB 11 false prog_13_method_34_code 54 sg_114_54 = true := by decide +kernel
def sg_114_61 : List RI := [(.iload_n 2, 1, 0, 0, 0, 0), (.istore 4, 2, 0, 0, 0, 0)]
theorem sk_114_61 : segB 11 false prog_13_method_34_code 61 sg_114_61 = true := by decide +kernel
def sg_114_64 : List RI := [(.iload 4, 2, 0, 0, 0, 0), (.aload_n 0, 1, 0, 0, 0, 0), (.getfield 229, 3, 11, 47, 0, 0)]
theorem sk_114_64 : segB 11 false prog_13_method_34_code 64 sg_114_64 = true := by decide +kernel
def sg_114_73 : List RI := [(.aload_n 0, 1, 0, 0, 0, 0), (.getfield 142, 3, 11, 55, 2, 0), (.iload_n 3, 1, 0, 0, 0, 0)]
theorem sk_114_73 : segB 11 false prog_13_method_34_code 73 sg_114_73 = true := by decide +kernel
def sg_114_79 : List RI := [(.aload_n 0, 1, 0, 0, 0, 0), (.getfield 13, 3, 11, 3, 2, 0), (.iload_n 1, 1, 0, 0, 0, 0)]
theorem sk_114_79 : segB 11 false prog_13_method_34_code 79 sg_114_79 = true := by decide +kernel
def sg_114_88 : List RI := [(.aload_n 0, 1, 0, 0, 0, 0), (.getfield 130, 3, 11, 48, 2, 0), (.iload 4, 2, 0, 0, 0, 0)]
theorem sk_114_88 : segB 11 false prog_13_method_34_code 88 sg_114_88 = true := by decide +kernel
def sg_114_95 : List RI := [(.istore 5, 2, 0, 0, 0, 0), (.aload_n 0, 1, 0, 0, 0, 0), (.getfield 121, 3, 11, 44, 2, 0), (.iload 5, 2, 0, 0, 0, 0)]
theorem sk_114_95 : segB 11 false prog_13_method_34_code 95 sg_114_95 = true := by decide +kernel
def sg_114_104 : List RI := [(.iconst 1, 1, 0, 0, 0, 1)]
theorem sk_114_104 : segB 11 false prog_13_method_34_code 104 sg_114_104 = true := by decide +kernel
def sg_114_108 : List RI := [(.iload 5, 2, 0, 0, 0, 0), (.bipush 32, 2, 0, 0, 0, 32), (.idiv, 1, 0, 0, 0, 0), (.aload_n 0, 1, 0, 0, 0, 0), (.getfield 136, 3, 11, 53, 2, 0), (.iload_n 3, 1, 0, 0, 0, 0)]
theorem sk_114_108 : segB 11 false prog_13_method_34_code 108 sg_114_108 = true := by decide +kernel
def sg_114_122 : List RI := [(.aload_n 0, 1, 0, 0, 0, 0), (.getfield 148, 3, 11, 57, 2, 0), (.bipush 8, 2, 0, 0, 0, 8), (.iload_n 3, 1, 0, 0, 0, 0), (.imul, 1, 0, 0, 0, 0), (.aload_n 0, 1, 0, 0, 0, 0), (.getfield 142, 3, 11, 55, 2, 0), (.iload_n 3, 1, 0, 0, 0, 0)]
theorem sk_114_122 : segB 11 false prog_13_method_34_code 122 sg_114_122 = true := by decide +kernel
def sg_114_136 : List RI := [(.iadd, 1, 0, 0, 0, 0), (.iload 5, 2, 0, 0, 0, 0), (.bipush 32, 2, 0, 0, 0, 32), (.irem, 1, 0, 0, 0, 0)]
theorem sk_114_136 : segB 11 false prog_13_method_34_code 136 sg_114_136 = true := by decide +kernel
def sg_114_143 : List RI := [(.aload_n 0, 1, 0, 0, 0, 0), (.getfield 142, 3, 11, 55, 2, 0), (.iload_n 3, 1, 0, 0, 0, 0), (.dup2, 1, 0, 0, 0, 0)]
theorem sk_114_143 : segB 11 false prog_13_method_34_code 143 sg_114_143 = true := by decide +kernel
def sg_114_150 : List RI := [(.iconst 1, 1, 0, 0, 0, 1), (.iadd, 1, 0, 0, 0, 0)]
theorem sk_114_150 : segB 11 false prog_13_method_34_code 150 sg_114_150 = true := by decide +kernel
def sg_114_153 : List RI := [(.aload_n 0, 1, 0, 0, 0, 0), (.getfield 121, 3, 11, 44, 2, 0), (.iload 5, 2, 0, 0, 0, 0), (.iconst 2, 1, 0, 0, 0, 2)]
theorem sk_114_153 : segB 11 false prog_13_method_34_code 153 sg_114_153 = true := by decide +kernel
def sg_114_161 : List RI := [(.iinc 4 1, 3, 0, 0, 0, 1)]
theorem sk_114_161 : segB 11 false prog_13_method_34_code 161 sg_114_161 = true := by decide +kernel
theorem ca_114_21 : decode prog_13_method_34_code 21 = .ok (.iastore, 1) ∧ lnkB 11 false 21 (.iastore, 1, 0, 0, 0, 0) = true := by decide +kernel
theorem ca_114_32 : decode prog_13_method_34_code 32 = .ok (.iaload, 1) ∧ lnkB 11 false 32 (.iaload, 1, 0, 0, 0, 0) = true := by decide +kernel
theorem ca_114_36 : decode prog_13_method_34_code 36 = .ok (.iastore, 1) ∧ lnkB 11 false 36 (.iastore, 1, 0, 0, 0, 0) = true := by decide +kernel
theorem ca_114_46 : decode prog_13_method_34_code 46 = .ok (.iastore, 1) ∧ lnkB 11 false 46 (.iastore, 1, 0, 0, 0, 0) = true := by decide +kernel
theorem ca_114_53 : decode prog_13_method_34_code 53 = .ok (.iastore, 1) ∧ lnkB 11 false 53 (.iastore, 1, 0, 0, 0, 0) = true := by decide +kernel
theorem ca_114_60 : decode prog_13_method_34_code 60 = .ok (.iastore, 1) ∧ lnkB 11 false 60 (.iastore, 1, 0, 0, 0, 0) = true := by decide +kernel
theorem ck_114_70 : decode prog_13_method_34_code 70 = .ok (.if_icmp .ge 97, 3) ∧ lnkB 11 false 70 (.if_icmp .ge 97, 3, 167, 0, 0, 0) = true := by decide +kernel
theorem ca_114_78 : decode prog_13_method_34_code 78 = .ok (.iaload, 1) ∧ lnkB 11 false 78 (.iaload, 1, 0, 0, 0, 0) = true := by decide +kernel
theorem ca_114_84 : decode prog_13_method_34_code 84 = .ok (.iaload, 1) ∧ lnkB 11 false 84 (.iaload, 1, 0, 0, 0, 0) = true := by decide +kernel
theorem ck_114_85 : decode prog_13_method_34_code 85 = .ok (.if_icmp .ge 82, 3) ∧ lnkB 11 false 85 (.if_icmp .ge 82, 3, 167, 0, 0, 0) = true := by decide +kernel
theorem ca_114_94 : decode prog_13_method_34_code 94 = .ok (.iaload, 1) ∧ lnkB 11 false 94 (.iaload, 1, 0, 0, 0, 0) = true := by decide +kernel
theorem ca_114_103 : decode prog_13_method_34_code 103 = .ok (.iaload, 1) ∧ lnkB 11 false 103 (.iaload, 1, 0, 0, 0, 0) = true := by decide +kernel
theorem ck_114_105 : decode prog_13_method_34_code 105 = .ok (.if_icmp .ne 56, 3) ∧ lnkB 11 false 105 (.if_icmp .ne 56, 3, 161, 0, 0, 0) = true := by decide +kernel
theorem ca_114_118 : decode prog_13_method_34_code 118 = .ok (.iaload, 1) ∧ lnkB 11 false 118 (.iaload, 1, 0, 0, 0, 0) = true := by decide +kernel
theorem ck_114_119 : decode prog_13_method_34_code 119 = .ok (.if_icmp .ne 42, 3) ∧ lnkB 11 false 119 (.if_icmp .ne 42, 3, 161, 0, 0, 0) = true := by decide +kernel
theorem ca_114_135 : decode prog_13_method_34_code 135 = .ok (.iaload, 1) ∧ lnkB 11 false 135 (.iaload, 1, 0, 0, 0, 0) = true := by decide +kernel
theorem ca_114_142 : decode prog_13_method_34_code 142 = .ok (.iastore, 1) ∧ lnkB 11 false 142 (.iastore, 1, 0, 0, 0, 0) = true := by decide +kernel
theorem ca_114_149 : decode prog_13_method_34_code 149 = .ok (.iaload, 1) ∧ lnkB 11 false 149 (.iaload, 1, 0, 0, 0, 0) = true := by decide +kernel
theorem ca_114_152 : decode prog_13_method_34_code 152 = .ok (.iastore, 1) ∧ lnkB 11 false 152 (.iastore, 1, 0, 0, 0, 0) = true := by decide +kernel
theorem ca_114_160 : decode prog_13_method_34_code 160 = .ok (.iastore, 1) ∧ lnkB 11 false 160 (.iastore, 1, 0, 0, 0, 0) = true := by decide +kernel
theorem ck_114_164 : decode prog_13_method_34_code 164 = .ok (.goto (-100), 3) ∧ lnkB 11 false 164 (.goto (-100), 3, 64, 0, 0, 0) = true := by decide +kernel
theorem ck_114_167 : decode prog_13_method_34_code 167 = .ok (.return_, 1) ∧ lnkB 11 false 167 (.return_, 1, 0, 0, 0, 0) = true := by decide +kernel
abbrev RU_114 (d : Nat) (cp : Nat × Nat) (Post : Option Value → Sto → Prop) : PP := Runs (Ex d) prog_13_method_34_code 11 false 6 none none cp Post
theorem en_114 {d : Nat} {As : List Value} {S : Sto} {mc ms : Nat} {Post : Option Value → Sto → Prop} (hc : cats As ≤ 6) (h : RU_114 d (mc, ms) Post 0 (lv_args 0 As) [] S 0 0) : Ex (d + 1) 114 As S mc ms Post := ⟨by decide, hc, h⟩
def sg_115_0 : List RI := [(.iconst 0, 1, 0, 0, 0, 0), (.istore_n 1, 1, 0, 0, 0, 0)]
theorem sk_115_0 : segB 11 false prog_13_method_38_code 0 sg_115_0 = true := by decide +kernel
def sg_115_2 : List RI := [(.iload_n 1, 1, 0, 0, 0, 0), (.aload_n 0, 1, 0, 0, 0, 0), (.getfield 254, 3, 11, 51, 0, 0)]
theorem sk_115_2 : segB 11 false prog_13_method_38_code 2 sg_115_2 = true := by decide +kernel
def sg_115_10 : List RI := [(.aload_n 0, 1, 0, 0, 0, 0), (.getfield 145, 3, 11, 56, 2, 0), (.iload_n 1, 1, 0, 0, 0, 0)]
theorem sk_115_10 : segB 11 false prog_13_method_38_code 10 sg_115_10 = true := by decide +kernel
def sg_115_16 : List RI := [(.iconst 3, 1, 0, 0, 0, 3)]
theorem sk_115_16 : segB 11 false prog_13_method_38_code 16 sg_115_16 = true := by decide +kernel
def sg_115_20 : List RI := [(.aload_n 0, 1, 0, 0, 0, 0), (.getfield 145, 3, 11, 56, 2, 0), (.iload_n 1, 1, 0, 0, 0, 0), (.iconst 2, 1, 0, 0, 0, 2)]
theorem sk_115_20 : segB 11 false prog_13_method_38_code 20 sg_115_20 = true := by decide +kernel
def sg_115_27 : List RI := [(.aload_n 0, 1, 0, 0, 0, 0), (.getfield 31, 3, 11, 9, 2, 0), (.aload_n 0, 1, 0, 0, 0, 0), (.getfield 133, 3, 11, 52, 2, 0), (.iload_n 1, 1, 0, 0, 0, 0)]
theorem sk_115_27 : segB 11 false prog_13_method_38_code 27 sg_115_27 = true := by decide +kernel
def sg_115_38 : List RI := [(.iload_n 1, 1, 0, 0, 0, 0)]
theorem sk_115_38 : segB 11 false prog_13_method_38_code 38 sg_115_38 = true := by decide +kernel
def sg_115_42 : List RI := [(.aload_n 0, 1, 0, 0, 0, 0), (.aload_n 0, 1, 0, 0, 0, 0), (.getfield 133, 3, 11, 52, 2, 0), (.iload_n 1, 1, 0, 0, 0, 0)]
theorem sk_115_42 : segB 11 false prog_13_method_38_code 42 sg_115_42 = true := by decide +kernel
def sg_115_52 : List RI := [(.iinc 1 1, 3, 0, 0, 0, 1)]
theorem sk_115_52 : segB 11 false prog_13_method_38_code 52 sg_115_52 = true := by decide +kernel
def sg_115_58 : List RI := [(.iconst 0, 1, 0, 0, 0, 0), (.istore_n 1, 1, 0, 0, 0, 0)]
theorem sk_115_58 : segB 11 false prog_13_method_38_code 58 sg_115_58 = true := by decide +kernel
def sg_115_60 : List RI := [(.iload_n 1, 1, 0, 0, 0, 0), (.aload_n 0, 1, 0, 0, 0, 0), (.getfield 229, 3, 11, 47, 0, 0)]
theorem sk_115_60 : segB 11 false prog_13_method_38_code 60 sg_115_60 = true := by decide +kernel
def sg_115_68 : List RI := [(.aload_n 0, 1, 0, 0, 0, 0), (.getfield 121, 3, 11, 44, 2, 0), (.aload_n 0, 1, 0, 0, 0, 0), (.getfield 130, 3, 11, 48, 2, 0), (.iload_n 1, 1, 0, 0, 0, 0)]
theorem sk_115_68 : segB 11 false prog_13_method_38_code 68 sg_115_68 = true := by decide +kernel
def sg_115_79 : List RI := [(.iconst 1, 1, 0, 0, 0, 1)]
theorem sk_115_79 : segB 11 false prog_13_method_38_code 79 sg_115_79 = true := by decide +kernel
def sg_115_83 : List RI := [(.aload_n 0, 1, 0, 0, 0, 0), (.getfield 121, 3, 11, 44, 2, 0), (.aload_n 0, 1, 0, 0, 0, 0), (.getfield 130, 3, 11, 48, 2, 0), (.iload_n 1, 1, 0, 0, 0, 0)]
theorem sk_115_83 : segB 11 false prog_13_method_38_code 83 sg_115_83 = true := by decide +kernel
def sg_115_94 : List RI := [(.iconst 2, 1, 0, 0, 0, 2)]
theorem sk_115_94 : segB 11 false prog_13_method_38_code 94 sg_115_94 = true := by decide +kernel
def sg_115_98 : List RI := [(.aload_n 0, 1, 0, 0, 0, 0), (.aload_n 0, 1, 0, 0, 0, 0), (.getfield 130, 3, 11, 48, 2, 0), (.iload_n 1, 1, 0, 0, 0, 0)]
theorem sk_115_98 : segB 11 false prog_13_method_38_code 98 sg_115_98 = true := by decide +kernel
def sg_115_105 : List RI := [(.iconst 5, 1, 0, 0, 0, 5)]
theorem sk_115_105 : segB 11 false prog_13_method_38_code 105 sg_115_105 = true := by decide +kernel
def sg_115_109 : List RI := [(.iinc 1 1, 3, 0, 0, 0, 1)]
theorem sk_115_109 : segB 11 false prog_13_method_38_code 109 sg_115_109 = true := by decide +kernel
theorem ck_115_7 : decode prog_13_method_38_code 7 = .ok (.if_icmp .ge 51, 3) ∧ lnkB 11 false 7 (.if_icmp .ge 51, 3, 58, 0, 0, 0) = true := by decide +kernel
theorem ca_115_15 : decode prog_13_method_38_code 15 = .ok (.iaload, 1) ∧ lnkB 11 false 15 (.iaload, 1, 0, 0, 0, 0) = true := by decide +kernel
theorem ck_115_17 : decode prog_13_method_38_code 17 = .ok (.if_icmp .ne 35, 3) ∧ lnkB 11 false 17 (.if_icmp .ne 35, 3, 52, 0, 0, 0) = true := by decide +kernel
theorem ca_115_26 : decode prog_13_method_38_code 26 = .ok (.iastore, 1) ∧ lnkB 11 false 26 (.iastore, 1, 0, 0, 0, 0) = true := by decide +kernel
theorem ca_115_36 : decode prog_13_method_38_code 36 = .ok (.iaload, 1) ∧ lnkB 11 false 36 (.iaload, 1, 0, 0, 0, 0) = true := by decide +kernel
theorem ca_115_37 : decode prog_13_method_38_code 37 = .ok (.iaload, 1) ∧ lnkB 11 false 37 (.iaload, 1, 0, 0, 0, 0) = true := by decide +kernel
theorem ck_115_39 : decode prog_13_method_38_code 39 = .ok (.if_icmp .ne 13, 3) ∧ lnkB 11 false 39 (.if_icmp .ne 13, 3, 52, 0, 0, 0) = true := by decide +kernel
theorem ca_115_48 : decode prog_13_method_38_code 48 = .ok (.iaload, 1) ∧ lnkB 11 false 48 (.iaload, 1, 0, 0, 0, 0) = true := by decide +kernel
theorem ck_115_49 : decode prog_13_method_38_code 49 = .ok (.invokevirtual 251, 3) ∧ lnkB 11 false 49 (.invokevirtual 251, 3, 111, 0, 0, 0) = true := by decide +kernel
theorem ck_115_55 : decode prog_13_method_38_code 55 = .ok (.goto (-53), 3) ∧ lnkB 11 false 55 (.goto (-53), 3, 2, 0, 0, 0) = true := by decide +kernel
theorem ck_115_65 : decode prog_13_method_38_code 65 = .ok (.if_icmp .ge 50, 3) ∧ lnkB 11 false 65 (.if_icmp .ge 50, 3, 115, 0, 0, 0) = true := by decide +kernel
theorem ca_115_77 : decode prog_13_method_38_code 77 = .ok (.iaload, 1) ∧ lnkB 11 false 77 (.iaload, 1, 0, 0, 0, 0) = true := by decide +kernel
theorem ca_115_78 : decode prog_13_method_38_code 78 = .ok (.iaload, 1) ∧ lnkB 11 false 78 (.iaload, 1, 0, 0, 0, 0) = true := by decide +kernel
theorem ck_115_80 : decode prog_13_method_38_code 80 = .ok (.if_icmp .eq 18, 3) ∧ lnkB 11 false 80 (.if_icmp .eq 18, 3, 98, 0, 0, 0) = true := by decide +kernel
theorem ca_115_92 : decode prog_13_method_38_code 92 = .ok (.iaload, 1) ∧ lnkB 11 false 92 (.iaload, 1, 0, 0, 0, 0) = true := by decide +kernel
theorem ca_115_93 : decode prog_13_method_38_code 93 = .ok (.iaload, 1) ∧ lnkB 11 false 93 (.iaload, 1, 0, 0, 0, 0) = true := by decide +kernel
theorem ck_115_95 : decode prog_13_method_38_code 95 = .ok (.if_icmp .ne 14, 3) ∧ lnkB 11 false 95 (.if_icmp .ne 14, 3, 109, 0, 0, 0) = true := by decide +kernel
theorem ca_115_104 : decode prog_13_method_38_code 104 = .ok (.iaload, 1) ∧ lnkB 11 false 104 (.iaload, 1, 0, 0, 0, 0) = true := by decide +kernel
theorem ck_115_106 : decode prog_13_method_38_code 106 = .ok (.invokevirtual 226, 3) ∧ lnkB 11 false 106 (.invokevirtual 226, 3, 104, 0, 0, 0) = true := by decide +kernel
theorem ck_115_112 : decode prog_13_method_38_code 112 = .ok (.goto (-52), 3) ∧ lnkB 11 false 112 (.goto (-52), 3, 60, 0, 0, 0) = true := by decide +kernel
theorem ck_115_115 : decode prog_13_method_38_code 115 = .ok (.return_, 1) ∧ lnkB 11 false 115 (.return_, 1, 0, 0, 0, 0) = true := by decide +kernel
abbrev RU_115 (d : Nat) (cp : Nat × Nat) (Post : Option Value → Sto → Prop) : PP := Runs (Ex d) prog_13_method_38_code 11 false 2 none none cp Post
theorem en_115 {d : Nat} {As : List Value} {S : Sto} {mc ms : Nat} {Post : Option Value → Sto → Prop} (hc : cats As ≤ 2) (h : RU_115 d (mc, ms) Post 0 (lv_args 0 As) [] S 0 0) : Ex (d + 1) 115 As S mc ms Post := ⟨by decide, hc, h⟩
def sg_116_0 : List RI := [(.iconst 1, 1, 0, 0, 0, 1), (.istore_n 1, 1, 0, 0, 0, 0), (.iconst 0, 1, 0, 0, 0, 0), (.istore_n 2, 1, 0, 0, 0, 0)]
theorem sk_116_0 : segB 11 false prog_13_method_36_code 0 sg_116_0 = true := by decide +kernel
def sg_116_4 : List RI := [(.iload_n 2, 1, 0, 0, 0, 0), (.aload_n 0, 1, 0, 0, 0, 0), (.getfield 254, 3, 11, 51, 0, 0)]
theorem sk_116_4 : segB 11 false prog_13_method_36_code 4 sg_116_4 = true := by decide +kernel
def sg_116_12 : List RI := [(.iload_n 1, 1, 0, 0, 0, 0)]
theorem sk_116_12 : segB 11 false prog_13_method_36_code 12 sg_116_12 = true := by decide +kernel
def sg_116_16 : List RI := [(.aload_n 0, 1, 0, 0, 0, 0), (.getfield 145, 3, 11, 56, 2, 0), (.iload_n 2, 1, 0, 0, 0, 0)]
theorem sk_116_16 : segB 11 false prog_13_method_36_code 16 sg_116_16 = true := by decide +kernel
def sg_116_22 : List RI := [(.iconst 3, 1, 0, 0, 0, 3)]
theorem sk_116_22 : segB 11 false prog_13_method_36_code 22 sg_116_22 = true := by decide +kernel
def sg_116_26 : List RI := [(.iconst 1, 1, 0, 0, 0, 1)]
theorem sk_116_26 : segB 11 false prog_13_method_36_code 26 sg_116_26 = true := by decide +kernel
def sg_116_30 : List RI := [(.iconst 0, 1, 0, 0, 0, 0)]
theorem sk_116_30 : segB 11 false prog_13_method_36_code 30 sg_116_30 = true := by decide +kernel
def sg_116_31 : List RI := [(.istore_n 1, 1, 0, 0, 0, 0), (.iinc 2 1, 3, 0, 0, 0, 1)]
theorem sk_116_31 : segB 11 false prog_13_method_36_code 31 sg_116_31 = true := by decide +kernel
def sg_116_38 : List RI := [(.iconst 0, 1, 0, 0, 0, 0), (.istore_n 2, 1, 0, 0, 0, 0)]
theorem sk_116_38 : segB 11 false prog_13_method_36_code 38 sg_116_38 = true := by decide +kernel
def sg_116_40 : List RI := [(.iload_n 2, 1, 0, 0, 0, 0), (.aload_n 0, 1, 0, 0, 0, 0), (.getfield 229, 3, 11, 47, 0, 0)]
theorem sk_116_40 : segB 11 false prog_13_method_36_code 40 sg_116_40 = true := by decide +kernel
def sg_116_48 : List RI := [(.iload_n 1, 1, 0, 0, 0, 0)]
theorem sk_116_48 : segB 11 false prog_13_method_36_code 48 sg_116_48 = true := by decide +kernel
def sg_116_52 : List RI := [(.aload_n 0, 1, 0, 0, 0, 0), (.getfield 121, 3, 11, 44, 2, 0), (.aload_n 0, 1, 0, 0, 0, 0), (.getfield 130, 3, 11, 48, 2, 0), (.iload_n 2, 1, 0, 0, 0, 0)]
theorem sk_116_52 : segB 11 false prog_13_method_36_code 52 sg_116_52 = true := by decide +kernel
def sg_116_63 : List RI := [(.iconst 1, 1, 0, 0, 0, 1)]
theorem sk_116_63 : segB 11 false prog_13_method_36_code 63 sg_116_63 = true := by decide +kernel
def sg_116_67 : List RI := [(.iconst 1, 1, 0, 0, 0, 1)]
theorem sk_116_67 : segB 11 false prog_13_method_36_code 67 sg_116_67 = true := by decide +kernel
def sg_116_71 : List RI := [(.iconst 0, 1, 0, 0, 0, 0)]
theorem sk_116_71 : segB 11 false prog_13_method_36_code 71 sg_116_71 = true := by decide +kernel
def sg_116_72 : List RI := [(.istore_n 1, 1, 0, 0, 0, 0), (.iinc 2 1, 3, 0, 0, 0, 1)]
theorem sk_116_72 : segB 11 false prog_13_method_36_code 72 sg_116_72 = true := by decide +kernel
def sg_116_79 : List RI := [(.iload_n 1, 1, 0, 0, 0, 0)]
theorem sk_116_79 : segB 11 false prog_13_method_36_code 79 sg_116_79 = true := by decide +kernel
theorem ck_116_9 : decode prog_13_method_36_code 9 = .ok (.if_icmp .ge 29, 3) ∧ lnkB 11 false 9 (.if_icmp .ge 29, 3, 38, 0, 0, 0) = true := by decide +kernel
theorem ck_116_13 : decode prog_13_method_36_code 13 = .ok (.ifCond .eq 17, 3) ∧ lnkB 11 false 13 (.ifCond .eq 17, 3, 30, 0, 0, 0) = true := by decide +kernel
theorem ca_116_21 : decode prog_13_method_36_code 21 = .ok (.iaload, 1) ∧ lnkB 11 false 21 (.iaload, 1, 0, 0, 0, 0) = true := by decide +kernel
theorem ck_116_23 : decode prog_13_method_36_code 23 = .ok (.if_icmp .eq 7, 3) ∧ lnkB 11 false 23 (.if_icmp .eq 7, 3, 30, 0, 0, 0) = true := by decide +kernel
theorem ck_116_27 : decode prog_13_method_36_code 27 = .ok (.goto 4, 3) ∧ lnkB 11 false 27 (.goto 4, 3, 31, 0, 0, 0) = true := by decide +kernel
theorem ck_116_35 : decode prog_13_method_36_code 35 = .ok (.goto (-31), 3) ∧ lnkB 11 false 35 (.goto (-31), 3, 4, 0, 0, 0) = true := by decide +kernel
theorem ck_116_45 : decode prog_13_method_36_code 45 = .ok (.if_icmp .ge 34, 3) ∧ lnkB 11 false 45 (.if_icmp .ge 34, 3, 79, 0, 0, 0) = true := by decide +kernel
theorem ck_116_49 : decode prog_13_method_36_code 49 = .ok (.ifCond .eq 22, 3) ∧ lnkB 11 false 49 (.ifCond .eq 22, 3, 71, 0, 0, 0) = true := by decide +kernel
theorem ca_116_61 : decode prog_13_method_36_code 61 = .ok (.iaload, 1) ∧ lnkB 11 false 61 (.iaload, 1, 0, 0, 0, 0) = true := by decide +kernel
theorem ca_116_62 : decode prog_13_method_36_code 62 = .ok (.iaload, 1) ∧ lnkB 11 false 62 (.iaload, 1, 0, 0, 0, 0) = true := by decide +kernel
theorem ck_116_64 : decode prog_13_method_36_code 64 = .ok (.if_icmp .eq 7, 3) ∧ lnkB 11 false 64 (.if_icmp .eq 7, 3, 71, 0, 0, 0) = true := by decide +kernel
theorem ck_116_68 : decode prog_13_method_36_code 68 = .ok (.goto 4, 3) ∧ lnkB 11 false 68 (.goto 4, 3, 72, 0, 0, 0) = true := by decide +kernel
theorem ck_116_76 : decode prog_13_method_36_code 76 = .ok (.goto (-36), 3) ∧ lnkB 11 false 76 (.goto (-36), 3, 40, 0, 0, 0) = true := by decide +kernel
theorem ck_116_80 : decode prog_13_method_36_code 80 = .ok (.ireturn, 1) ∧ lnkB 11 false 80 (.ireturn, 1, 0, 0, 0, 0) = true := by decide +kernel
abbrev RU_116 (d : Nat) (cp : Nat × Nat) (Post : Option Value → Sto → Prop) : PP := Runs (Ex d) prog_13_method_36_code 11 false 3 (some .boolean) none cp Post
theorem en_116 {d : Nat} {As : List Value} {S : Sto} {mc ms : Nat} {Post : Option Value → Sto → Prop} (hc : cats As ≤ 3) (h : RU_116 d (mc, ms) Post 0 (lv_args 0 As) [] S 0 0) : Ex (d + 1) 116 As S mc ms Post := ⟨by decide, hc, h⟩
def sg_117_0 : List RI := [(.aload_n 0, 1, 0, 0, 0, 0), (.getfield 121, 3, 11, 44, 2, 0), (.iload_n 1, 1, 0, 0, 0, 0)]
theorem sk_117_0 : segB 11 false prog_13_method_43_code 0 sg_117_0 = true := by decide +kernel
def sg_117_6 : List RI := [(.iconst 4, 1, 0, 0, 0, 4)]
theorem sk_117_6 : segB 11 false prog_13_method_43_code 6 sg_117_6 = true := by decide +kernel
def sg_117_10 : List RI := [(.aload_n 0, 1, 0, 0, 0, 0), (.aload_n 0, 1, 0, 0, 0, 0), (.getfield 124, 3, 11, 45, 2, 0), (.iload_n 1, 1, 0, 0, 0, 0)]
theorem sk_117_10 : segB 11 false prog_13_method_43_code 10 sg_117_10 = true := by decide +kernel
def sg_117_21 : List RI := [(.aload_n 0, 1, 0, 0, 0, 0), (.iload_n 1, 1, 0, 0, 0, 0), (.iload_n 2, 1, 0, 0, 0, 0)]
theorem sk_117_21 : segB 11 false prog_13_method_43_code 21 sg_117_21 = true := by decide +kernel
def sg_117_30 : List RI := [(.aload_n 0, 1, 0, 0, 0, 0), (.bipush 6, 2, 0, 0, 0, 6)]
theorem sk_117_30 : segB 11 false prog_13_method_43_code 30 sg_117_30 = true := by decide +kernel
def sg_117_37 : List RI := [(.aload_n 0, 1, 0, 0, 0, 0), (.iconst 1, 1, 0, 0, 0, 1)]
theorem sk_117_37 : segB 11 false prog_13_method_43_code 37 sg_117_37 = true := by decide +kernel
def sg_117_42 : List RI := [(.iconst 0, 1, 0, 0, 0, 0), (.istore_n 3, 1, 0, 0, 0, 0)]
theorem sk_117_42 : segB 11 false prog_13_method_43_code 42 sg_117_42 = true := by decide +kernel
def sg_117_44 : List RI := [(.iload_n 3, 1, 0, 0, 0, 0), (.aload_n 0, 1, 0, 0, 0, 0), (.getfield 105, 3, 11, 38, 2, 0), (.iload_n 2, 1, 0, 0, 0, 0)]
theorem sk_117_44 : segB 11 false prog_13_method_43_code 44 sg_117_44 = true := by decide +kernel
def sg_117_54 : List RI := [(.aload_n 0, 1, 0, 0, 0, 0), (.getfield 108, 3, 11, 39, 2, 0), (.bipush 6, 2, 0, 0, 0, 6), (.iload_n 2, 1, 0, 0, 0, 0), (.imul, 1, 0, 0, 0, 0), (.iload_n 3, 1, 0, 0, 0, 0), (.iadd, 1, 0, 0, 0, 0)]
theorem sk_117_54 : segB 11 false prog_13_method_43_code 54 sg_117_54 = true := by decide +kernel
def sg_117_65 : List RI := [(.istore 4, 2, 0, 0, 0, 0), (.iconst 4, 1, 0, 0, 0, 4), (.iload_n 1, 1, 0, 0, 0, 0), (.bipush 32, 2, 0, 0, 0, 32), (.idiv, 1, 0, 0, 0, 0), (.imul, 1, 0, 0, 0, 0), (.iload 4, 2, 0, 0, 0, 0), (.iadd, 1, 0, 0, 0, 0), (.istore 5, 2, 0, 0, 0, 0), (.aload_n 0, 1, 0, 0, 0, 0), (.getfield 111, 3, 11, 40, 2, 0), (.bipush 6, 2, 0, 0, 0, 6), (.iload_n 2, 1, 0, 0, 0, 0), (.imul, 1, 0, 0, 0, 0), (.iload_n 3, 1, 0, 0, 0, 0), (.iadd, 1, 0, 0, 0, 0)]
theorem sk_117_65 : segB 11 false prog_13_method_43_code 65 sg_117_65 = true := by decide +kernel
def sg_117_89 : List RI := [(.istore 6, 2, 0, 0, 0, 0), (.aload_n 0, 1, 0, 0, 0, 0), (.getfield 52, 3, 11, 17, 2, 0), (.iload 5, 2, 0, 0, 0, 0)]
theorem sk_117_89 : segB 11 false prog_13_method_43_code 89 sg_117_89 = true := by decide +kernel
def sg_117_101 : List RI := [(.aload_n 0, 1, 0, 0, 0, 0), (.aload_n 0, 1, 0, 0, 0, 0), (.getfield 68, 3, 11, 22, 2, 0), (.iconst 4, 1, 0, 0, 0, 4), (.iload_n 1, 1, 0, 0, 0, 0), (.imul, 1, 0, 0, 0, 0), (.iload 4, 2, 0, 0, 0, 0), (.iadd, 1, 0, 0, 0, 0)]
theorem sk_117_101 : segB 11 false prog_13_method_43_code 101 sg_117_101 = true := by decide +kernel
def sg_117_119 : List RI := [(.aload_n 0, 1, 0, 0, 0, 0), (.getfield 52, 3, 11, 17, 2, 0), (.iload 5, 2, 0, 0, 0, 0)]
theorem sk_117_119 : segB 11 false prog_13_method_43_code 119 sg_117_119 = true := by decide +kernel
def sg_117_126 : List RI := [(.iconst 1, 1, 0, 0, 0, 1)]
theorem sk_117_126 : segB 11 false prog_13_method_43_code 126 sg_117_126 = true := by decide +kernel
def sg_117_130 : List RI := [(.aload_n 0, 1, 0, 0, 0, 0), (.getfield 71, 3, 11, 23, 2, 0), (.iconst 4, 1, 0, 0, 0, 4), (.iload_n 1, 1, 0, 0, 0, 0), (.imul, 1, 0, 0, 0, 0), (.iload 4, 2, 0, 0, 0, 0), (.iadd, 1, 0, 0, 0, 0)]
theorem sk_117_130 : segB 11 false prog_13_method_43_code 130 sg_117_130 = true := by decide +kernel
def sg_117_141 : List RI := [(.iconst (-1), 1, 0, 0, 0, -1)]
theorem sk_117_141 : segB 11 false prog_13_method_43_code 141 sg_117_141 = true := by decide +kernel
def sg_117_145 : List RI := [(.aload_n 0, 1, 0, 0, 0, 0), (.iconst 2, 1, 0, 0, 0, 2)]
theorem sk_117_145 : segB 11 false prog_13_method_43_code 145 sg_117_145 = true := by decide +kernel
def sg_117_153 : List RI := [(.aload_n 0, 1, 0, 0, 0, 0), (.bipush 32, 2, 0, 0, 0, 32), (.aload_n 0, 1, 0, 0, 0, 0), (.getfield 55, 3, 11, 18, 2, 0), (.iload 5, 2, 0, 0, 0, 0)]
theorem sk_117_153 : segB 11 false prog_13_method_43_code 153 sg_117_153 = true := by decide +kernel
def sg_117_163 : List RI := [(.imul, 1, 0, 0, 0, 0), (.aload_n 0, 1, 0, 0, 0, 0), (.getfield 71, 3, 11, 23, 2, 0), (.iconst 4, 1, 0, 0, 0, 4), (.iload_n 1, 1, 0, 0, 0, 0), (.imul, 1, 0, 0, 0, 0), (.iload 4, 2, 0, 0, 0, 0), (.iadd, 1, 0, 0, 0, 0)]
theorem sk_117_163 : segB 11 false prog_13_method_43_code 163 sg_117_163 = true := by decide +kernel
def sg_117_175 : List RI := [(.iadd, 1, 0, 0, 0, 0), (.iload 6, 2, 0, 0, 0, 0)]
theorem sk_117_175 : segB 11 false prog_13_method_43_code 175 sg_117_175 = true := by decide +kernel
def sg_117_184 : List RI := [(.aload_n 0, 1, 0, 0, 0, 0), (.aload_n 0, 1, 0, 0, 0, 0), (.iload_n 1, 1, 0, 0, 0, 0), (.iload 4, 2, 0, 0, 0, 0)]
theorem sk_117_184 : segB 11 false prog_13_method_43_code 184 sg_117_184 = true := by decide +kernel
def sg_117_195 : List RI := [(.iconst 0, 1, 0, 0, 0, 0), (.istore 7, 2, 0, 0, 0, 0)]
theorem sk_117_195 : segB 11 false prog_13_method_43_code 195 sg_117_195 = true := by decide +kernel
def sg_117_198 : List RI := [(.iload 7, 2, 0, 0, 0, 0), (.aload_n 0, 1, 0, 0, 0, 0), (.iload_n 1, 1, 0, 0, 0, 0), (.iload 4, 2, 0, 0, 0, 0)]
theorem sk_117_198 : segB 11 false prog_13_method_43_code 198 sg_117_198 = true := by decide +kernel
def sg_117_210 : List RI := [(.aload_n 0, 1, 0, 0, 0, 0), (.bipush 32, 2, 0, 0, 0, 32), (.aload_n 0, 1, 0, 0, 0, 0), (.getfield 55, 3, 11, 18, 2, 0), (.iload 5, 2, 0, 0, 0, 0)]
theorem sk_117_210 : segB 11 false prog_13_method_43_code 210 sg_117_210 = true := by decide +kernel
def sg_117_220 : List RI := [(.imul, 1, 0, 0, 0, 0), (.aload_n 0, 1, 0, 0, 0, 0), (.iload_n 1, 1, 0, 0, 0, 0), (.iload 4, 2, 0, 0, 0, 0), (.iload 7, 2, 0, 0, 0, 0)]
theorem sk_117_220 : segB 11 false prog_13_method_43_code 220 sg_117_220 = true := by decide +kernel
def sg_117_230 : List RI := [(.iadd, 1, 0, 0, 0, 0), (.iload 6, 2, 0, 0, 0, 0)]
theorem sk_117_230 : segB 11 false prog_13_method_43_code 230 sg_117_230 = true := by decide +kernel
def sg_117_236 : List RI := [(.iinc 7 1, 3, 0, 0, 0, 1)]
theorem sk_117_236 : segB 11 false prog_13_method_43_code 236 sg_117_236 = true := by decide +kernel
def sg_117_242 : List RI := [(.iinc 3 1, 3, 0, 0, 0, 1)]
theorem sk_117_242 : segB 11 false prog_13_method_43_code 242 sg_117_242 = true := by decide +kernel
theorem ca_117_5 : decode prog_13_method_43_code 5 = .ok (.iaload, 1) ∧ lnkB 11 false 5 (.iaload, 1, 0, 0, 0, 0) = true := by decide +kernel
theorem ck_117_7 : decode prog_13_method_43_code 7 = .ok (.if_icmp .ne 14, 3) ∧ lnkB 11 false 7 (.if_icmp .ne 14, 3, 21, 0, 0, 0) = true := by decide +kernel
theorem ca_117_16 : decode prog_13_method_43_code 16 = .ok (.iaload, 1) ∧ lnkB 11 false 16 (.iaload, 1, 0, 0, 0, 0) = true := by decide +kernel
theorem ck_117_17 : decode prog_13_method_43_code 17 = .ok (.invokevirtual 295, 3) ∧ lnkB 11 false 17 (.invokevirtual 295, 3, 118, 0, 0, 0) = true := by decide +kernel
theorem ck_117_20 : decode prog_13_method_43_code 20 = .ok (.return_, 1) ∧ lnkB 11 false 20 (.return_, 1, 0, 0, 0, 0) = true := by decide +kernel
theorem ck_117_24 : decode prog_13_method_43_code 24 = .ok (.invokevirtual 292, 3) ∧ lnkB 11 false 24 (.invokevirtual 292, 3, 120, 0, 0, 0) = true := by decide +kernel
theorem ck_117_27 : decode prog_13_method_43_code 27 = .ok (.ifCond .eq 10, 3) ∧ lnkB 11 false 27 (.ifCond .eq 10, 3, 37, 0, 0, 0) = true := by decide +kernel
theorem ck_117_33 : decode prog_13_method_43_code 33 = .ok (.invokevirtual 295, 3) ∧ lnkB 11 false 33 (.invokevirtual 295, 3, 118, 0, 0, 0) = true := by decide +kernel
theorem ck_117_36 : decode prog_13_method_43_code 36 = .ok (.return_, 1) ∧ lnkB 11 false 36 (.return_, 1, 0, 0, 0, 0) = true := by decide +kernel
theorem ck_117_39 : decode prog_13_method_43_code 39 = .ok (.invokevirtual 289, 3) ∧ lnkB 11 false 39 (.invokevirtual 289, 3, 119, 0, 0, 0) = true := by decide +kernel
theorem ca_117_50 : decode prog_13_method_43_code 50 = .ok (.iaload, 1) ∧ lnkB 11 false 50 (.iaload, 1, 0, 0, 0, 0) = true := by decide +kernel
theorem ck_117_51 : decode prog_13_method_43_code 51 = .ok (.if_icmp .ge 197, 3) ∧ lnkB 11 false 51 (.if_icmp .ge 197, 3, 248, 0, 0, 0) = true := by decide +kernel
theorem ca_117_64 : decode prog_13_method_43_code 64 = .ok (.iaload, 1) ∧ lnkB 11 false 64 (.iaload, 1, 0, 0, 0, 0) = true := by decide +kernel
theorem ca_117_88 : decode prog_13_method_43_code 88 = .ok (.iaload, 1) ∧ lnkB 11 false 88 (.iaload, 1, 0, 0, 0, 0) = true := by decide +kernel
theorem ca_117_97 : decode prog_13_method_43_code 97 = .ok (.iaload, 1) ∧ lnkB 11 false 97 (.iaload, 1, 0, 0, 0, 0) = true := by decide +kernel
theorem ck_117_98 : decode prog_13_method_43_code 98 = .ok (.ifCond .ne 21, 3) ∧ lnkB 11 false 98 (.ifCond .ne 21, 3, 119, 0, 0, 0) = true := by decide +kernel
theorem ca_117_112 : decode prog_13_method_43_code 112 = .ok (.iaload, 1) ∧ lnkB 11 false 112 (.iaload, 1, 0, 0, 0, 0) = true := by decide +kernel
theorem ck_117_113 : decode prog_13_method_43_code 113 = .ok (.invokevirtual 289, 3) ∧ lnkB 11 false 113 (.invokevirtual 289, 3, 119, 0, 0, 0) = true := by decide +kernel
theorem ck_117_116 : decode prog_13_method_43_code 116 = .ok (.goto 126, 3) ∧ lnkB 11 false 116 (.goto 126, 3, 242, 0, 0, 0) = true := by decide +kernel
theorem ca_117_125 : decode prog_13_method_43_code 125 = .ok (.iaload, 1) ∧ lnkB 11 false 125 (.iaload, 1, 0, 0, 0, 0) = true := by decide +kernel
theorem ck_117_127 : decode prog_13_method_43_code 127 = .ok (.if_icmp .ne 57, 3) ∧ lnkB 11 false 127 (.if_icmp .ne 57, 3, 184, 0, 0, 0) = true := by decide +kernel
theorem ca_117_140 : decode prog_13_method_43_code 140 = .ok (.iaload, 1) ∧ lnkB 11 false 140 (.iaload, 1, 0, 0, 0, 0) = true := by decide +kernel
theorem ck_117_142 : decode prog_13_method_43_code 142 = .ok (.if_icmp .ne 11, 3) ∧ lnkB 11 false 142 (.if_icmp .ne 11, 3, 153, 0, 0, 0) = true := by decide +kernel
theorem ck_117_147 : decode prog_13_method_43_code 147 = .ok (.invokevirtual 295, 3) ∧ lnkB 11 false 147 (.invokevirtual 295, 3, 118, 0, 0, 0) = true := by decide +kernel
theorem ck_117_150 : decode prog_13_method_43_code 150 = .ok (.goto 92, 3) ∧ lnkB 11 false 150 (.goto 92, 3, 242, 0, 0, 0) = true := by decide +kernel
theorem ca_117_162 : decode prog_13_method_43_code 162 = .ok (.iaload, 1) ∧ lnkB 11 false 162 (.iaload, 1, 0, 0, 0, 0) = true := by decide +kernel
theorem ca_117_174 : decode prog_13_method_43_code 174 = .ok (.iaload, 1) ∧ lnkB 11 false 174 (.iaload, 1, 0, 0, 0, 0) = true := by decide +kernel
theorem ck_117_178 : decode prog_13_method_43_code 178 = .ok (.invokevirtual 286, 3) ∧ lnkB 11 false 178 (.invokevirtual 286, 3, 117, 0, 0, 0) = true := by decide +kernel
theorem ck_117_181 : decode prog_13_method_43_code 181 = .ok (.goto 61, 3) ∧ lnkB 11 false 181 (.goto 61, 3, 242, 0, 0, 0) = true := by decide +kernel
theorem ck_117_189 : decode prog_13_method_43_code 189 = .ok (.invokevirtual 240, 3) ∧ lnkB 11 false 189 (.invokevirtual 240, 3, 106, 0, 0, 0) = true := by decide +kernel
theorem ck_117_192 : decode prog_13_method_43_code 192 = .ok (.invokevirtual 289, 3) ∧ lnkB 11 false 192 (.invokevirtual 289, 3, 119, 0, 0, 0) = true := by decide +kernel
theorem ck_117_204 : decode prog_13_method_43_code 204 = .ok (.invokevirtual 240, 3) ∧ lnkB 11 false 204 (.invokevirtual 240, 3, 106, 0, 0, 0) = true := by decide +kernel
theorem ck_117_207 : decode prog_13_method_43_code 207 = .ok (.if_icmp .ge 35, 3) ∧ lnkB 11 false 207 (.if_icmp .ge 35, 3, 242, 0, 0, 0) = true := by decide +kernel
theorem ca_117_219 : decode prog_13_method_43_code 219 = .ok (.iaload, 1) ∧ lnkB 11 false 219 (.iaload, 1, 0, 0, 0, 0) = true := by decide +kernel
theorem ck_117_227 : decode prog_13_method_43_code 227 = .ok (.invokevirtual 244, 3) ∧ lnkB 11 false 227 (.invokevirtual 244, 3, 107, 0, 0, 0) = true := by decide +kernel
theorem ck_117_233 : decode prog_13_method_43_code 233 = .ok (.invokevirtual 286, 3) ∧ lnkB 11 false 233 (.invokevirtual 286, 3, 117, 0, 0, 0) = true := by decide +kernel
theorem ck_117_239 : decode prog_13_method_43_code 239 = .ok (.goto (-41), 3) ∧ lnkB 11 false 239 (.goto (-41), 3, 198, 0, 0, 0) = true := by decide +kernel
theorem ck_117_245 : decode prog_13_method_43_code 245 = .ok (.goto (-201), 3) ∧ lnkB 11 false 245 (.goto (-201), 3, 44, 0, 0, 0) = true := by decide +kernel
theorem ck_117_248 : decode prog_13_method_43_code 248 = .ok (.return_, 1) ∧ lnkB 11 false 248 (.return_, 1, 0, 0, 0, 0) = true := by decide +kernel
abbrev RU_117 (d : Nat) (cp : Nat × Nat) (Post : Option Value → Sto → Prop) : PP := Runs (Ex d) prog_13_method_43_code 11 false 8 none none cp Post
theorem en_117 {d : Nat} {As : List Value} {S : Sto} {mc ms : Nat} {Post : Option Value → Sto → Prop} (hc : cats As ≤ 8) (h : RU_117 d (mc, ms) Post 0 (lv_args 0 As) [] S 0 0) : Ex (d + 1) 117 As S mc ms Post := ⟨by decide, hc, h⟩
def sg_118_0 : List RI := [(.aload_n 0, 1, 0, 0, 0, 0), (.iconst 0, 1, 0, 0, 0, 0)]
theorem sk_118_0 : segB 11 false prog_13_method_41_code 0 sg_118_0 = true := by decide +kernel
def sg_118_5 : List RI := [(.aload_n 0, 1, 0, 0, 0, 0), (.iload_n 1, 1, 0, 0, 0, 0)]
theorem sk_118_5 : segB 11 false prog_13_method_41_code 5 sg_118_5 = true := by decide +kernel
def sg_118_10 : List RI := [(.aload_n 0, 1, 0, 0, 0, 0), (.iconst 1, 1, 0, 0, 0, 1), (.putfield 282, 3, 11, 60, 0, 0)]
theorem sk_118_10 : segB 11 false prog_13_method_41_code 10 sg_118_10 = true := by decide +kernel
theorem ck_118_2 : decode prog_13_method_41_code 2 = .ok (.invokevirtual 289, 3) ∧ lnkB 11 false 2 (.invokevirtual 289, 3, 119, 0, 0, 0) = true := by decide +kernel
theorem ck_118_7 : decode prog_13_method_41_code 7 = .ok (.invokevirtual 289, 3) ∧ lnkB 11 false 7 (.invokevirtual 289, 3, 119, 0, 0, 0) = true := by decide +kernel
theorem ck_118_15 : decode prog_13_method_41_code 15 = .ok (.return_, 1) ∧ lnkB 11 false 15 (.return_, 1, 0, 0, 0, 0) = true := by decide +kernel
abbrev RU_118 (d : Nat) (cp : Nat × Nat) (Post : Option Value → Sto → Prop) : PP := Runs (Ex d) prog_13_method_41_code 11 false 2 none none cp Post
theorem en_118 {d : Nat} {As : List Value} {S : Sto} {mc ms : Nat} {Post : Option Value → Sto → Prop} (hc : cats As ≤ 2) (h : RU_118 d (mc, ms) Post 0 (lv_args 0 As) [] S 0 0) : Ex (d + 1) 118 As S mc ms Post := ⟨by decide, hc, h⟩
def sg_119_0 : List RI := [(.aload_n 0, 1, 0, 0, 0, 0), (.getfield 156, 3, 11, 61, 2, 0), (.aload_n 0, 1, 0, 0, 0, 0), (.getfield 279, 3, 11, 59, 0, 0), (.iload_n 1, 1, 0, 0, 0, 0)]
theorem sk_119_0 : segB 11 false prog_13_method_40_code 0 sg_119_0 = true := by decide +kernel
def sg_119_10 : List RI := [(.aload_n 0, 1, 0, 0, 0, 0), (.dup, 1, 0, 0, 0, 0), (.getfield 279, 3, 11, 59, 0, 0), (.iconst 1, 1, 0, 0, 0, 1), (.iadd, 1, 0, 0, 0, 0), (.putfield 279, 3, 11, 59, 0, 0)]
theorem sk_119_10 : segB 11 false prog_13_method_40_code 10 sg_119_10 = true := by decide +kernel
theorem ca_119_9 : decode prog_13_method_40_code 9 = .ok (.iastore, 1) ∧ lnkB 11 false 9 (.iastore, 1, 0, 0, 0, 0) = true := by decide +kernel
theorem ck_119_20 : decode prog_13_method_40_code 20 = .ok (.return_, 1) ∧ lnkB 11 false 20 (.return_, 1, 0, 0, 0, 0) = true := by decide +kernel
abbrev RU_119 (d : Nat) (cp : Nat × Nat) (Post : Option Value → Sto → Prop) : PP := Runs (Ex d) prog_13_method_40_code 11 false 2 none none cp Post
theorem en_119 {d : Nat} {As : List Value} {S : Sto} {mc ms : Nat} {Post : Option Value → Sto → Prop} (hc : cats As ≤ 2) (h : RU_119 d (mc, ms) Post 0 (lv_args 0 As) [] S 0 0) : Ex (d + 1) 119 As S mc ms Post := ⟨by decide, hc, h⟩
def sg_120_0 : List RI := [(.aload_n 0, 1, 0, 0, 0, 0), (.getfield 121, 3, 11, 44, 2, 0), (.iload_n 1, 1, 0, 0, 0, 0)]
theorem sk_120_0 : segB 11 false prog_13_method_42_code 0 sg_120_0 = true := by decide +kernel
def sg_120_6 : List RI := [(.iconst 4, 1, 0, 0, 0, 4)]
theorem sk_120_6 : segB 11 false prog_13_method_42_code 6 sg_120_6 = true := by decide +kernel
def sg_120_10 : List RI := [(.iconst 1, 1, 0, 0, 0, 1)]
theorem sk_120_10 : segB 11 false prog_13_method_42_code 10 sg_120_10 = true := by decide +kernel
def sg_120_12 : List RI := [(.iconst 0, 1, 0, 0, 0, 0), (.istore_n 3, 1, 0, 0, 0, 0), (.iconst 0, 1, 0, 0, 0, 0), (.istore 4, 2, 0, 0, 0, 0)]
theorem sk_120_12 : segB 11 false prog_13_method_42_code 12 sg_120_12 = true := by decide +kernel
def sg_120_17 : List RI := [(.iload 4, 2, 0, 0, 0, 0), (.aload_n 0, 1, 0, 0, 0, 0), (.getfield 105, 3, 11, 38, 2, 0), (.iload_n 2, 1, 0, 0, 0, 0)]
theorem sk_120_17 : segB 11 false prog_13_method_42_code 17 sg_120_17 = true := by decide +kernel
def sg_120_28 : List RI := [(.iload_n 3, 1, 0, 0, 0, 0)]
theorem sk_120_28 : segB 11 false prog_13_method_42_code 28 sg_120_28 = true := by decide +kernel
def sg_120_32 : List RI := [(.aload_n 0, 1, 0, 0, 0, 0), (.getfield 108, 3, 11, 39, 2, 0), (.bipush 6, 2, 0, 0, 0, 6), (.iload_n 2, 1, 0, 0, 0, 0), (.imul, 1, 0, 0, 0, 0), (.iload 4, 2, 0, 0, 0, 0), (.iadd, 1, 0, 0, 0, 0)]
theorem sk_120_32 : segB 11 false prog_13_method_42_code 32 sg_120_32 = true := by decide +kernel
def sg_120_44 : List RI := [(.istore 5, 2, 0, 0, 0, 0), (.iconst 4, 1, 0, 0, 0, 4), (.iload_n 1, 1, 0, 0, 0, 0), (.bipush 32, 2, 0, 0, 0, 32), (.idiv, 1, 0, 0, 0, 0), (.imul, 1, 0, 0, 0, 0), (.iload 5, 2, 0, 0, 0, 0), (.iadd, 1, 0, 0, 0, 0), (.istore 6, 2, 0, 0, 0, 0), (.aload_n 0, 1, 0, 0, 0, 0), (.getfield 111, 3, 11, 40, 2, 0), (.bipush 6, 2, 0, 0, 0, 6), (.iload_n 2, 1, 0, 0, 0, 0), (.imul, 1, 0, 0, 0, 0), (.iload 4, 2, 0, 0, 0, 0), (.iadd, 1, 0, 0, 0, 0)]
theorem sk_120_44 : segB 11 false prog_13_method_42_code 44 sg_120_44 = true := by decide +kernel
def sg_120_69 : List RI := [(.istore 7, 2, 0, 0, 0, 0), (.aload_n 0, 1, 0, 0, 0, 0), (.getfield 61, 3, 11, 20, 2, 0), (.iload 6, 2, 0, 0, 0, 0)]
theorem sk_120_69 : segB 11 false prog_13_method_42_code 69 sg_120_69 = true := by decide +kernel
def sg_120_81 : List RI := [(.aload_n 0, 1, 0, 0, 0, 0), (.getfield 52, 3, 11, 17, 2, 0), (.iload 6, 2, 0, 0, 0, 0)]
theorem sk_120_81 : segB 11 false prog_13_method_42_code 81 sg_120_81 = true := by decide +kernel
def sg_120_88 : List RI := [(.iconst 1, 1, 0, 0, 0, 1)]
theorem sk_120_88 : segB 11 false prog_13_method_42_code 88 sg_120_88 = true := by decide +kernel
def sg_120_92 : List RI := [(.aload_n 0, 1, 0, 0, 0, 0), (.getfield 71, 3, 11, 23, 2, 0), (.iconst 4, 1, 0, 0, 0, 4), (.iload_n 1, 1, 0, 0, 0, 0), (.imul, 1, 0, 0, 0, 0), (.iload 5, 2, 0, 0, 0, 0), (.iadd, 1, 0, 0, 0, 0)]
theorem sk_120_92 : segB 11 false prog_13_method_42_code 92 sg_120_92 = true := by decide +kernel
def sg_120_103 : List RI := [(.iconst (-1), 1, 0, 0, 0, -1)]
theorem sk_120_103 : segB 11 false prog_13_method_42_code 103 sg_120_103 = true := by decide +kernel
def sg_120_107 : List RI := [(.aload_n 0, 1, 0, 0, 0, 0), (.bipush 32, 2, 0, 0, 0, 32), (.aload_n 0, 1, 0, 0, 0, 0), (.getfield 55, 3, 11, 18, 2, 0), (.iload 6, 2, 0, 0, 0, 0)]
theorem sk_120_107 : segB 11 false prog_13_method_42_code 107 sg_120_107 = true := by decide +kernel
def sg_120_117 : List RI := [(.imul, 1, 0, 0, 0, 0), (.aload_n 0, 1, 0, 0, 0, 0), (.getfield 71, 3, 11, 23, 2, 0), (.iconst 4, 1, 0, 0, 0, 4), (.iload_n 1, 1, 0, 0, 0, 0), (.imul, 1, 0, 0, 0, 0), (.iload 5, 2, 0, 0, 0, 0), (.iadd, 1, 0, 0, 0, 0)]
theorem sk_120_117 : segB 11 false prog_13_method_42_code 117 sg_120_117 = true := by decide +kernel
def sg_120_129 : List RI := [(.iadd, 1, 0, 0, 0, 0), (.iload 7, 2, 0, 0, 0, 0)]
theorem sk_120_129 : segB 11 false prog_13_method_42_code 129 sg_120_129 = true := by decide +kernel
def sg_120_138 : List RI := [(.iconst 1, 1, 0, 0, 0, 1)]
theorem sk_120_138 : segB 11 false prog_13_method_42_code 138 sg_120_138 = true := by decide +kernel
def sg_120_142 : List RI := [(.iconst 0, 1, 0, 0, 0, 0)]
theorem sk_120_142 : segB 11 false prog_13_method_42_code 142 sg_120_142 = true := by decide +kernel
def sg_120_143 : List RI := [(.istore_n 3, 1, 0, 0, 0, 0)]
theorem sk_120_143 : segB 11 false prog_13_method_42_code 143 sg_120_143 = true := by decide +kernel
def sg_120_147 : List RI := [(.aload_n 0, 1, 0, 0, 0, 0), (.getfield 61, 3, 11, 20, 2, 0), (.iload 6, 2, 0, 0, 0, 0)]
theorem sk_120_147 : segB 11 false prog_13_method_42_code 147 sg_120_147 = true := by decide +kernel
def sg_120_157 : List RI := [(.aload_n 0, 1, 0, 0, 0, 0), (.getfield 52, 3, 11, 17, 2, 0), (.iload 6, 2, 0, 0, 0, 0)]
theorem sk_120_157 : segB 11 false prog_13_method_42_code 157 sg_120_157 = true := by decide +kernel
def sg_120_164 : List RI := [(.iconst 2, 1, 0, 0, 0, 2)]
theorem sk_120_164 : segB 11 false prog_13_method_42_code 164 sg_120_164 = true := by decide +kernel
def sg_120_168 : List RI := [(.iconst 0, 1, 0, 0, 0, 0), (.istore 8, 2, 0, 0, 0, 0)]
theorem sk_120_168 : segB 11 false prog_13_method_42_code 168 sg_120_168 = true := by decide +kernel
def sg_120_171 : List RI := [(.iload 8, 2, 0, 0, 0, 0), (.aload_n 0, 1, 0, 0, 0, 0), (.iload_n 1, 1, 0, 0, 0, 0), (.iload 5, 2, 0, 0, 0, 0)]
theorem sk_120_171 : segB 11 false prog_13_method_42_code 171 sg_120_171 = true := by decide +kernel
def sg_120_183 : List RI := [(.iload_n 3, 1, 0, 0, 0, 0)]
theorem sk_120_183 : segB 11 false prog_13_method_42_code 183 sg_120_183 = true := by decide +kernel
def sg_120_187 : List RI := [(.aload_n 0, 1, 0, 0, 0, 0), (.bipush 32, 2, 0, 0, 0, 32), (.aload_n 0, 1, 0, 0, 0, 0), (.getfield 55, 3, 11, 18, 2, 0), (.iload 6, 2, 0, 0, 0, 0)]
theorem sk_120_187 : segB 11 false prog_13_method_42_code 187 sg_120_187 = true := by decide +kernel
def sg_120_197 : List RI := [(.imul, 1, 0, 0, 0, 0), (.aload_n 0, 1, 0, 0, 0, 0), (.iload_n 1, 1, 0, 0, 0, 0), (.iload 5, 2, 0, 0, 0, 0), (.iload 8, 2, 0, 0, 0, 0)]
theorem sk_120_197 : segB 11 false prog_13_method_42_code 197 sg_120_197 = true := by decide +kernel
def sg_120_207 : List RI := [(.iadd, 1, 0, 0, 0, 0), (.iload 7, 2, 0, 0, 0, 0)]
theorem sk_120_207 : segB 11 false prog_13_method_42_code 207 sg_120_207 = true := by decide +kernel
def sg_120_213 : List RI := [(.istore_n 3, 1, 0, 0, 0, 0), (.iinc 8 1, 3, 0, 0, 0, 1)]
theorem sk_120_213 : segB 11 false prog_13_method_42_code 213 sg_120_213 = true := by decide +kernel
def sg_120_220 : List RI := [(.iinc 4 1, 3, 0, 0, 0, 1)]
theorem sk_120_220 : segB 11 false prog_13_method_42_code 220 sg_120_220 = true := by decide +kernel
def sg_120_226 : List RI := [(.iload_n 3, 1, 0, 0, 0, 0)]
theorem sk_120_226 : segB 11 false prog_13_method_42_code 226 sg_120_226 = true := by decide +kernel
theorem ca_120_5 : decode prog_13_method_42_code 5 = .ok (.iaload, 1) ∧ lnkB 11 false 5 (.iaload, 1, 0, 0, 0, 0) = true := by decide +kernel
theorem ck_120_7 : decode prog_13_method_42_code 7 = .ok (.if_icmp .ne 5, 3) ∧ lnkB 11 false 7 (.if_icmp .ne 5, 3, 12, 0, 0, 0) = true := by decide +kernel
theorem ck_120_11 : decode prog_13_method_42_code 11 = .ok (.ireturn, 1) ∧ lnkB 11 false 11 (.ireturn, 1, 0, 0, 0, 0) = true := by decide +kernel
theorem ca_120_24 : decode prog_13_method_42_code 24 = .ok (.iaload, 1) ∧ lnkB 11 false 24 (.iaload, 1, 0, 0, 0, 0) = true := by decide +kernel
theorem ck_120_25 : decode prog_13_method_42_code 25 = .ok (.if_icmp .ge 201, 3) ∧ lnkB 11 false 25 (.if_icmp .ge 201, 3, 226, 0, 0, 0) = true := by decide +kernel
theorem ck_120_29 : decode prog_13_method_42_code 29 = .ok (.ifCond .ne 197, 3) ∧ lnkB 11 false 29 (.ifCond .ne 197, 3, 226, 0, 0, 0) = true := by decide +kernel
theorem ca_120_43 : decode prog_13_method_42_code 43 = .ok (.iaload, 1) ∧ lnkB 11 false 43 (.iaload, 1, 0, 0, 0, 0) = true := by decide +kernel
theorem ca_120_68 : decode prog_13_method_42_code 68 = .ok (.iaload, 1) ∧ lnkB 11 false 68 (.iaload, 1, 0, 0, 0, 0) = true := by decide +kernel
theorem ca_120_77 : decode prog_13_method_42_code 77 = .ok (.baload, 1) ∧ lnkB 11 false 77 (.baload, 1, 15, 0, 0, 0) = true := by decide +kernel
theorem ck_120_78 : decode prog_13_method_42_code 78 = .ok (.ifCond .eq 69, 3) ∧ lnkB 11 false 78 (.ifCond .eq 69, 3, 147, 0, 0, 0) = true := by decide +kernel
theorem ca_120_87 : decode prog_13_method_42_code 87 = .ok (.iaload, 1) ∧ lnkB 11 false 87 (.iaload, 1, 0, 0, 0, 0) = true := by decide +kernel
theorem ck_120_89 : decode prog_13_method_42_code 89 = .ok (.if_icmp .ne 58, 3) ∧ lnkB 11 false 89 (.if_icmp .ne 58, 3, 147, 0, 0, 0) = true := by decide +kernel
theorem ca_120_102 : decode prog_13_method_42_code 102 = .ok (.iaload, 1) ∧ lnkB 11 false 102 (.iaload, 1, 0, 0, 0, 0) = true := by decide +kernel
theorem ck_120_104 : decode prog_13_method_42_code 104 = .ok (.if_icmp .eq 34, 3) ∧ lnkB 11 false 104 (.if_icmp .eq 34, 3, 138, 0, 0, 0) = true := by decide +kernel
theorem ca_120_116 : decode prog_13_method_42_code 116 = .ok (.iaload, 1) ∧ lnkB 11 false 116 (.iaload, 1, 0, 0, 0, 0) = true := by decide +kernel
theorem ca_120_128 : decode prog_13_method_42_code 128 = .ok (.iaload, 1) ∧ lnkB 11 false 128 (.iaload, 1, 0, 0, 0, 0) = true := by decide +kernel
theorem ck_120_132 : decode prog_13_method_42_code 132 = .ok (.invokevirtual 292, 3) ∧ lnkB 11 false 132 (.invokevirtual 292, 3, 120, 0, 0, 0) = true := by decide +kernel
theorem ck_120_135 : decode prog_13_method_42_code 135 = .ok (.ifCond .eq 7, 3) ∧ lnkB 11 false 135 (.ifCond .eq 7, 3, 142, 0, 0, 0) = true := by decide +kernel
theorem ck_120_139 : decode prog_13_method_42_code 139 = .ok (.goto 4, 3) ∧ lnkB 11 false 139 (.goto 4, 3, 143, 0, 0, 0) = true := by decide +kernel
theorem ck_120_144 : decode prog_13_method_42_code 144 = .ok (.goto 76, 3) ∧ lnkB 11 false 144 (.goto 76, 3, 220, 0, 0, 0) = true := by decide +kernel
theorem ca_120_153 : decode prog_13_method_42_code 153 = .ok (.baload, 1) ∧ lnkB 11 false 153 (.baload, 1, 15, 0, 0, 0) = true := by decide +kernel
theorem ck_120_154 : decode prog_13_method_42_code 154 = .ok (.ifCond .eq 66, 3) ∧ lnkB 11 false 154 (.ifCond .eq 66, 3, 220, 0, 0, 0) = true := by decide +kernel
theorem ca_120_163 : decode prog_13_method_42_code 163 = .ok (.iaload, 1) ∧ lnkB 11 false 163 (.iaload, 1, 0, 0, 0, 0) = true := by decide +kernel
theorem ck_120_165 : decode prog_13_method_42_code 165 = .ok (.if_icmp .ne 55, 3) ∧ lnkB 11 false 165 (.if_icmp .ne 55, 3, 220, 0, 0, 0) = true := by decide +kernel
theorem ck_120_177 : decode prog_13_method_42_code 177 = .ok (.invokevirtual 240, 3) ∧ lnkB 11 false 177 (.invokevirtual 240, 3, 106, 0, 0, 0) = true := by decide +kernel
theorem ck_120_180 : decode prog_13_method_42_code 180 = .ok (.if_icmp .ge 40, 3) ∧ lnkB 11 false 180 (.if_icmp .ge 40, 3, 220, 0, 0, 0) = true := by decide +kernel
theorem ck_120_184 : decode prog_13_method_42_code 184 = .ok (.ifCond .ne 36, 3) ∧ lnkB 11 false 184 (.ifCond .ne 36, 3, 220, 0, 0, 0) = true := by decide +kernel
theorem ca_120_196 : decode prog_13_method_42_code 196 = .ok (.iaload, 1) ∧ lnkB 11 false 196 (.iaload, 1, 0, 0, 0, 0) = true := by decide +kernel
theorem ck_120_204 : decode prog_13_method_42_code 204 = .ok (.invokevirtual 244, 3) ∧ lnkB 11 false 204 (.invokevirtual 244, 3, 107, 0, 0, 0) = true := by decide +kernel
theorem ck_120_210 : decode prog_13_method_42_code 210 = .ok (.invokevirtual 292, 3) ∧ lnkB 11 false 210 (.invokevirtual 292, 3, 120, 0, 0, 0) = true := by decide +kernel
theorem ck_120_217 : decode prog_13_method_42_code 217 = .ok (.goto (-46), 3) ∧ lnkB 11 false 217 (.goto (-46), 3, 171, 0, 0, 0) = true := by decide +kernel
theorem ck_120_223 : decode prog_13_method_42_code 223 = .ok (.goto (-206), 3) ∧ lnkB 11 false 223 (.goto (-206), 3, 17, 0, 0, 0) = true := by decide +kernel
theorem ck_120_227 : decode prog_13_method_42_code 227 = .ok (.ireturn, 1) ∧ lnkB 11 false 227 (.ireturn, 1, 0, 0, 0, 0) = true := by decide +kernel
abbrev RU_120 (d : Nat) (cp : Nat × Nat) (Post : Option Value → Sto → Prop) : PP := Runs (Ex d) prog_13_method_42_code 11 false 9 (some .boolean) none cp Post
theorem en_120 {d : Nat} {As : List Value} {S : Sto} {mc ms : Nat} {Post : Option Value → Sto → Prop} (hc : cats As ≤ 9) (h : RU_120 d (mc, ms) Post 0 (lv_args 0 As) [] S 0 0) : Ex (d + 1) 120 As S mc ms Post := ⟨by decide, hc, h⟩
def sg_121_0 : List RI := [(.aload_n 0, 1, 0, 0, 0, 0), (.getfield 151, 3, 11, 58, 0, 0)]
theorem sk_121_0 : segB 11 false prog_13_method_44_code 0 sg_121_0 = true := by decide +kernel
theorem ck_121_4 : decode prog_13_method_44_code 4 = .ok (.ireturn, 1) ∧ lnkB 11 false 4 (.ireturn, 1, 0, 0, 0, 0) = true := by decide +kernel
abbrev RU_121 (d : Nat) (cp : Nat × Nat) (Post : Option Value → Sto → Prop) : PP := Runs (Ex d) prog_13_method_44_code 11 false 1 (some .int) none cp Post
theorem en_121 {d : Nat} {As : List Value} {S : Sto} {mc ms : Nat} {Post : Option Value → Sto → Prop} (hc : cats As ≤ 1) (h : RU_121 d (mc, ms) Post 0 (lv_args 0 As) [] S 0 0) : Ex (d + 1) 121 As S mc ms Post := ⟨by decide, hc, h⟩
def sg_122_0 : List RI := [(.iload_n 1, 1, 0, 0, 0, 0), (.iconst 0, 1, 0, 0, 0, 0), (.aload_n 0, 1, 0, 0, 0, 0), (.getfield 279, 3, 11, 59, 0, 0), (.iconst 1, 1, 0, 0, 0, 1), (.isub, 1, 0, 0, 0, 0)]
theorem sk_122_0 : segB 11 false prog_13_method_45_code 0 sg_122_0 = true := by decide +kernel
def sg_122_14 : List RI := [(.aload_n 0, 1, 0, 0, 0, 0), (.getfield 156, 3, 11, 61, 2, 0), (.iload_n 1, 1, 0, 0, 0, 0)]
theorem sk_122_14 : segB 11 false prog_13_method_45_code 14 sg_122_14 = true := by decide +kernel
def sg_122_23 : List RI := [(.iconst (-1), 1, 0, 0, 0, -1)]
theorem sk_122_23 : segB 11 false prog_13_method_45_code 23 sg_122_23 = true := by decide +kernel
theorem ck_122_8 : decode prog_13_method_45_code 8 = .ok (.invokestatic 162, 3) ∧ lnkB 11 false 8 (.invokestatic 162, 3, 81, 0, 0, 0) = true := by decide +kernel
theorem ck_122_11 : decode prog_13_method_45_code 11 = .ok (.ifCond .eq 12, 3) ∧ lnkB 11 false 11 (.ifCond .eq 12, 3, 23, 0, 0, 0) = true := by decide +kernel
theorem ca_122_19 : decode prog_13_method_45_code 19 = .ok (.iaload, 1) ∧ lnkB 11 false 19 (.iaload, 1, 0, 0, 0, 0) = true := by decide +kernel
theorem ck_122_20 : decode prog_13_method_45_code 20 = .ok (.goto 4, 3) ∧ lnkB 11 false 20 (.goto 4, 3, 24, 0, 0, 0) = true := by decide +kernel
theorem ck_122_24 : decode prog_13_method_45_code 24 = .ok (.ireturn, 1) ∧ lnkB 11 false 24 (.ireturn, 1, 0, 0, 0, 0) = true := by decide +kernel
abbrev RU_122 (d : Nat) (cp : Nat × Nat) (Post : Option Value → Sto → Prop) : PP := Runs (Ex d) prog_13_method_45_code 11 false 2 (some .int) none cp Post
theorem en_122 {d : Nat} {As : List Value} {S : Sto} {mc ms : Nat} {Post : Option Value → Sto → Prop} (hc : cats As ≤ 2) (h : RU_122 d (mc, ms) Post 0 (lv_args 0 As) [] S 0 0) : Ex (d + 1) 122 As S mc ms Post := ⟨by decide, hc, h⟩
def sg_123_0 : List RI := [(.iload_n 1, 1, 0, 0, 0, 0), (.iconst 0, 1, 0, 0, 0, 0), (.aload_n 0, 1, 0, 0, 0, 0), (.getfield 254, 3, 11, 51, 0, 0), (.iconst 1, 1, 0, 0, 0, 1), (.isub, 1, 0, 0, 0, 0)]
theorem sk_123_0 : segB 11 false prog_13_method_46_code 0 sg_123_0 = true := by decide +kernel
def sg_123_14 : List RI := [(.iconst (-1), 1, 0, 0, 0, -1)]
theorem sk_123_14 : segB 11 false prog_13_method_46_code 14 sg_123_14 = true := by decide +kernel
def sg_123_16 : List RI := [(.iload_n 2, 1, 0, 0, 0, 0), (.bipush 10, 2, 0, 0, 0, 10), (.bipush 9, 2, 0, 0, 0, 9), (.aload_n 0, 1, 0, 0, 0, 0), (.getfield 142, 3, 11, 55, 2, 0), (.iload_n 1, 1, 0, 0, 0, 0)]
theorem sk_123_16 : segB 11 false prog_13_method_46_code 16 sg_123_16 = true := by decide +kernel
def sg_123_27 : List RI := [(.iadd, 1, 0, 0, 0, 0)]
theorem sk_123_27 : segB 11 false prog_13_method_46_code 27 sg_123_27 = true := by decide +kernel
def sg_123_34 : List RI := [(.aload_n 0, 1, 0, 0, 0, 0), (.getfield 148, 3, 11, 57, 2, 0), (.bipush 8, 2, 0, 0, 0, 8), (.iload_n 1, 1, 0, 0, 0, 0), (.imul, 1, 0, 0, 0, 0), (.iload_n 2, 1, 0, 0, 0, 0), (.iadd, 1, 0, 0, 0, 0), (.bipush 10, 2, 0, 0, 0, 10), (.isub, 1, 0, 0, 0, 0)]
theorem sk_123_34 : segB 11 false prog_13_method_46_code 34 sg_123_34 = true := by decide +kernel
def sg_123_49 : List RI := [(.iload_n 2, 1, 0, 0, 0, 0)]
theorem sk_123_49 : segB 11 false prog_13_method_46_code 49 sg_123_49 = true := by decide +kernel
def sg_123_84 : List RI := [(.aload_n 0, 1, 0, 0, 0, 0), (.getfield 133, 3, 11, 52, 2, 0), (.iload_n 1, 1, 0, 0, 0, 0)]
theorem sk_123_84 : segB 11 false prog_13_method_46_code 84 sg_123_84 = true := by decide +kernel
def sg_123_91 : List RI := [(.aload_n 0, 1, 0, 0, 0, 0), (.getfield 136, 3, 11, 53, 2, 0), (.iload_n 1, 1, 0, 0, 0, 0)]
theorem sk_123_91 : segB 11 false prog_13_method_46_code 91 sg_123_91 = true := by decide +kernel
def sg_123_98 : List RI := [(.aload_n 0, 1, 0, 0, 0, 0), (.getfield 139, 3, 11, 54, 2, 0), (.iload_n 1, 1, 0, 0, 0, 0)]
theorem sk_123_98 : segB 11 false prog_13_method_46_code 98 sg_123_98 = true := by decide +kernel
def sg_123_105 : List RI := [(.aload_n 0, 1, 0, 0, 0, 0), (.getfield 142, 3, 11, 55, 2, 0), (.iload_n 1, 1, 0, 0, 0, 0)]
theorem sk_123_105 : segB 11 false prog_13_method_46_code 105 sg_123_105 = true := by decide +kernel
def sg_123_112 : List RI := [(.aload_n 0, 1, 0, 0, 0, 0), (.getfield 145, 3, 11, 56, 2, 0), (.iload_n 1, 1, 0, 0, 0, 0)]
theorem sk_123_112 : segB 11 false prog_13_method_46_code 112 sg_123_112 = true := by decide +kernel
def sg_123_119 : List RI := [(.iconst (-1), 1, 0, 0, 0, -1)]
theorem sk_123_119 : segB 11 false prog_13_method_46_code 119 sg_123_119 = true := by decide +kernel
theorem ck_123_8 : decode prog_13_method_46_code 8 = .ok (.invokestatic 162, 3) ∧ lnkB 11 false 8 (.invokestatic 162, 3, 81, 0, 0, 0) = true := by decide +kernel
theorem ck_123_11 : decode prog_13_method_46_code 11 = .ok (.ifCond .ne 5, 3) ∧ lnkB 11 false 11 (.ifCond .ne 5, 3, 16, 0, 0, 0) = true := by decide +kernel
theorem ck_123_15 : decode prog_13_method_46_code 15 = .ok (.ireturn, 1) ∧ lnkB 11 false 15 (.ireturn, 1, 0, 0, 0, 0) = true := by decide +kernel
theorem ca_123_26 : decode prog_13_method_46_code 26 = .ok (.iaload, 1) ∧ lnkB 11 false 26 (.iaload, 1, 0, 0, 0, 0) = true := by decide +kernel
theorem ck_123_28 : decode prog_13_method_46_code 28 = .ok (.invokestatic 162, 3) ∧ lnkB 11 false 28 (.invokestatic 162, 3, 81, 0, 0, 0) = true := by decide +kernel
theorem ck_123_31 : decode prog_13_method_46_code 31 = .ok (.ifCond .eq 18, 3) ∧ lnkB 11 false 31 (.ifCond .eq 18, 3, 49, 0, 0, 0) = true := by decide +kernel
theorem ca_123_47 : decode prog_13_method_46_code 47 = .ok (.iaload, 1) ∧ lnkB 11 false 47 (.iaload, 1, 0, 0, 0, 0) = true := by decide +kernel
theorem ck_123_48 : decode prog_13_method_46_code 48 = .ok (.ireturn, 1) ∧ lnkB 11 false 48 (.ireturn, 1, 0, 0, 0, 0) = true := by decide +kernel
theorem ck_123_50 : decode prog_13_method_46_code 50 = .ok (.tableswitch 69 0 4 #[34, 41, 48, 55, 62], 34) ∧ lnkB 11 false 50 (.tableswitch 69 0 4 #[34, 41, 48, 55, 62], 34, 0, 0, 0, 0) = true := by decide +kernel
theorem ca_123_89 : decode prog_13_method_46_code 89 = .ok (.iaload, 1) ∧ lnkB 11 false 89 (.iaload, 1, 0, 0, 0, 0) = true := by decide +kernel
theorem ck_123_90 : decode prog_13_method_46_code 90 = .ok (.ireturn, 1) ∧ lnkB 11 false 90 (.ireturn, 1, 0, 0, 0, 0) = true := by decide +kernel
theorem ca_123_96 : decode prog_13_method_46_code 96 = .ok (.iaload, 1) ∧ lnkB 11 false 96 (.iaload, 1, 0, 0, 0, 0) = true := by decide +kernel
theorem ck_123_97 : decode prog_13_method_46_code 97 = .ok (.ireturn, 1) ∧ lnkB 11 false 97 (.ireturn, 1, 0, 0, 0, 0) = true := by decide +kernel
theorem ca_123_103 : decode prog_13_method_46_code 103 = .ok (.iaload, 1) ∧ lnkB 11 false 103 (.iaload, 1, 0, 0, 0, 0) = true := by decide +kernel
theorem ck_123_104 : decode prog_13_method_46_code 104 = .ok (.ireturn, 1) ∧ lnkB 11 false 104 (.ireturn, 1, 0, 0, 0, 0) = true := by decide +kernel
theorem ca_123_110 : decode prog_13_method_46_code 110 = .ok (.iaload, 1) ∧ lnkB 11 false 110 (.iaload, 1, 0, 0, 0, 0) = true := by decide +kernel
theorem ck_123_111 : decode prog_13_method_46_code 111 = .ok (.ireturn, 1) ∧ lnkB 11 false 111 (.ireturn, 1, 0, 0, 0, 0) = true := by decide +kernel
theorem ca_123_117 : decode prog_13_method_46_code 117 = .ok (.iaload, 1) ∧ lnkB 11 false 117 (.iaload, 1, 0, 0, 0, 0) = true := by decide +kernel
theorem ck_123_118 : decode prog_13_method_46_code 118 = .ok (.ireturn, 1) ∧ lnkB 11 false 118 (.ireturn, 1, 0, 0, 0, 0) = true := by decide +kernel
theorem ck_123_120 : decode prog_13_method_46_code 120 = .ok (.ireturn, 1) ∧ lnkB 11 false 120 (.ireturn, 1, 0, 0, 0, 0) = true := by decide +kernel
abbrev RU_123 (d : Nat) (cp : Nat × Nat) (Post : Option Value → Sto → Prop) : PP := Runs (Ex d) prog_13_method_46_code 11 false 3 (some .int) none cp Post
theorem en_123 {d : Nat} {As : List Value} {S : Sto} {mc ms : Nat} {Post : Option Value → Sto → Prop} (hc : cats As ≤ 3) (h : RU_123 d (mc, ms) Post 0 (lv_args 0 As) [] S 0 0) : Ex (d + 1) 123 As S mc ms Post := ⟨by decide, hc, h⟩
def sg_124_0 : List RI := [(.iload_n 1, 1, 0, 0, 0, 0), (.iconst 0, 1, 0, 0, 0, 0), (.iconst 4, 1, 0, 0, 0, 4)]
theorem sk_124_0 : segB 11 false prog_13_method_47_code 0 sg_124_0 = true := by decide +kernel
def sg_124_9 : List RI := [(.iconst (-1), 1, 0, 0, 0, -1)]
theorem sk_124_9 : segB 11 false prog_13_method_47_code 9 sg_124_9 = true := by decide +kernel
def sg_124_11 : List RI := [(.iload_n 2, 1, 0, 0, 0, 0)]
theorem sk_124_11 : segB 11 false prog_13_method_47_code 11 sg_124_11 = true := by decide +kernel
def sg_124_40 : List RI := [(.aload_n 0, 1, 0, 0, 0, 0), (.getfield 28, 3, 11, 8, 2, 0), (.iload_n 1, 1, 0, 0, 0, 0)]
theorem sk_124_40 : segB 11 false prog_13_method_47_code 40 sg_124_40 = true := by decide +kernel
def sg_124_46 : List RI := [(.iconst (-1), 1, 0, 0, 0, -1)]
theorem sk_124_46 : segB 11 false prog_13_method_47_code 46 sg_124_46 = true := by decide +kernel
def sg_124_50 : List RI := [(.iconst 0, 1, 0, 0, 0, 0)]
theorem sk_124_50 : segB 11 false prog_13_method_47_code 50 sg_124_50 = true := by decide +kernel
def sg_124_54 : List RI := [(.aload_n 0, 1, 0, 0, 0, 0), (.getfield 176, 3, 11, 1, 0, 0), (.aload_n 0, 1, 0, 0, 0, 0), (.getfield 28, 3, 11, 8, 2, 0), (.iload_n 1, 1, 0, 0, 0, 0)]
theorem sk_124_54 : segB 11 false prog_13_method_47_code 54 sg_124_54 = true := by decide +kernel
def sg_124_67 : List RI := [(.iconst 1, 1, 0, 0, 0, 1)]
theorem sk_124_67 : segB 11 false prog_13_method_47_code 67 sg_124_67 = true := by decide +kernel
def sg_124_71 : List RI := [(.iconst 2, 1, 0, 0, 0, 2)]
theorem sk_124_71 : segB 11 false prog_13_method_47_code 71 sg_124_71 = true := by decide +kernel
def sg_124_73 : List RI := [(.aload_n 0, 1, 0, 0, 0, 0), (.getfield 25, 3, 11, 7, 2, 0), (.iload_n 1, 1, 0, 0, 0, 0)]
theorem sk_124_73 : segB 11 false prog_13_method_47_code 73 sg_124_73 = true := by decide +kernel
def sg_124_80 : List RI := [(.aload_n 0, 1, 0, 0, 0, 0), (.getfield 28, 3, 11, 8, 2, 0), (.iload_n 1, 1, 0, 0, 0, 0)]
theorem sk_124_80 : segB 11 false prog_13_method_47_code 80 sg_124_80 = true := by decide +kernel
def sg_124_87 : List RI := [(.iconst (-1), 1, 0, 0, 0, -1)]
theorem sk_124_87 : segB 11 false prog_13_method_47_code 87 sg_124_87 = true := by decide +kernel
theorem ck_124_3 : decode prog_13_method_47_code 3 = .ok (.invokestatic 162, 3) ∧ lnkB 11 false 3 (.invokestatic 162, 3, 81, 0, 0, 0) = true := by decide +kernel
theorem ck_124_6 : decode prog_13_method_47_code 6 = .ok (.ifCond .ne 5, 3) ∧ lnkB 11 false 6 (.ifCond .ne 5, 3, 11, 0, 0, 0) = true := by decide +kernel
theorem ck_124_10 : decode prog_13_method_47_code 10 = .ok (.ireturn, 1) ∧ lnkB 11 false 10 (.ireturn, 1, 0, 0, 0, 0) = true := by decide +kernel
theorem ck_124_12 : decode prog_13_method_47_code 12 = .ok (.tableswitch 75 0 2 #[28, 61, 68], 28) ∧ lnkB 11 false 12 (.tableswitch 75 0 2 #[28, 61, 68], 28, 0, 0, 0, 0) = true := by decide +kernel
theorem ca_124_45 : decode prog_13_method_47_code 45 = .ok (.iaload, 1) ∧ lnkB 11 false 45 (.iaload, 1, 0, 0, 0, 0) = true := by decide +kernel
theorem ck_124_47 : decode prog_13_method_47_code 47 = .ok (.if_icmp .ne 7, 3) ∧ lnkB 11 false 47 (.if_icmp .ne 7, 3, 54, 0, 0, 0) = true := by decide +kernel
theorem ck_124_51 : decode prog_13_method_47_code 51 = .ok (.goto 21, 3) ∧ lnkB 11 false 51 (.goto 21, 3, 72, 0, 0, 0) = true := by decide +kernel
theorem ca_124_63 : decode prog_13_method_47_code 63 = .ok (.iaload, 1) ∧ lnkB 11 false 63 (.iaload, 1, 0, 0, 0, 0) = true := by decide +kernel
theorem ck_124_64 : decode prog_13_method_47_code 64 = .ok (.if_icmp .ge 7, 3) ∧ lnkB 11 false 64 (.if_icmp .ge 7, 3, 71, 0, 0, 0) = true := by decide +kernel
theorem ck_124_68 : decode prog_13_method_47_code 68 = .ok (.goto 4, 3) ∧ lnkB 11 false 68 (.goto 4, 3, 72, 0, 0, 0) = true := by decide +kernel
theorem ck_124_72 : decode prog_13_method_47_code 72 = .ok (.ireturn, 1) ∧ lnkB 11 false 72 (.ireturn, 1, 0, 0, 0, 0) = true := by decide +kernel
theorem ca_124_78 : decode prog_13_method_47_code 78 = .ok (.iaload, 1) ∧ lnkB 11 false 78 (.iaload, 1, 0, 0, 0, 0) = true := by decide +kernel
theorem ck_124_79 : decode prog_13_method_47_code 79 = .ok (.ireturn, 1) ∧ lnkB 11 false 79 (.ireturn, 1, 0, 0, 0, 0) = true := by decide +kernel
theorem ca_124_85 : decode prog_13_method_47_code 85 = .ok (.iaload, 1) ∧ lnkB 11 false 85 (.iaload, 1, 0, 0, 0, 0) = true := by decide +kernel
theorem ck_124_86 : decode prog_13_method_47_code 86 = .ok (.ireturn, 1) ∧ lnkB 11 false 86 (.ireturn, 1, 0, 0, 0, 0) = true := by decide +kernel
theorem ck_124_88 : decode prog_13_method_47_code 88 = .ok (.ireturn, 1) ∧ lnkB 11 false 88 (.ireturn, 1, 0, 0, 0, 0) = true := by decide +kernel
abbrev RU_124 (d : Nat) (cp : Nat × Nat) (Post : Option Value → Sto → Prop) : PP := Runs (Ex d) prog_13_method_47_code 11 false 3 (some .int) none cp Post
theorem en_124 {d : Nat} {As : List Value} {S : Sto} {mc ms : Nat} {Post : Option Value → Sto → Prop} (hc : cats As ≤ 3) (h : RU_124 d (mc, ms) Post 0 (lv_args 0 As) [] S 0 0) : Ex (d + 1) 124 As S mc ms Post := ⟨by decide, hc, h⟩
def sg_125_0 : List RI := [(.iload_n 1, 1, 0, 0, 0, 0), (.iload_n 2, 1, 0, 0, 0, 0)]
theorem sk_125_0 : segB 11 false prog_13_method_48_code 0 sg_125_0 = true := by decide +kernel
def sg_125_8 : List RI := [(.aload_n 0, 1, 0, 0, 0, 0), (.getfield 80, 3, 11, 26, 2, 0), (.bipush 32, 2, 0, 0, 0, 32), (.iload_n 1, 1, 0, 0, 0, 0), (.imul, 1, 0, 0, 0, 0), (.iload_n 2, 1, 0, 0, 0, 0), (.iadd, 1, 0, 0, 0, 0)]
theorem sk_125_8 : segB 11 false prog_13_method_48_code 8 sg_125_8 = true := by decide +kernel
def sg_125_19 : List RI := [(.aload_n 0, 1, 0, 0, 0, 0), (.getfield 176, 3, 11, 1, 0, 0)]
theorem sk_125_19 : segB 11 false prog_13_method_48_code 19 sg_125_19 = true := by decide +kernel
def sg_125_26 : List RI := [(.aload_n 0, 1, 0, 0, 0, 0), (.getfield 80, 3, 11, 26, 2, 0), (.bipush 32, 2, 0, 0, 0, 32), (.iload_n 1, 1, 0, 0, 0, 0), (.imul, 1, 0, 0, 0, 0), (.iload_n 2, 1, 0, 0, 0, 0), (.iadd, 1, 0, 0, 0, 0)]
theorem sk_125_26 : segB 11 false prog_13_method_48_code 26 sg_125_26 = true := by decide +kernel
def sg_125_40 : List RI := [(.iconst (-1), 1, 0, 0, 0, -1)]
theorem sk_125_40 : segB 11 false prog_13_method_48_code 40 sg_125_40 = true := by decide +kernel
theorem ck_125_2 : decode prog_13_method_48_code 2 = .ok (.invokestatic 170, 3) ∧ lnkB 11 false 2 (.invokestatic 170, 3, 86, 0, 0, 0) = true := by decide +kernel
theorem ck_125_5 : decode prog_13_method_48_code 5 = .ok (.ifCond .eq 35, 3) ∧ lnkB 11 false 5 (.ifCond .eq 35, 3, 40, 0, 0, 0) = true := by decide +kernel
theorem ca_125_18 : decode prog_13_method_48_code 18 = .ok (.iaload, 1) ∧ lnkB 11 false 18 (.iaload, 1, 0, 0, 0, 0) = true := by decide +kernel
theorem ck_125_23 : decode prog_13_method_48_code 23 = .ok (.if_icmp .le 17, 3) ∧ lnkB 11 false 23 (.if_icmp .le 17, 3, 40, 0, 0, 0) = true := by decide +kernel
theorem ca_125_36 : decode prog_13_method_48_code 36 = .ok (.iaload, 1) ∧ lnkB 11 false 36 (.iaload, 1, 0, 0, 0, 0) = true := by decide +kernel
theorem ck_125_37 : decode prog_13_method_48_code 37 = .ok (.goto 4, 3) ∧ lnkB 11 false 37 (.goto 4, 3, 41, 0, 0, 0) = true := by decide +kernel
theorem ck_125_41 : decode prog_13_method_48_code 41 = .ok (.ireturn, 1) ∧ lnkB 11 false 41 (.ireturn, 1, 0, 0, 0, 0) = true := by decide +kernel
abbrev RU_125 (d : Nat) (cp : Nat × Nat) (Post : Option Value → Sto → Prop) : PP := Runs (Ex d) prog_13_method_48_code 11 false 3 (some .int) none cp Post
theorem en_125 {d : Nat} {As : List Value} {S : Sto} {mc ms : Nat} {Post : Option Value → Sto → Prop} (hc : cats As ≤ 3) (h : RU_125 d (mc, ms) Post 0 (lv_args 0 As) [] S 0 0) : Ex (d + 1) 125 As S mc ms Post := ⟨by decide, hc, h⟩
def sg_126_0 : List RI := [(.iconst 0, 1, 0, 0, 0, 0), (.istore_n 2, 1, 0, 0, 0, 0), (.iload_n 1, 1, 0, 0, 0, 0), (.bipush 10, 2, 0, 0, 0, 10), (.bipush 13, 2, 0, 0, 0, 13)]
theorem sk_126_0 : segB 11 false prog_13_method_49_code 0 sg_126_0 = true := by decide +kernel
def sg_126_13 : List RI := [(.aload_n 0, 1, 0, 0, 0, 0), (.getfield 92, 3, 11, 30, 2, 0), (.iload_n 1, 1, 0, 0, 0, 0), (.bipush 10, 2, 0, 0, 0, 10), (.isub, 1, 0, 0, 0, 0)]
theorem sk_126_13 : segB 11 false prog_13_method_49_code 13 sg_126_13 = true := by decide +kernel
def sg_126_23 : List RI := [(.iload_n 1, 1, 0, 0, 0, 0)]
theorem sk_126_23 : segB 11 false prog_13_method_49_code 23 sg_126_23 = true := by decide +kernel
def sg_126_68 : List RI := [(.aload_n 0, 1, 0, 0, 0, 0), (.getfield 176, 3, 11, 1, 0, 0)]
theorem sk_126_68 : segB 11 false prog_13_method_49_code 68 sg_126_68 = true := by decide +kernel
def sg_126_73 : List RI := [(.aload_n 0, 1, 0, 0, 0, 0), (.getfield 183, 3, 11, 32, 0, 0)]
theorem sk_126_73 : segB 11 false prog_13_method_49_code 73 sg_126_73 = true := by decide +kernel
def sg_126_78 : List RI := [(.aload_n 0, 1, 0, 0, 0, 0), (.getfield 254, 3, 11, 51, 0, 0)]
theorem sk_126_78 : segB 11 false prog_13_method_49_code 78 sg_126_78 = true := by decide +kernel
def sg_126_83 : List RI := [(.aload_n 0, 1, 0, 0, 0, 0), (.getfield 279, 3, 11, 59, 0, 0)]
theorem sk_126_83 : segB 11 false prog_13_method_49_code 83 sg_126_83 = true := by decide +kernel
def sg_126_88 : List RI := [(.aload_n 0, 1, 0, 0, 0, 0), (.getfield 232, 3, 11, 50, 0, 0)]
theorem sk_126_88 : segB 11 false prog_13_method_49_code 88 sg_126_88 = true := by decide +kernel
def sg_126_93 : List RI := [(.iconst 0, 1, 0, 0, 0, 0), (.istore_n 3, 1, 0, 0, 0, 0)]
theorem sk_126_93 : segB 11 false prog_13_method_49_code 93 sg_126_93 = true := by decide +kernel
def sg_126_95 : List RI := [(.iload_n 3, 1, 0, 0, 0, 0), (.sipush 192, 3, 0, 0, 0, 192)]
theorem sk_126_95 : segB 11 false prog_13_method_49_code 95 sg_126_95 = true := by decide +kernel
def sg_126_102 : List RI := [(.iload_n 2, 1, 0, 0, 0, 0), (.aload_n 0, 1, 0, 0, 0, 0), (.getfield 121, 3, 11, 44, 2, 0), (.iload_n 3, 1, 0, 0, 0, 0)]
theorem sk_126_102 : segB 11 false prog_13_method_49_code 102 sg_126_102 = true := by decide +kernel
def sg_126_109 : List RI := [(.iconst 4, 1, 0, 0, 0, 4)]
theorem sk_126_109 : segB 11 false prog_13_method_49_code 109 sg_126_109 = true := by decide +kernel
def sg_126_113 : List RI := [(.iconst 1, 1, 0, 0, 0, 1)]
theorem sk_126_113 : segB 11 false prog_13_method_49_code 113 sg_126_113 = true := by decide +kernel
def sg_126_117 : List RI := [(.iconst 0, 1, 0, 0, 0, 0)]
theorem sk_126_117 : segB 11 false prog_13_method_49_code 117 sg_126_117 = true := by decide +kernel
def sg_126_118 : List RI := [(.iadd, 1, 0, 0, 0, 0), (.istore_n 2, 1, 0, 0, 0, 0), (.iinc 3 1, 3, 0, 0, 0, 1)]
theorem sk_126_118 : segB 11 false prog_13_method_49_code 118 sg_126_118 = true := by decide +kernel
def sg_126_126 : List RI := [(.iload_n 2, 1, 0, 0, 0, 0)]
theorem sk_126_126 : segB 11 false prog_13_method_49_code 126 sg_126_126 = true := by decide +kernel
def sg_126_128 : List RI := [(.aload_n 0, 1, 0, 0, 0, 0), (.getfield 166, 3, 11, 10, 0, 0)]
theorem sk_126_128 : segB 11 false prog_13_method_49_code 128 sg_126_128 = true := by decide +kernel
def sg_126_133 : List RI := [(.iconst (-1), 1, 0, 0, 0, -1)]
theorem sk_126_133 : segB 11 false prog_13_method_49_code 133 sg_126_133 = true := by decide +kernel
theorem ck_126_7 : decode prog_13_method_49_code 7 = .ok (.invokestatic 162, 3) ∧ lnkB 11 false 7 (.invokestatic 162, 3, 81, 0, 0, 0) = true := by decide +kernel
theorem ck_126_10 : decode prog_13_method_49_code 10 = .ok (.ifCond .eq 13, 3) ∧ lnkB 11 false 10 (.ifCond .eq 13, 3, 23, 0, 0, 0) = true := by decide +kernel
theorem ca_126_21 : decode prog_13_method_49_code 21 = .ok (.iaload, 1) ∧ lnkB 11 false 21 (.iaload, 1, 0, 0, 0, 0) = true := by decide +kernel
theorem ck_126_22 : decode prog_13_method_49_code 22 = .ok (.ireturn, 1) ∧ lnkB 11 false 22 (.ireturn, 1, 0, 0, 0, 0) = true := by decide +kernel
theorem ck_126_24 : decode prog_13_method_49_code 24 = .ok (.tableswitch 109 0 6 #[44, 49, 54, 59, 64, 69, 104], 44) ∧ lnkB 11 false 24 (.tableswitch 109 0 6 #[44, 49, 54, 59, 64, 69, 104], 44, 0, 0, 0, 0) = true := by decide +kernel
theorem ck_126_72 : decode prog_13_method_49_code 72 = .ok (.ireturn, 1) ∧ lnkB 11 false 72 (.ireturn, 1, 0, 0, 0, 0) = true := by decide +kernel
theorem ck_126_77 : decode prog_13_method_49_code 77 = .ok (.ireturn, 1) ∧ lnkB 11 false 77 (.ireturn, 1, 0, 0, 0, 0) = true := by decide +kernel
theorem ck_126_82 : decode prog_13_method_49_code 82 = .ok (.ireturn, 1) ∧ lnkB 11 false 82 (.ireturn, 1, 0, 0, 0, 0) = true := by decide +kernel
theorem ck_126_87 : decode prog_13_method_49_code 87 = .ok (.ireturn, 1) ∧ lnkB 11 false 87 (.ireturn, 1, 0, 0, 0, 0) = true := by decide +kernel
theorem ck_126_92 : decode prog_13_method_49_code 92 = .ok (.ireturn, 1) ∧ lnkB 11 false 92 (.ireturn, 1, 0, 0, 0, 0) = true := by decide +kernel
theorem ck_126_99 : decode prog_13_method_49_code 99 = .ok (.if_icmp .ge 27, 3) ∧ lnkB 11 false 99 (.if_icmp .ge 27, 3, 126, 0, 0, 0) = true := by decide +kernel
theorem ca_126_108 : decode prog_13_method_49_code 108 = .ok (.iaload, 1) ∧ lnkB 11 false 108 (.iaload, 1, 0, 0, 0, 0) = true := by decide +kernel
theorem ck_126_110 : decode prog_13_method_49_code 110 = .ok (.if_icmp .ne 7, 3) ∧ lnkB 11 false 110 (.if_icmp .ne 7, 3, 117, 0, 0, 0) = true := by decide +kernel
theorem ck_126_114 : decode prog_13_method_49_code 114 = .ok (.goto 4, 3) ∧ lnkB 11 false 114 (.goto 4, 3, 118, 0, 0, 0) = true := by decide +kernel
theorem ck_126_123 : decode prog_13_method_49_code 123 = .ok (.goto (-28), 3) ∧ lnkB 11 false 123 (.goto (-28), 3, 95, 0, 0, 0) = true := by decide +kernel
theorem ck_126_127 : decode prog_13_method_49_code 127 = .ok (.ireturn, 1) ∧ lnkB 11 false 127 (.ireturn, 1, 0, 0, 0, 0) = true := by decide +kernel
theorem ck_126_132 : decode prog_13_method_49_code 132 = .ok (.ireturn, 1) ∧ lnkB 11 false 132 (.ireturn, 1, 0, 0, 0, 0) = true := by decide +kernel
theorem ck_126_134 : decode prog_13_method_49_code 134 = .ok (.ireturn, 1) ∧ lnkB 11 false 134 (.ireturn, 1, 0, 0, 0, 0) = true := by decide +kernel
abbrev RU_126 (d : Nat) (cp : Nat × Nat) (Post : Option Value → Sto → Prop) : PP := Runs (Ex d) prog_13_method_49_code 11 false 4 (some .int) none cp Post
theorem en_126 {d : Nat} {As : List Value} {S : Sto} {mc ms : Nat} {Post : Option Value → Sto → Prop} (hc : cats As ≤ 4) (h : RU_126 d (mc, ms) Post 0 (lv_args 0 As) [] S 0 0) : Ex (d + 1) 126 As S mc ms Post := ⟨by decide, hc, h⟩
end
section
/-! ===== the code: segments, control instructions, entries of methods 127 to 130 ===== -/
def sg_127_0 : List RI := [(.new 7, 3, 10, 0, 0, 0), (.dup, 1, 0, 0, 0, 0)]
theorem sk_127_0 : segB 12 false code 0 sg_127_0 = true := by decide +kernel
def sg_127_7 : List RI := [(.astore_n 1, 1, 0, 0, 0, 0), (.new 10, 3, 11, 0, 0, 0), (.dup, 1, 0, 0, 0, 0)]
theorem sk_127_7 : segB 12 false code 7 sg_127_7 = true := by decide +kernel
def sg_127_15 : List RI := [(.astore_n 2, 1, 0, 0, 0, 0), (.iconst 0, 1, 0, 0, 0, 0), (.istore_n 3, 1, 0, 0, 0, 0)]
theorem sk_127_15 : segB 12 false code 15 sg_127_15 = true := by decide +kernel
def sg_127_18 : List RI := [(.iload_n 3, 1, 0, 0, 0, 0), (.aload_n 0, 1, 0, 0, 0, 0), (.arraylength, 1, 1, 0, 0, 0), (.bipush 7, 2, 0, 0, 0, 7), (.isub, 1, 0, 0, 0, 0)]
theorem sk_127_18 : segB 12 false code 18 sg_127_18 = true := by decide +kernel
def sg_127_27 : List RI := [(.aload_n 0, 1, 0, 0, 0, 0), (.iload_n 3, 1, 0, 0, 0, 0)]
theorem sk_127_27 : segB 12 false code 27 sg_127_27 = true := by decide +kernel
def sg_127_30 : List RI := [(.bipush 31, 2, 0, 0, 0, 31), (.iand, 1, 0, 0, 0, 0)]
theorem sk_127_30 : segB 12 false code 30 sg_127_30 = true := by decide +kernel
def sg_127_128 : List RI := [(.aload_n 1, 1, 0, 0, 0, 0), (.aload_n 0, 1, 0, 0, 0, 0), (.iload_n 3, 1, 0, 0, 0, 0), (.iconst 1, 1, 0, 0, 0, 1), (.iadd, 1, 0, 0, 0, 0)]
theorem sk_127_128 : segB 12 false code 128 sg_127_128 = true := by decide +kernel
def sg_127_134 : List RI := [(.aload_n 0, 1, 0, 0, 0, 0), (.iload_n 3, 1, 0, 0, 0, 0), (.iconst 2, 1, 0, 0, 0, 2), (.iadd, 1, 0, 0, 0, 0)]
theorem sk_127_134 : segB 12 false code 134 sg_127_134 = true := by decide +kernel
def sg_127_139 : List RI := [(.aload_n 0, 1, 0, 0, 0, 0), (.iload_n 3, 1, 0, 0, 0, 0), (.iconst 3, 1, 0, 0, 0, 3), (.iadd, 1, 0, 0, 0, 0)]
theorem sk_127_139 : segB 12 false code 139 sg_127_139 = true := by decide +kernel
def sg_127_144 : List RI := [(.aload_n 0, 1, 0, 0, 0, 0), (.iload_n 3, 1, 0, 0, 0, 0), (.iconst 4, 1, 0, 0, 0, 4), (.iadd, 1, 0, 0, 0, 0)]
theorem sk_127_144 : segB 12 false code 144 sg_127_144 = true := by decide +kernel
def sg_127_149 : List RI := [(.aload_n 0, 1, 0, 0, 0, 0), (.iload_n 3, 1, 0, 0, 0, 0), (.iconst 5, 1, 0, 0, 0, 5), (.iadd, 1, 0, 0, 0, 0)]
theorem sk_127_149 : segB 12 false code 149 sg_127_149 = true := by decide +kernel
def sg_127_154 : List RI := [(.aload_n 0, 1, 0, 0, 0, 0), (.iload_n 3, 1, 0, 0, 0, 0), (.bipush 6, 2, 0, 0, 0, 6), (.iadd, 1, 0, 0, 0, 0)]
theorem sk_127_154 : segB 12 false code 154 sg_127_154 = true := by decide +kernel
def sg_127_163 : List RI := [(.aload_n 2, 1, 0, 0, 0, 0), (.aload_n 0, 1, 0, 0, 0, 0), (.iload_n 3, 1, 0, 0, 0, 0), (.iconst 1, 1, 0, 0, 0, 1), (.iadd, 1, 0, 0, 0, 0)]
theorem sk_127_163 : segB 12 false code 163 sg_127_163 = true := by decide +kernel
def sg_127_169 : List RI := [(.aload_n 0, 1, 0, 0, 0, 0), (.iload_n 3, 1, 0, 0, 0, 0), (.iconst 2, 1, 0, 0, 0, 2), (.iadd, 1, 0, 0, 0, 0)]
theorem sk_127_169 : segB 12 false code 169 sg_127_169 = true := by decide +kernel
def sg_127_174 : List RI := [(.aload_n 0, 1, 0, 0, 0, 0), (.iload_n 3, 1, 0, 0, 0, 0), (.iconst 3, 1, 0, 0, 0, 3), (.iadd, 1, 0, 0, 0, 0)]
theorem sk_127_174 : segB 12 false code 174 sg_127_174 = true := by decide +kernel
def sg_127_179 : List RI := [(.aload_n 0, 1, 0, 0, 0, 0), (.iload_n 3, 1, 0, 0, 0, 0), (.iconst 4, 1, 0, 0, 0, 4), (.iadd, 1, 0, 0, 0, 0)]
theorem sk_127_179 : segB 12 false code 179 sg_127_179 = true := by decide +kernel
def sg_127_184 : List RI := [(.aload_n 0, 1, 0, 0, 0, 0), (.iload_n 3, 1, 0, 0, 0, 0), (.iconst 5, 1, 0, 0, 0, 5), (.iadd, 1, 0, 0, 0, 0)]
theorem sk_127_184 : segB 12 false code 184 sg_127_184 = true := by decide +kernel
def sg_127_189 : List RI := [(.aload_n 0, 1, 0, 0, 0, 0), (.iload_n 3, 1, 0, 0, 0, 0), (.bipush 6, 2, 0, 0, 0, 6), (.iadd, 1, 0, 0, 0, 0)]
theorem sk_127_189 : segB 12 false code 189 sg_127_189 = true := by decide +kernel
def sg_127_201 : List RI := [(.iconst 0, 1, 0, 0, 0, 0)]
theorem sk_127_201 : segB 12 false code 201 sg_127_201 = true := by decide +kernel
def sg_127_203 : List RI := [(.aload_n 1, 1, 0, 0, 0, 0), (.aload_n 0, 1, 0, 0, 0, 0), (.iload_n 3, 1, 0, 0, 0, 0), (.iconst 1, 1, 0, 0, 0, 1), (.iadd, 1, 0, 0, 0, 0)]
theorem sk_127_203 : segB 12 false code 203 sg_127_203 = true := by decide +kernel
def sg_127_209 : List RI := [(.aload_n 0, 1, 0, 0, 0, 0), (.iload_n 3, 1, 0, 0, 0, 0), (.iconst 2, 1, 0, 0, 0, 2), (.iadd, 1, 0, 0, 0, 0)]
theorem sk_127_209 : segB 12 false code 209 sg_127_209 = true := by decide +kernel
def sg_127_214 : List RI := [(.aload_n 0, 1, 0, 0, 0, 0), (.iload_n 3, 1, 0, 0, 0, 0), (.iconst 3, 1, 0, 0, 0, 3), (.iadd, 1, 0, 0, 0, 0)]
theorem sk_127_214 : segB 12 false code 214 sg_127_214 = true := by decide +kernel
def sg_127_222 : List RI := [(.aload_n 2, 1, 0, 0, 0, 0), (.aload_n 0, 1, 0, 0, 0, 0), (.iload_n 3, 1, 0, 0, 0, 0), (.iconst 1, 1, 0, 0, 0, 1), (.iadd, 1, 0, 0, 0, 0)]
theorem sk_127_222 : segB 12 false code 222 sg_127_222 = true := by decide +kernel
def sg_127_228 : List RI := [(.aload_n 0, 1, 0, 0, 0, 0), (.iload_n 3, 1, 0, 0, 0, 0), (.iconst 2, 1, 0, 0, 0, 2), (.iadd, 1, 0, 0, 0, 0)]
theorem sk_127_228 : segB 12 false code 228 sg_127_228 = true := by decide +kernel
def sg_127_233 : List RI := [(.aload_n 0, 1, 0, 0, 0, 0), (.iload_n 3, 1, 0, 0, 0, 0), (.iconst 3, 1, 0, 0, 0, 3), (.iadd, 1, 0, 0, 0, 0)]
theorem sk_127_233 : segB 12 false code 233 sg_127_233 = true := by decide +kernel
def sg_127_244 : List RI := [(.iconst 0, 1, 0, 0, 0, 0)]
theorem sk_127_244 : segB 12 false code 244 sg_127_244 = true := by decide +kernel
def sg_127_246 : List RI := [(.aload_n 1, 1, 0, 0, 0, 0), (.aload_n 0, 1, 0, 0, 0, 0), (.iload_n 3, 1, 0, 0, 0, 0), (.iconst 1, 1, 0, 0, 0, 1), (.iadd, 1, 0, 0, 0, 0)]
theorem sk_127_246 : segB 12 false code 246 sg_127_246 = true := by decide +kernel
def sg_127_252 : List RI := [(.aload_n 0, 1, 0, 0, 0, 0), (.iload_n 3, 1, 0, 0, 0, 0), (.iconst 2, 1, 0, 0, 0, 2), (.iadd, 1, 0, 0, 0, 0)]
theorem sk_127_252 : segB 12 false code 252 sg_127_252 = true := by decide +kernel
def sg_127_257 : List RI := [(.aload_n 0, 1, 0, 0, 0, 0), (.iload_n 3, 1, 0, 0, 0, 0), (.iconst 3, 1, 0, 0, 0, 3), (.iadd, 1, 0, 0, 0, 0)]
theorem sk_127_257 : segB 12 false code 257 sg_127_257 = true := by decide +kernel
def sg_127_262 : List RI := [(.aload_n 0, 1, 0, 0, 0, 0), (.iload_n 3, 1, 0, 0, 0, 0), (.iconst 4, 1, 0, 0, 0, 4), (.iadd, 1, 0, 0, 0, 0)]
theorem sk_127_262 : segB 12 false code 262 sg_127_262 = true := by decide +kernel
def sg_127_270 : List RI := [(.aload_n 2, 1, 0, 0, 0, 0), (.aload_n 0, 1, 0, 0, 0, 0), (.iload_n 3, 1, 0, 0, 0, 0), (.iconst 1, 1, 0, 0, 0, 1), (.iadd, 1, 0, 0, 0, 0)]
theorem sk_127_270 : segB 12 false code 270 sg_127_270 = true := by decide +kernel
def sg_127_276 : List RI := [(.aload_n 0, 1, 0, 0, 0, 0), (.iload_n 3, 1, 0, 0, 0, 0), (.iconst 2, 1, 0, 0, 0, 2), (.iadd, 1, 0, 0, 0, 0)]
theorem sk_127_276 : segB 12 false code 276 sg_127_276 = true := by decide +kernel
def sg_127_281 : List RI := [(.aload_n 0, 1, 0, 0, 0, 0), (.iload_n 3, 1, 0, 0, 0, 0), (.iconst 3, 1, 0, 0, 0, 3), (.iadd, 1, 0, 0, 0, 0)]
theorem sk_127_281 : segB 12 false code 281 sg_127_281 = true := by decide +kernel
def sg_127_286 : List RI := [(.aload_n 0, 1, 0, 0, 0, 0), (.iload_n 3, 1, 0, 0, 0, 0), (.iconst 4, 1, 0, 0, 0, 4), (.iadd, 1, 0, 0, 0, 0)]
theorem sk_127_286 : segB 12 false code 286 sg_127_286 = true := by decide +kernel
def sg_127_297 : List RI := [(.iconst 0, 1, 0, 0, 0, 0)]
theorem sk_127_297 : segB 12 false code 297 sg_127_297 = true := by decide +kernel
def sg_127_299 : List RI := [(.aload_n 1, 1, 0, 0, 0, 0), (.aload_n 0, 1, 0, 0, 0, 0), (.iload_n 3, 1, 0, 0, 0, 0), (.iconst 1, 1, 0, 0, 0, 1), (.iadd, 1, 0, 0, 0, 0)]
theorem sk_127_299 : segB 12 false code 299 sg_127_299 = true := by decide +kernel
def sg_127_305 : List RI := [(.aload_n 0, 1, 0, 0, 0, 0), (.iload_n 3, 1, 0, 0, 0, 0), (.iconst 2, 1, 0, 0, 0, 2), (.iadd, 1, 0, 0, 0, 0)]
theorem sk_127_305 : segB 12 false code 305 sg_127_305 = true := by decide +kernel
def sg_127_310 : List RI := [(.aload_n 0, 1, 0, 0, 0, 0), (.iload_n 3, 1, 0, 0, 0, 0), (.iconst 3, 1, 0, 0, 0, 3), (.iadd, 1, 0, 0, 0, 0)]
theorem sk_127_310 : segB 12 false code 310 sg_127_310 = true := by decide +kernel
def sg_127_315 : List RI := [(.aload_n 0, 1, 0, 0, 0, 0), (.iload_n 3, 1, 0, 0, 0, 0), (.iconst 4, 1, 0, 0, 0, 4), (.iadd, 1, 0, 0, 0, 0)]
theorem sk_127_315 : segB 12 false code 315 sg_127_315 = true := by decide +kernel
def sg_127_320 : List RI := [(.aload_n 0, 1, 0, 0, 0, 0), (.iload_n 3, 1, 0, 0, 0, 0), (.iconst 5, 1, 0, 0, 0, 5), (.iadd, 1, 0, 0, 0, 0)]
theorem sk_127_320 : segB 12 false code 320 sg_127_320 = true := by decide +kernel
def sg_127_325 : List RI := [(.aload_n 0, 1, 0, 0, 0, 0), (.iload_n 3, 1, 0, 0, 0, 0), (.bipush 6, 2, 0, 0, 0, 6), (.iadd, 1, 0, 0, 0, 0)]
theorem sk_127_325 : segB 12 false code 325 sg_127_325 = true := by decide +kernel
def sg_127_334 : List RI := [(.iconst 1, 1, 0, 0, 0, 1)]
theorem sk_127_334 : segB 12 false code 334 sg_127_334 = true := by decide +kernel
def sg_127_338 : List RI := [(.iconst 0, 1, 0, 0, 0, 0)]
theorem sk_127_338 : segB 12 false code 338 sg_127_338 = true := by decide +kernel
def sg_127_342 : List RI := [(.aload_n 2, 1, 0, 0, 0, 0), (.aload_n 0, 1, 0, 0, 0, 0), (.iload_n 3, 1, 0, 0, 0, 0), (.iconst 1, 1, 0, 0, 0, 1), (.iadd, 1, 0, 0, 0, 0)]
theorem sk_127_342 : segB 12 false code 342 sg_127_342 = true := by decide +kernel
def sg_127_348 : List RI := [(.aload_n 0, 1, 0, 0, 0, 0), (.iload_n 3, 1, 0, 0, 0, 0), (.iconst 2, 1, 0, 0, 0, 2), (.iadd, 1, 0, 0, 0, 0)]
theorem sk_127_348 : segB 12 false code 348 sg_127_348 = true := by decide +kernel
def sg_127_353 : List RI := [(.aload_n 0, 1, 0, 0, 0, 0), (.iload_n 3, 1, 0, 0, 0, 0), (.iconst 3, 1, 0, 0, 0, 3), (.iadd, 1, 0, 0, 0, 0)]
theorem sk_127_353 : segB 12 false code 353 sg_127_353 = true := by decide +kernel
def sg_127_358 : List RI := [(.aload_n 0, 1, 0, 0, 0, 0), (.iload_n 3, 1, 0, 0, 0, 0), (.iconst 4, 1, 0, 0, 0, 4), (.iadd, 1, 0, 0, 0, 0)]
theorem sk_127_358 : segB 12 false code 358 sg_127_358 = true := by decide +kernel
def sg_127_363 : List RI := [(.aload_n 0, 1, 0, 0, 0, 0), (.iload_n 3, 1, 0, 0, 0, 0), (.iconst 5, 1, 0, 0, 0, 5), (.iadd, 1, 0, 0, 0, 0)]
theorem sk_127_363 : segB 12 false code 363 sg_127_363 = true := by decide +kernel
def sg_127_368 : List RI := [(.aload_n 0, 1, 0, 0, 0, 0), (.iload_n 3, 1, 0, 0, 0, 0), (.bipush 6, 2, 0, 0, 0, 6), (.iadd, 1, 0, 0, 0, 0)]
theorem sk_127_368 : segB 12 false code 368 sg_127_368 = true := by decide +kernel
def sg_127_377 : List RI := [(.iconst 1, 1, 0, 0, 0, 1)]
theorem sk_127_377 : segB 12 false code 377 sg_127_377 = true := by decide +kernel
def sg_127_381 : List RI := [(.iconst 0, 1, 0, 0, 0, 0)]
theorem sk_127_381 : segB 12 false code 381 sg_127_381 = true := by decide +kernel
def sg_127_388 : List RI := [(.iconst 0, 1, 0, 0, 0, 0)]
theorem sk_127_388 : segB 12 false code 388 sg_127_388 = true := by decide +kernel
def sg_127_390 : List RI := [(.aload_n 1, 1, 0, 0, 0, 0), (.aload_n 0, 1, 0, 0, 0, 0), (.iload_n 3, 1, 0, 0, 0, 0), (.iconst 1, 1, 0, 0, 0, 1), (.iadd, 1, 0, 0, 0, 0)]
theorem sk_127_390 : segB 12 false code 390 sg_127_390 = true := by decide +kernel
def sg_127_396 : List RI := [(.aload_n 0, 1, 0, 0, 0, 0), (.iload_n 3, 1, 0, 0, 0, 0), (.iconst 2, 1, 0, 0, 0, 2), (.iadd, 1, 0, 0, 0, 0)]
theorem sk_127_396 : segB 12 false code 396 sg_127_396 = true := by decide +kernel
def sg_127_401 : List RI := [(.aload_n 0, 1, 0, 0, 0, 0), (.iload_n 3, 1, 0, 0, 0, 0), (.iconst 3, 1, 0, 0, 0, 3), (.iadd, 1, 0, 0, 0, 0)]
theorem sk_127_401 : segB 12 false code 401 sg_127_401 = true := by decide +kernel
def sg_127_409 : List RI := [(.iconst 1, 1, 0, 0, 0, 1)]
theorem sk_127_409 : segB 12 false code 409 sg_127_409 = true := by decide +kernel
def sg_127_413 : List RI := [(.iconst 0, 1, 0, 0, 0, 0)]
theorem sk_127_413 : segB 12 false code 413 sg_127_413 = true := by decide +kernel
def sg_127_417 : List RI := [(.aload_n 2, 1, 0, 0, 0, 0), (.aload_n 0, 1, 0, 0, 0, 0), (.iload_n 3, 1, 0, 0, 0, 0), (.iconst 1, 1, 0, 0, 0, 1), (.iadd, 1, 0, 0, 0, 0)]
theorem sk_127_417 : segB 12 false code 417 sg_127_417 = true := by decide +kernel
def sg_127_423 : List RI := [(.aload_n 0, 1, 0, 0, 0, 0), (.iload_n 3, 1, 0, 0, 0, 0), (.iconst 2, 1, 0, 0, 0, 2), (.iadd, 1, 0, 0, 0, 0)]
theorem sk_127_423 : segB 12 false code 423 sg_127_423 = true := by decide +kernel
def sg_127_428 : List RI := [(.aload_n 0, 1, 0, 0, 0, 0), (.iload_n 3, 1, 0, 0, 0, 0), (.iconst 3, 1, 0, 0, 0, 3), (.iadd, 1, 0, 0, 0, 0)]
theorem sk_127_428 : segB 12 false code 428 sg_127_428 = true := by decide +kernel
def sg_127_436 : List RI := [(.iconst 1, 1, 0, 0, 0, 1)]
theorem sk_127_436 : segB 12 false code 436 sg_127_436 = true := by decide +kernel
def sg_127_440 : List RI := [(.iconst 0, 1, 0, 0, 0, 0)]
theorem sk_127_440 : segB 12 false code 440 sg_127_440 = true := by decide +kernel
def sg_127_447 : List RI := [(.iconst 0, 1, 0, 0, 0, 0)]
theorem sk_127_447 : segB 12 false code 447 sg_127_447 = true := by decide +kernel
def sg_127_449 : List RI := [(.aload_n 1, 1, 0, 0, 0, 0), (.aload_n 0, 1, 0, 0, 0, 0), (.iload_n 3, 1, 0, 0, 0, 0), (.iconst 1, 1, 0, 0, 0, 1), (.iadd, 1, 0, 0, 0, 0)]
theorem sk_127_449 : segB 12 false code 449 sg_127_449 = true := by decide +kernel
def sg_127_455 : List RI := [(.aload_n 0, 1, 0, 0, 0, 0), (.iload_n 3, 1, 0, 0, 0, 0), (.iconst 2, 1, 0, 0, 0, 2), (.iadd, 1, 0, 0, 0, 0)]
theorem sk_127_455 : segB 12 false code 455 sg_127_455 = true := by decide +kernel
def sg_127_460 : List RI := [(.aload_n 0, 1, 0, 0, 0, 0), (.iload_n 3, 1, 0, 0, 0, 0), (.iconst 3, 1, 0, 0, 0, 3), (.iadd, 1, 0, 0, 0, 0)]
theorem sk_127_460 : segB 12 false code 460 sg_127_460 = true := by decide +kernel
def sg_127_465 : List RI := [(.aload_n 0, 1, 0, 0, 0, 0), (.iload_n 3, 1, 0, 0, 0, 0), (.iconst 4, 1, 0, 0, 0, 4), (.iadd, 1, 0, 0, 0, 0)]
theorem sk_127_465 : segB 12 false code 465 sg_127_465 = true := by decide +kernel
def sg_127_473 : List RI := [(.aload_n 2, 1, 0, 0, 0, 0), (.aload_n 0, 1, 0, 0, 0, 0), (.iload_n 3, 1, 0, 0, 0, 0), (.iconst 1, 1, 0, 0, 0, 1), (.iadd, 1, 0, 0, 0, 0)]
theorem sk_127_473 : segB 12 false code 473 sg_127_473 = true := by decide +kernel
def sg_127_479 : List RI := [(.aload_n 0, 1, 0, 0, 0, 0), (.iload_n 3, 1, 0, 0, 0, 0), (.iconst 2, 1, 0, 0, 0, 2), (.iadd, 1, 0, 0, 0, 0)]
theorem sk_127_479 : segB 12 false code 479 sg_127_479 = true := by decide +kernel
def sg_127_484 : List RI := [(.aload_n 0, 1, 0, 0, 0, 0), (.iload_n 3, 1, 0, 0, 0, 0), (.iconst 3, 1, 0, 0, 0, 3), (.iadd, 1, 0, 0, 0, 0)]
theorem sk_127_484 : segB 12 false code 484 sg_127_484 = true := by decide +kernel
def sg_127_489 : List RI := [(.aload_n 0, 1, 0, 0, 0, 0), (.iload_n 3, 1, 0, 0, 0, 0), (.iconst 4, 1, 0, 0, 0, 4), (.iadd, 1, 0, 0, 0, 0)]
theorem sk_127_489 : segB 12 false code 489 sg_127_489 = true := by decide +kernel
def sg_127_500 : List RI := [(.iconst 0, 1, 0, 0, 0, 0)]
theorem sk_127_500 : segB 12 false code 500 sg_127_500 = true := by decide +kernel
def sg_127_502 : List RI := [(.aload_n 1, 1, 0, 0, 0, 0), (.aload_n 0, 1, 0, 0, 0, 0), (.iload_n 3, 1, 0, 0, 0, 0), (.iconst 1, 1, 0, 0, 0, 1), (.iadd, 1, 0, 0, 0, 0)]
theorem sk_127_502 : segB 12 false code 502 sg_127_502 = true := by decide +kernel
def sg_127_508 : List RI := [(.aload_n 0, 1, 0, 0, 0, 0), (.iload_n 3, 1, 0, 0, 0, 0), (.iconst 2, 1, 0, 0, 0, 2), (.iadd, 1, 0, 0, 0, 0)]
theorem sk_127_508 : segB 12 false code 508 sg_127_508 = true := by decide +kernel
def sg_127_513 : List RI := [(.aload_n 0, 1, 0, 0, 0, 0), (.iload_n 3, 1, 0, 0, 0, 0), (.iconst 3, 1, 0, 0, 0, 3), (.iadd, 1, 0, 0, 0, 0)]
theorem sk_127_513 : segB 12 false code 513 sg_127_513 = true := by decide +kernel
def sg_127_518 : List RI := [(.aload_n 0, 1, 0, 0, 0, 0), (.iload_n 3, 1, 0, 0, 0, 0), (.iconst 4, 1, 0, 0, 0, 4), (.iadd, 1, 0, 0, 0, 0)]
theorem sk_127_518 : segB 12 false code 518 sg_127_518 = true := by decide +kernel
def sg_127_526 : List RI := [(.aload_n 2, 1, 0, 0, 0, 0), (.aload_n 0, 1, 0, 0, 0, 0), (.iload_n 3, 1, 0, 0, 0, 0), (.iconst 1, 1, 0, 0, 0, 1), (.iadd, 1, 0, 0, 0, 0)]
theorem sk_127_526 : segB 12 false code 526 sg_127_526 = true := by decide +kernel
def sg_127_532 : List RI := [(.aload_n 0, 1, 0, 0, 0, 0), (.iload_n 3, 1, 0, 0, 0, 0), (.iconst 2, 1, 0, 0, 0, 2), (.iadd, 1, 0, 0, 0, 0)]
theorem sk_127_532 : segB 12 false code 532 sg_127_532 = true := by decide +kernel
def sg_127_537 : List RI := [(.aload_n 0, 1, 0, 0, 0, 0), (.iload_n 3, 1, 0, 0, 0, 0), (.iconst 3, 1, 0, 0, 0, 3), (.iadd, 1, 0, 0, 0, 0)]
theorem sk_127_537 : segB 12 false code 537 sg_127_537 = true := by decide +kernel
def sg_127_542 : List RI := [(.aload_n 0, 1, 0, 0, 0, 0), (.iload_n 3, 1, 0, 0, 0, 0), (.iconst 4, 1, 0, 0, 0, 4), (.iadd, 1, 0, 0, 0, 0)]
theorem sk_127_542 : segB 12 false code 542 sg_127_542 = true := by decide +kernel
def sg_127_553 : List RI := [(.iconst 0, 1, 0, 0, 0, 0)]
theorem sk_127_553 : segB 12 false code 553 sg_127_553 = true := by decide +kernel
def sg_127_555 : List RI := [(.aload_n 1, 1, 0, 0, 0, 0), (.aload_n 0, 1, 0, 0, 0, 0), (.iload_n 3, 1, 0, 0, 0, 0), (.iconst 1, 1, 0, 0, 0, 1), (.iadd, 1, 0, 0, 0, 0)]
theorem sk_127_555 : segB 12 false code 555 sg_127_555 = true := by decide +kernel
def sg_127_561 : List RI := [(.aload_n 0, 1, 0, 0, 0, 0), (.iload_n 3, 1, 0, 0, 0, 0), (.iconst 2, 1, 0, 0, 0, 2), (.iadd, 1, 0, 0, 0, 0)]
theorem sk_127_561 : segB 12 false code 561 sg_127_561 = true := by decide +kernel
def sg_127_566 : List RI := [(.aload_n 0, 1, 0, 0, 0, 0), (.iload_n 3, 1, 0, 0, 0, 0), (.iconst 3, 1, 0, 0, 0, 3), (.iadd, 1, 0, 0, 0, 0)]
theorem sk_127_566 : segB 12 false code 566 sg_127_566 = true := by decide +kernel
def sg_127_571 : List RI := [(.aload_n 0, 1, 0, 0, 0, 0), (.iload_n 3, 1, 0, 0, 0, 0), (.iconst 4, 1, 0, 0, 0, 4), (.iadd, 1, 0, 0, 0, 0)]
theorem sk_127_571 : segB 12 false code 571 sg_127_571 = true := by decide +kernel
def sg_127_576 : List RI := [(.aload_n 0, 1, 0, 0, 0, 0), (.iload_n 3, 1, 0, 0, 0, 0), (.iconst 5, 1, 0, 0, 0, 5), (.iadd, 1, 0, 0, 0, 0)]
theorem sk_127_576 : segB 12 false code 576 sg_127_576 = true := by decide +kernel
def sg_127_584 : List RI := [(.aload_n 2, 1, 0, 0, 0, 0), (.aload_n 0, 1, 0, 0, 0, 0), (.iload_n 3, 1, 0, 0, 0, 0), (.iconst 1, 1, 0, 0, 0, 1), (.iadd, 1, 0, 0, 0, 0)]
theorem sk_127_584 : segB 12 false code 584 sg_127_584 = true := by decide +kernel
def sg_127_590 : List RI := [(.aload_n 0, 1, 0, 0, 0, 0), (.iload_n 3, 1, 0, 0, 0, 0), (.iconst 2, 1, 0, 0, 0, 2), (.iadd, 1, 0, 0, 0, 0)]
theorem sk_127_590 : segB 12 false code 590 sg_127_590 = true := by decide +kernel
def sg_127_595 : List RI := [(.aload_n 0, 1, 0, 0, 0, 0), (.iload_n 3, 1, 0, 0, 0, 0), (.iconst 3, 1, 0, 0, 0, 3), (.iadd, 1, 0, 0, 0, 0)]
theorem sk_127_595 : segB 12 false code 595 sg_127_595 = true := by decide +kernel
def sg_127_600 : List RI := [(.aload_n 0, 1, 0, 0, 0, 0), (.iload_n 3, 1, 0, 0, 0, 0), (.iconst 4, 1, 0, 0, 0, 4), (.iadd, 1, 0, 0, 0, 0)]
theorem sk_127_600 : segB 12 false code 600 sg_127_600 = true := by decide +kernel
def sg_127_605 : List RI := [(.aload_n 0, 1, 0, 0, 0, 0), (.iload_n 3, 1, 0, 0, 0, 0), (.iconst 5, 1, 0, 0, 0, 5), (.iadd, 1, 0, 0, 0, 0)]
theorem sk_127_605 : segB 12 false code 605 sg_127_605 = true := by decide +kernel
def sg_127_616 : List RI := [(.iconst 0, 1, 0, 0, 0, 0)]
theorem sk_127_616 : segB 12 false code 616 sg_127_616 = true := by decide +kernel
def sg_127_618 : List RI := [(.aload_n 1, 1, 0, 0, 0, 0), (.aload_n 0, 1, 0, 0, 0, 0), (.iload_n 3, 1, 0, 0, 0, 0), (.iconst 1, 1, 0, 0, 0, 1), (.iadd, 1, 0, 0, 0, 0)]
theorem sk_127_618 : segB 12 false code 618 sg_127_618 = true := by decide +kernel
def sg_127_624 : List RI := [(.aload_n 0, 1, 0, 0, 0, 0), (.iload_n 3, 1, 0, 0, 0, 0), (.iconst 2, 1, 0, 0, 0, 2), (.iadd, 1, 0, 0, 0, 0)]
theorem sk_127_624 : segB 12 false code 624 sg_127_624 = true := by decide +kernel
def sg_127_629 : List RI := [(.aload_n 0, 1, 0, 0, 0, 0), (.iload_n 3, 1, 0, 0, 0, 0), (.iconst 3, 1, 0, 0, 0, 3), (.iadd, 1, 0, 0, 0, 0)]
theorem sk_127_629 : segB 12 false code 629 sg_127_629 = true := by decide +kernel
def sg_127_634 : List RI := [(.aload_n 0, 1, 0, 0, 0, 0), (.iload_n 3, 1, 0, 0, 0, 0), (.iconst 4, 1, 0, 0, 0, 4), (.iadd, 1, 0, 0, 0, 0)]
theorem sk_127_634 : segB 12 false code 634 sg_127_634 = true := by decide +kernel
def sg_127_642 : List RI := [(.aload_n 2, 1, 0, 0, 0, 0), (.aload_n 0, 1, 0, 0, 0, 0), (.iload_n 3, 1, 0, 0, 0, 0), (.iconst 1, 1, 0, 0, 0, 1), (.iadd, 1, 0, 0, 0, 0)]
theorem sk_127_642 : segB 12 false code 642 sg_127_642 = true := by decide +kernel
def sg_127_648 : List RI := [(.aload_n 0, 1, 0, 0, 0, 0), (.iload_n 3, 1, 0, 0, 0, 0), (.iconst 2, 1, 0, 0, 0, 2), (.iadd, 1, 0, 0, 0, 0)]
theorem sk_127_648 : segB 12 false code 648 sg_127_648 = true := by decide +kernel
def sg_127_653 : List RI := [(.aload_n 0, 1, 0, 0, 0, 0), (.iload_n 3, 1, 0, 0, 0, 0), (.iconst 3, 1, 0, 0, 0, 3), (.iadd, 1, 0, 0, 0, 0)]
theorem sk_127_653 : segB 12 false code 653 sg_127_653 = true := by decide +kernel
def sg_127_658 : List RI := [(.aload_n 0, 1, 0, 0, 0, 0), (.iload_n 3, 1, 0, 0, 0, 0), (.iconst 4, 1, 0, 0, 0, 4), (.iadd, 1, 0, 0, 0, 0)]
theorem sk_127_658 : segB 12 false code 658 sg_127_658 = true := by decide +kernel
def sg_127_669 : List RI := [(.iconst 0, 1, 0, 0, 0, 0)]
theorem sk_127_669 : segB 12 false code 669 sg_127_669 = true := by decide +kernel
def sg_127_671 : List RI := [(.aload_n 1, 1, 0, 0, 0, 0), (.aload_n 0, 1, 0, 0, 0, 0), (.iload_n 3, 1, 0, 0, 0, 0), (.iconst 1, 1, 0, 0, 0, 1), (.iadd, 1, 0, 0, 0, 0)]
theorem sk_127_671 : segB 12 false code 671 sg_127_671 = true := by decide +kernel
def sg_127_680 : List RI := [(.aload_n 2, 1, 0, 0, 0, 0), (.aload_n 0, 1, 0, 0, 0, 0), (.iload_n 3, 1, 0, 0, 0, 0), (.iconst 1, 1, 0, 0, 0, 1), (.iadd, 1, 0, 0, 0, 0)]
theorem sk_127_680 : segB 12 false code 680 sg_127_680 = true := by decide +kernel
def sg_127_692 : List RI := [(.iconst 0, 1, 0, 0, 0, 0)]
theorem sk_127_692 : segB 12 false code 692 sg_127_692 = true := by decide +kernel
def sg_127_694 : List RI := [(.aload_n 1, 1, 0, 0, 0, 0), (.aload_n 0, 1, 0, 0, 0, 0), (.iload_n 3, 1, 0, 0, 0, 0), (.iconst 1, 1, 0, 0, 0, 1), (.iadd, 1, 0, 0, 0, 0)]
theorem sk_127_694 : segB 12 false code 694 sg_127_694 = true := by decide +kernel
def sg_127_700 : List RI := [(.aload_n 0, 1, 0, 0, 0, 0), (.iload_n 3, 1, 0, 0, 0, 0), (.iconst 2, 1, 0, 0, 0, 2), (.iadd, 1, 0, 0, 0, 0)]
theorem sk_127_700 : segB 12 false code 700 sg_127_700 = true := by decide +kernel
def sg_127_705 : List RI := [(.aload_n 0, 1, 0, 0, 0, 0), (.iload_n 3, 1, 0, 0, 0, 0), (.iconst 3, 1, 0, 0, 0, 3), (.iadd, 1, 0, 0, 0, 0)]
theorem sk_127_705 : segB 12 false code 705 sg_127_705 = true := by decide +kernel
def sg_127_710 : List RI := [(.aload_n 0, 1, 0, 0, 0, 0), (.iload_n 3, 1, 0, 0, 0, 0), (.iconst 4, 1, 0, 0, 0, 4), (.iadd, 1, 0, 0, 0, 0)]
theorem sk_127_710 : segB 12 false code 710 sg_127_710 = true := by decide +kernel
def sg_127_715 : List RI := [(.aload_n 0, 1, 0, 0, 0, 0), (.iload_n 3, 1, 0, 0, 0, 0), (.iconst 5, 1, 0, 0, 0, 5), (.iadd, 1, 0, 0, 0, 0)]
theorem sk_127_715 : segB 12 false code 715 sg_127_715 = true := by decide +kernel
def sg_127_723 : List RI := [(.aload_n 2, 1, 0, 0, 0, 0), (.aload_n 0, 1, 0, 0, 0, 0), (.iload_n 3, 1, 0, 0, 0, 0), (.iconst 1, 1, 0, 0, 0, 1), (.iadd, 1, 0, 0, 0, 0)]
theorem sk_127_723 : segB 12 false code 723 sg_127_723 = true := by decide +kernel
def sg_127_729 : List RI := [(.aload_n 0, 1, 0, 0, 0, 0), (.iload_n 3, 1, 0, 0, 0, 0), (.iconst 2, 1, 0, 0, 0, 2), (.iadd, 1, 0, 0, 0, 0)]
theorem sk_127_729 : segB 12 false code 729 sg_127_729 = true := by decide +kernel
def sg_127_734 : List RI := [(.aload_n 0, 1, 0, 0, 0, 0), (.iload_n 3, 1, 0, 0, 0, 0), (.iconst 3, 1, 0, 0, 0, 3), (.iadd, 1, 0, 0, 0, 0)]
theorem sk_127_734 : segB 12 false code 734 sg_127_734 = true := by decide +kernel
def sg_127_739 : List RI := [(.aload_n 0, 1, 0, 0, 0, 0), (.iload_n 3, 1, 0, 0, 0, 0), (.iconst 4, 1, 0, 0, 0, 4), (.iadd, 1, 0, 0, 0, 0)]
theorem sk_127_739 : segB 12 false code 739 sg_127_739 = true := by decide +kernel
def sg_127_744 : List RI := [(.aload_n 0, 1, 0, 0, 0, 0), (.iload_n 3, 1, 0, 0, 0, 0), (.iconst 5, 1, 0, 0, 0, 5), (.iadd, 1, 0, 0, 0, 0)]
theorem sk_127_744 : segB 12 false code 744 sg_127_744 = true := by decide +kernel
def sg_127_755 : List RI := [(.iconst 0, 1, 0, 0, 0, 0)]
theorem sk_127_755 : segB 12 false code 755 sg_127_755 = true := by decide +kernel
def sg_127_757 : List RI := [(.aload_n 1, 1, 0, 0, 0, 0), (.aload_n 0, 1, 0, 0, 0, 0), (.iload_n 3, 1, 0, 0, 0, 0), (.iconst 1, 1, 0, 0, 0, 1), (.iadd, 1, 0, 0, 0, 0)]
theorem sk_127_757 : segB 12 false code 757 sg_127_757 = true := by decide +kernel
def sg_127_766 : List RI := [(.aload_n 2, 1, 0, 0, 0, 0), (.aload_n 0, 1, 0, 0, 0, 0), (.iload_n 3, 1, 0, 0, 0, 0), (.iconst 1, 1, 0, 0, 0, 1), (.iadd, 1, 0, 0, 0, 0)]
theorem sk_127_766 : segB 12 false code 766 sg_127_766 = true := by decide +kernel
def sg_127_778 : List RI := [(.iconst 0, 1, 0, 0, 0, 0)]
theorem sk_127_778 : segB 12 false code 778 sg_127_778 = true := by decide +kernel
def sg_127_780 : List RI := [(.aload_n 1, 1, 0, 0, 0, 0), (.aload_n 0, 1, 0, 0, 0, 0), (.iload_n 3, 1, 0, 0, 0, 0), (.iconst 1, 1, 0, 0, 0, 1), (.iadd, 1, 0, 0, 0, 0)]
theorem sk_127_780 : segB 12 false code 780 sg_127_780 = true := by decide +kernel
def sg_127_786 : List RI := [(.aload_n 0, 1, 0, 0, 0, 0), (.iload_n 3, 1, 0, 0, 0, 0), (.iconst 2, 1, 0, 0, 0, 2), (.iadd, 1, 0, 0, 0, 0)]
theorem sk_127_786 : segB 12 false code 786 sg_127_786 = true := by decide +kernel
def sg_127_791 : List RI := [(.aload_n 0, 1, 0, 0, 0, 0), (.iload_n 3, 1, 0, 0, 0, 0), (.iconst 3, 1, 0, 0, 0, 3), (.iadd, 1, 0, 0, 0, 0)]
theorem sk_127_791 : segB 12 false code 791 sg_127_791 = true := by decide +kernel
def sg_127_796 : List RI := [(.aload_n 0, 1, 0, 0, 0, 0), (.iload_n 3, 1, 0, 0, 0, 0), (.iconst 4, 1, 0, 0, 0, 4), (.iadd, 1, 0, 0, 0, 0)]
theorem sk_127_796 : segB 12 false code 796 sg_127_796 = true := by decide +kernel
def sg_127_804 : List RI := [(.aload_n 2, 1, 0, 0, 0, 0), (.aload_n 0, 1, 0, 0, 0, 0), (.iload_n 3, 1, 0, 0, 0, 0), (.iconst 1, 1, 0, 0, 0, 1), (.iadd, 1, 0, 0, 0, 0)]
theorem sk_127_804 : segB 12 false code 804 sg_127_804 = true := by decide +kernel
def sg_127_810 : List RI := [(.aload_n 0, 1, 0, 0, 0, 0), (.iload_n 3, 1, 0, 0, 0, 0), (.iconst 2, 1, 0, 0, 0, 2), (.iadd, 1, 0, 0, 0, 0)]
theorem sk_127_810 : segB 12 false code 810 sg_127_810 = true := by decide +kernel
def sg_127_815 : List RI := [(.aload_n 0, 1, 0, 0, 0, 0), (.iload_n 3, 1, 0, 0, 0, 0), (.iconst 3, 1, 0, 0, 0, 3), (.iadd, 1, 0, 0, 0, 0)]
theorem sk_127_815 : segB 12 false code 815 sg_127_815 = true := by decide +kernel
def sg_127_820 : List RI := [(.aload_n 0, 1, 0, 0, 0, 0), (.iload_n 3, 1, 0, 0, 0, 0), (.iconst 4, 1, 0, 0, 0, 4), (.iadd, 1, 0, 0, 0, 0)]
theorem sk_127_820 : segB 12 false code 820 sg_127_820 = true := by decide +kernel
def sg_127_831 : List RI := [(.iconst 0, 1, 0, 0, 0, 0)]
theorem sk_127_831 : segB 12 false code 831 sg_127_831 = true := by decide +kernel
def sg_127_833 : List RI := [(.aload_n 1, 1, 0, 0, 0, 0), (.aload_n 0, 1, 0, 0, 0, 0), (.iload_n 3, 1, 0, 0, 0, 0), (.iconst 1, 1, 0, 0, 0, 1), (.iadd, 1, 0, 0, 0, 0)]
theorem sk_127_833 : segB 12 false code 833 sg_127_833 = true := by decide +kernel
def sg_127_842 : List RI := [(.aload_n 2, 1, 0, 0, 0, 0), (.aload_n 0, 1, 0, 0, 0, 0), (.iload_n 3, 1, 0, 0, 0, 0), (.iconst 1, 1, 0, 0, 0, 1), (.iadd, 1, 0, 0, 0, 0)]
theorem sk_127_842 : segB 12 false code 842 sg_127_842 = true := by decide +kernel
def sg_127_854 : List RI := [(.iconst 0, 1, 0, 0, 0, 0)]
theorem sk_127_854 : segB 12 false code 854 sg_127_854 = true := by decide +kernel
def sg_127_856 : List RI := [(.aload_n 1, 1, 0, 0, 0, 0)]
theorem sk_127_856 : segB 12 false code 856 sg_127_856 = true := by decide +kernel
def sg_127_860 : List RI := [(.aload_n 2, 1, 0, 0, 0, 0)]
theorem sk_127_860 : segB 12 false code 860 sg_127_860 = true := by decide +kernel
def sg_127_867 : List RI := [(.iconst 0, 1, 0, 0, 0, 0)]
theorem sk_127_867 : segB 12 false code 867 sg_127_867 = true := by decide +kernel
def sg_127_869 : List RI := [(.aload_n 1, 1, 0, 0, 0, 0), (.aload_n 0, 1, 0, 0, 0, 0), (.iload_n 3, 1, 0, 0, 0, 0), (.iconst 1, 1, 0, 0, 0, 1), (.iadd, 1, 0, 0, 0, 0)]
theorem sk_127_869 : segB 12 false code 869 sg_127_869 = true := by decide +kernel
def sg_127_878 : List RI := [(.aload_n 2, 1, 0, 0, 0, 0), (.aload_n 0, 1, 0, 0, 0, 0), (.iload_n 3, 1, 0, 0, 0, 0), (.iconst 1, 1, 0, 0, 0, 1), (.iadd, 1, 0, 0, 0, 0)]
theorem sk_127_878 : segB 12 false code 878 sg_127_878 = true := by decide +kernel
def sg_127_890 : List RI := [(.iconst 0, 1, 0, 0, 0, 0)]
theorem sk_127_890 : segB 12 false code 890 sg_127_890 = true := by decide +kernel
def sg_127_892 : List RI := [(.aload_n 1, 1, 0, 0, 0, 0), (.aload_n 0, 1, 0, 0, 0, 0), (.iload_n 3, 1, 0, 0, 0, 0), (.iconst 1, 1, 0, 0, 0, 1), (.iadd, 1, 0, 0, 0, 0)]
theorem sk_127_892 : segB 12 false code 892 sg_127_892 = true := by decide +kernel
def sg_127_898 : List RI := [(.aload_n 0, 1, 0, 0, 0, 0), (.iload_n 3, 1, 0, 0, 0, 0), (.iconst 2, 1, 0, 0, 0, 2), (.iadd, 1, 0, 0, 0, 0)]
theorem sk_127_898 : segB 12 false code 898 sg_127_898 = true := by decide +kernel
def sg_127_906 : List RI := [(.aload_n 2, 1, 0, 0, 0, 0), (.aload_n 0, 1, 0, 0, 0, 0), (.iload_n 3, 1, 0, 0, 0, 0), (.iconst 1, 1, 0, 0, 0, 1), (.iadd, 1, 0, 0, 0, 0)]
theorem sk_127_906 : segB 12 false code 906 sg_127_906 = true := by decide +kernel
def sg_127_912 : List RI := [(.aload_n 0, 1, 0, 0, 0, 0), (.iload_n 3, 1, 0, 0, 0, 0), (.iconst 2, 1, 0, 0, 0, 2), (.iadd, 1, 0, 0, 0, 0)]
theorem sk_127_912 : segB 12 false code 912 sg_127_912 = true := by decide +kernel
def sg_127_923 : List RI := [(.iconst 0, 1, 0, 0, 0, 0)]
theorem sk_127_923 : segB 12 false code 923 sg_127_923 = true := by decide +kernel
def sg_127_925 : List RI := [(.aload_n 1, 1, 0, 0, 0, 0), (.aload_n 0, 1, 0, 0, 0, 0), (.iload_n 3, 1, 0, 0, 0, 0), (.iconst 1, 1, 0, 0, 0, 1), (.iadd, 1, 0, 0, 0, 0)]
theorem sk_127_925 : segB 12 false code 925 sg_127_925 = true := by decide +kernel
def sg_127_931 : List RI := [(.aload_n 0, 1, 0, 0, 0, 0), (.iload_n 3, 1, 0, 0, 0, 0), (.iconst 2, 1, 0, 0, 0, 2), (.iadd, 1, 0, 0, 0, 0)]
theorem sk_127_931 : segB 12 false code 931 sg_127_931 = true := by decide +kernel
def sg_127_939 : List RI := [(.aload_n 2, 1, 0, 0, 0, 0), (.aload_n 0, 1, 0, 0, 0, 0), (.iload_n 3, 1, 0, 0, 0, 0), (.iconst 1, 1, 0, 0, 0, 1), (.iadd, 1, 0, 0, 0, 0)]
theorem sk_127_939 : segB 12 false code 939 sg_127_939 = true := by decide +kernel
def sg_127_945 : List RI := [(.aload_n 0, 1, 0, 0, 0, 0), (.iload_n 3, 1, 0, 0, 0, 0), (.iconst 2, 1, 0, 0, 0, 2), (.iadd, 1, 0, 0, 0, 0)]
theorem sk_127_945 : segB 12 false code 945 sg_127_945 = true := by decide +kernel
def sg_127_956 : List RI := [(.iconst 0, 1, 0, 0, 0, 0)]
theorem sk_127_956 : segB 12 false code 956 sg_127_956 = true := by decide +kernel
def sg_127_958 : List RI := [(.aload_n 1, 1, 0, 0, 0, 0), (.aload_n 0, 1, 0, 0, 0, 0), (.iload_n 3, 1, 0, 0, 0, 0), (.iconst 1, 1, 0, 0, 0, 1), (.iadd, 1, 0, 0, 0, 0)]
theorem sk_127_958 : segB 12 false code 958 sg_127_958 = true := by decide +kernel
def sg_127_964 : List RI := [(.aload_n 0, 1, 0, 0, 0, 0), (.iload_n 3, 1, 0, 0, 0, 0), (.iconst 2, 1, 0, 0, 0, 2), (.iadd, 1, 0, 0, 0, 0)]
theorem sk_127_964 : segB 12 false code 964 sg_127_964 = true := by decide +kernel
def sg_127_972 : List RI := [(.aload_n 2, 1, 0, 0, 0, 0), (.aload_n 0, 1, 0, 0, 0, 0), (.iload_n 3, 1, 0, 0, 0, 0), (.iconst 1, 1, 0, 0, 0, 1), (.iadd, 1, 0, 0, 0, 0)]
theorem sk_127_972 : segB 12 false code 972 sg_127_972 = true := by decide +kernel
def sg_127_978 : List RI := [(.aload_n 0, 1, 0, 0, 0, 0), (.iload_n 3, 1, 0, 0, 0, 0), (.iconst 2, 1, 0, 0, 0, 2), (.iadd, 1, 0, 0, 0, 0)]
theorem sk_127_978 : segB 12 false code 978 sg_127_978 = true := by decide +kernel
def sg_127_989 : List RI := [(.iconst 0, 1, 0, 0, 0, 0)]
theorem sk_127_989 : segB 12 false code 989 sg_127_989 = true := by decide +kernel
def sg_127_991 : List RI := [(.aload_n 1, 1, 0, 0, 0, 0), (.aload_n 0, 1, 0, 0, 0, 0), (.iload_n 3, 1, 0, 0, 0, 0), (.iconst 1, 1, 0, 0, 0, 1), (.iadd, 1, 0, 0, 0, 0)]
theorem sk_127_991 : segB 12 false code 991 sg_127_991 = true := by decide +kernel
def sg_127_1000 : List RI := [(.aload_n 2, 1, 0, 0, 0, 0), (.aload_n 0, 1, 0, 0, 0, 0), (.iload_n 3, 1, 0, 0, 0, 0), (.iconst 1, 1, 0, 0, 0, 1), (.iadd, 1, 0, 0, 0, 0)]
theorem sk_127_1000 : segB 12 false code 1000 sg_127_1000 = true := by decide +kernel
def sg_127_1012 : List RI := [(.iconst 0, 1, 0, 0, 0, 0)]
theorem sk_127_1012 : segB 12 false code 1012 sg_127_1012 = true := by decide +kernel
def sg_127_1014 : List RI := [(.iinc 3 7, 3, 0, 0, 0, 7)]
theorem sk_127_1014 : segB 12 false code 1014 sg_127_1014 = true := by decide +kernel
def sg_127_1020 : List RI := [(.iconst 1, 1, 0, 0, 0, 1)]
theorem sk_127_1020 : segB 12 false code 1020 sg_127_1020 = true := by decide +kernel
theorem ck_127_4 : decode code 4 = .ok (.invokespecial 9, 3) ∧ lnkB 12 false 4 (.invokespecial 9, 3, 55, 0, 0, 0) = true := by decide +kernel
theorem ck_127_12 : decode code 12 = .ok (.invokespecial 12, 3) ∧ lnkB 12 false 12 (.invokespecial 12, 3, 79, 0, 0, 0) = true := by decide +kernel
theorem ck_127_24 : decode code 24 = .ok (.if_icmp .gt 996, 3) ∧ lnkB 12 false 24 (.if_icmp .gt 996, 3, 1020, 0, 0, 0) = true := by decide +kernel
theorem ca_127_29 : decode code 29 = .ok (.iaload, 1) ∧ lnkB 12 false 29 (.iaload, 1, 1, 0, 0, 0) = true := by decide +kernel
theorem ck_127_33 : decode code 33 = .ok (.tableswitch 981 0 19 #[95, 170, 213, 266, 357, 416, 469, 522, 585, 638, 661, 724, 747, 800, 823, 836, 859, 892, 925, 958], 95) ∧ lnkB 12 false 33 (.tableswitch 981 0 19 #[95, 170, 213, 266, 357, 416, 469, 522, 585, 638, 661, 724, 747, 800, 823, 836, 859, 892, 925, 958], 95, 0, 0, 0, 0) = true := by decide +kernel
theorem ca_127_133 : decode code 133 = .ok (.iaload, 1) ∧ lnkB 12 false 133 (.iaload, 1, 1, 0, 0, 0) = true := by decide +kernel
theorem ca_127_138 : decode code 138 = .ok (.iaload, 1) ∧ lnkB 12 false 138 (.iaload, 1, 1, 0, 0, 0) = true := by decide +kernel
theorem ca_127_143 : decode code 143 = .ok (.iaload, 1) ∧ lnkB 12 false 143 (.iaload, 1, 1, 0, 0, 0) = true := by decide +kernel
theorem ca_127_148 : decode code 148 = .ok (.iaload, 1) ∧ lnkB 12 false 148 (.iaload, 1, 1, 0, 0, 0) = true := by decide +kernel
theorem ca_127_153 : decode code 153 = .ok (.iaload, 1) ∧ lnkB 12 false 153 (.iaload, 1, 1, 0, 0, 0) = true := by decide +kernel
theorem ca_127_159 : decode code 159 = .ok (.iaload, 1) ∧ lnkB 12 false 159 (.iaload, 1, 1, 0, 0, 0) = true := by decide +kernel
theorem ck_127_160 : decode code 160 = .ok (.invokevirtual 13, 3) ∧ lnkB 12 false 160 (.invokevirtual 13, 3, 56, 0, 0, 0) = true := by decide +kernel
theorem ca_127_168 : decode code 168 = .ok (.iaload, 1) ∧ lnkB 12 false 168 (.iaload, 1, 1, 0, 0, 0) = true := by decide +kernel
theorem ca_127_173 : decode code 173 = .ok (.iaload, 1) ∧ lnkB 12 false 173 (.iaload, 1, 1, 0, 0, 0) = true := by decide +kernel
theorem ca_127_178 : decode code 178 = .ok (.iaload, 1) ∧ lnkB 12 false 178 (.iaload, 1, 1, 0, 0, 0) = true := by decide +kernel
theorem ca_127_183 : decode code 183 = .ok (.iaload, 1) ∧ lnkB 12 false 183 (.iaload, 1, 1, 0, 0, 0) = true := by decide +kernel
theorem ca_127_188 : decode code 188 = .ok (.iaload, 1) ∧ lnkB 12 false 188 (.iaload, 1, 1, 0, 0, 0) = true := by decide +kernel
theorem ca_127_194 : decode code 194 = .ok (.iaload, 1) ∧ lnkB 12 false 194 (.iaload, 1, 1, 0, 0, 0) = true := by decide +kernel
theorem ck_127_195 : decode code 195 = .ok (.invokevirtual 17, 3) ∧ lnkB 12 false 195 (.invokevirtual 17, 3, 80, 0, 0, 0) = true := by decide +kernel
theorem ck_127_198 : decode code 198 = .ok (.if_icmp .eq 816, 3) ∧ lnkB 12 false 198 (.if_icmp .eq 816, 3, 1014, 0, 0, 0) = true := by decide +kernel
theorem ck_127_202 : decode code 202 = .ok (.ireturn, 1) ∧ lnkB 12 false 202 (.ireturn, 1, 0, 0, 0, 0) = true := by decide +kernel
theorem ca_127_208 : decode code 208 = .ok (.iaload, 1) ∧ lnkB 12 false 208 (.iaload, 1, 1, 0, 0, 0) = true := by decide +kernel
theorem ca_127_213 : decode code 213 = .ok (.iaload, 1) ∧ lnkB 12 false 213 (.iaload, 1, 1, 0, 0, 0) = true := by decide +kernel
theorem ca_127_218 : decode code 218 = .ok (.iaload, 1) ∧ lnkB 12 false 218 (.iaload, 1, 1, 0, 0, 0) = true := by decide +kernel
theorem ck_127_219 : decode code 219 = .ok (.invokevirtual 18, 3) ∧ lnkB 12 false 219 (.invokevirtual 18, 3, 58, 0, 0, 0) = true := by decide +kernel
theorem ca_127_227 : decode code 227 = .ok (.iaload, 1) ∧ lnkB 12 false 227 (.iaload, 1, 1, 0, 0, 0) = true := by decide +kernel
theorem ca_127_232 : decode code 232 = .ok (.iaload, 1) ∧ lnkB 12 false 232 (.iaload, 1, 1, 0, 0, 0) = true := by decide +kernel
theorem ca_127_237 : decode code 237 = .ok (.iaload, 1) ∧ lnkB 12 false 237 (.iaload, 1, 1, 0, 0, 0) = true := by decide +kernel
theorem ck_127_238 : decode code 238 = .ok (.invokevirtual 22, 3) ∧ lnkB 12 false 238 (.invokevirtual 22, 3, 82, 0, 0, 0) = true := by decide +kernel
theorem ck_127_241 : decode code 241 = .ok (.if_icmp .eq 773, 3) ∧ lnkB 12 false 241 (.if_icmp .eq 773, 3, 1014, 0, 0, 0) = true := by decide +kernel
theorem ck_127_245 : decode code 245 = .ok (.ireturn, 1) ∧ lnkB 12 false 245 (.ireturn, 1, 0, 0, 0, 0) = true := by decide +kernel
theorem ca_127_251 : decode code 251 = .ok (.iaload, 1) ∧ lnkB 12 false 251 (.iaload, 1, 1, 0, 0, 0) = true := by decide +kernel
theorem ca_127_256 : decode code 256 = .ok (.iaload, 1) ∧ lnkB 12 false 256 (.iaload, 1, 1, 0, 0, 0) = true := by decide +kernel
theorem ca_127_261 : decode code 261 = .ok (.iaload, 1) ∧ lnkB 12 false 261 (.iaload, 1, 1, 0, 0, 0) = true := by decide +kernel
theorem ca_127_266 : decode code 266 = .ok (.iaload, 1) ∧ lnkB 12 false 266 (.iaload, 1, 1, 0, 0, 0) = true := by decide +kernel
theorem ck_127_267 : decode code 267 = .ok (.invokevirtual 23, 3) ∧ lnkB 12 false 267 (.invokevirtual 23, 3, 59, 0, 0, 0) = true := by decide +kernel
theorem ca_127_275 : decode code 275 = .ok (.iaload, 1) ∧ lnkB 12 false 275 (.iaload, 1, 1, 0, 0, 0) = true := by decide +kernel
theorem ca_127_280 : decode code 280 = .ok (.iaload, 1) ∧ lnkB 12 false 280 (.iaload, 1, 1, 0, 0, 0) = true := by decide +kernel
theorem ca_127_285 : decode code 285 = .ok (.iaload, 1) ∧ lnkB 12 false 285 (.iaload, 1, 1, 0, 0, 0) = true := by decide +kernel
theorem ca_127_290 : decode code 290 = .ok (.iaload, 1) ∧ lnkB 12 false 290 (.iaload, 1, 1, 0, 0, 0) = true := by decide +kernel
theorem ck_127_291 : decode code 291 = .ok (.invokevirtual 27, 3) ∧ lnkB 12 false 291 (.invokevirtual 27, 3, 83, 0, 0, 0) = true := by decide +kernel
theorem ck_127_294 : decode code 294 = .ok (.if_icmp .eq 720, 3) ∧ lnkB 12 false 294 (.if_icmp .eq 720, 3, 1014, 0, 0, 0) = true := by decide +kernel
theorem ck_127_298 : decode code 298 = .ok (.ireturn, 1) ∧ lnkB 12 false 298 (.ireturn, 1, 0, 0, 0, 0) = true := by decide +kernel
theorem ca_127_304 : decode code 304 = .ok (.iaload, 1) ∧ lnkB 12 false 304 (.iaload, 1, 1, 0, 0, 0) = true := by decide +kernel
theorem ca_127_309 : decode code 309 = .ok (.iaload, 1) ∧ lnkB 12 false 309 (.iaload, 1, 1, 0, 0, 0) = true := by decide +kernel
theorem ca_127_314 : decode code 314 = .ok (.iaload, 1) ∧ lnkB 12 false 314 (.iaload, 1, 1, 0, 0, 0) = true := by decide +kernel
theorem ca_127_319 : decode code 319 = .ok (.iaload, 1) ∧ lnkB 12 false 319 (.iaload, 1, 1, 0, 0, 0) = true := by decide +kernel
theorem ca_127_324 : decode code 324 = .ok (.iaload, 1) ∧ lnkB 12 false 324 (.iaload, 1, 1, 0, 0, 0) = true := by decide +kernel
theorem ca_127_330 : decode code 330 = .ok (.iaload, 1) ∧ lnkB 12 false 330 (.iaload, 1, 1, 0, 0, 0) = true := by decide +kernel
theorem ck_127_331 : decode code 331 = .ok (.ifCond .eq 7, 3) ∧ lnkB 12 false 331 (.ifCond .eq 7, 3, 338, 0, 0, 0) = true := by decide +kernel
theorem ck_127_335 : decode code 335 = .ok (.goto 4, 3) ∧ lnkB 12 false 335 (.goto 4, 3, 339, 0, 0, 0) = true := by decide +kernel
theorem ck_127_339 : decode code 339 = .ok (.invokevirtual 28, 3) ∧ lnkB 12 false 339 (.invokevirtual 28, 3, 60, 0, 0, 0) = true := by decide +kernel
theorem ca_127_347 : decode code 347 = .ok (.iaload, 1) ∧ lnkB 12 false 347 (.iaload, 1, 1, 0, 0, 0) = true := by decide +kernel
theorem ca_127_352 : decode code 352 = .ok (.iaload, 1) ∧ lnkB 12 false 352 (.iaload, 1, 1, 0, 0, 0) = true := by decide +kernel
theorem ca_127_357 : decode code 357 = .ok (.iaload, 1) ∧ lnkB 12 false 357 (.iaload, 1, 1, 0, 0, 0) = true := by decide +kernel
theorem ca_127_362 : decode code 362 = .ok (.iaload, 1) ∧ lnkB 12 false 362 (.iaload, 1, 1, 0, 0, 0) = true := by decide +kernel
theorem ca_127_367 : decode code 367 = .ok (.iaload, 1) ∧ lnkB 12 false 367 (.iaload, 1, 1, 0, 0, 0) = true := by decide +kernel
theorem ca_127_373 : decode code 373 = .ok (.iaload, 1) ∧ lnkB 12 false 373 (.iaload, 1, 1, 0, 0, 0) = true := by decide +kernel
theorem ck_127_374 : decode code 374 = .ok (.ifCond .eq 7, 3) ∧ lnkB 12 false 374 (.ifCond .eq 7, 3, 381, 0, 0, 0) = true := by decide +kernel
theorem ck_127_378 : decode code 378 = .ok (.goto 4, 3) ∧ lnkB 12 false 378 (.goto 4, 3, 382, 0, 0, 0) = true := by decide +kernel
theorem ck_127_382 : decode code 382 = .ok (.invokevirtual 32, 3) ∧ lnkB 12 false 382 (.invokevirtual 32, 3, 84, 0, 0, 0) = true := by decide +kernel
theorem ck_127_385 : decode code 385 = .ok (.if_icmp .eq 629, 3) ∧ lnkB 12 false 385 (.if_icmp .eq 629, 3, 1014, 0, 0, 0) = true := by decide +kernel
theorem ck_127_389 : decode code 389 = .ok (.ireturn, 1) ∧ lnkB 12 false 389 (.ireturn, 1, 0, 0, 0, 0) = true := by decide +kernel
theorem ca_127_395 : decode code 395 = .ok (.iaload, 1) ∧ lnkB 12 false 395 (.iaload, 1, 1, 0, 0, 0) = true := by decide +kernel
theorem ca_127_400 : decode code 400 = .ok (.iaload, 1) ∧ lnkB 12 false 400 (.iaload, 1, 1, 0, 0, 0) = true := by decide +kernel
theorem ca_127_405 : decode code 405 = .ok (.iaload, 1) ∧ lnkB 12 false 405 (.iaload, 1, 1, 0, 0, 0) = true := by decide +kernel
theorem ck_127_406 : decode code 406 = .ok (.ifCond .eq 7, 3) ∧ lnkB 12 false 406 (.ifCond .eq 7, 3, 413, 0, 0, 0) = true := by decide +kernel
theorem ck_127_410 : decode code 410 = .ok (.goto 4, 3) ∧ lnkB 12 false 410 (.goto 4, 3, 414, 0, 0, 0) = true := by decide +kernel
theorem ck_127_414 : decode code 414 = .ok (.invokevirtual 33, 3) ∧ lnkB 12 false 414 (.invokevirtual 33, 3, 61, 0, 0, 0) = true := by decide +kernel
theorem ca_127_422 : decode code 422 = .ok (.iaload, 1) ∧ lnkB 12 false 422 (.iaload, 1, 1, 0, 0, 0) = true := by decide +kernel
theorem ca_127_427 : decode code 427 = .ok (.iaload, 1) ∧ lnkB 12 false 427 (.iaload, 1, 1, 0, 0, 0) = true := by decide +kernel
theorem ca_127_432 : decode code 432 = .ok (.iaload, 1) ∧ lnkB 12 false 432 (.iaload, 1, 1, 0, 0, 0) = true := by decide +kernel
theorem ck_127_433 : decode code 433 = .ok (.ifCond .eq 7, 3) ∧ lnkB 12 false 433 (.ifCond .eq 7, 3, 440, 0, 0, 0) = true := by decide +kernel
theorem ck_127_437 : decode code 437 = .ok (.goto 4, 3) ∧ lnkB 12 false 437 (.goto 4, 3, 441, 0, 0, 0) = true := by decide +kernel
theorem ck_127_441 : decode code 441 = .ok (.invokevirtual 37, 3) ∧ lnkB 12 false 441 (.invokevirtual 37, 3, 85, 0, 0, 0) = true := by decide +kernel
theorem ck_127_444 : decode code 444 = .ok (.if_icmp .eq 570, 3) ∧ lnkB 12 false 444 (.if_icmp .eq 570, 3, 1014, 0, 0, 0) = true := by decide +kernel
theorem ck_127_448 : decode code 448 = .ok (.ireturn, 1) ∧ lnkB 12 false 448 (.ireturn, 1, 0, 0, 0, 0) = true := by decide +kernel
theorem ca_127_454 : decode code 454 = .ok (.iaload, 1) ∧ lnkB 12 false 454 (.iaload, 1, 1, 0, 0, 0) = true := by decide +kernel
theorem ca_127_459 : decode code 459 = .ok (.iaload, 1) ∧ lnkB 12 false 459 (.iaload, 1, 1, 0, 0, 0) = true := by decide +kernel
theorem ca_127_464 : decode code 464 = .ok (.iaload, 1) ∧ lnkB 12 false 464 (.iaload, 1, 1, 0, 0, 0) = true := by decide +kernel
theorem ca_127_469 : decode code 469 = .ok (.iaload, 1) ∧ lnkB 12 false 469 (.iaload, 1, 1, 0, 0, 0) = true := by decide +kernel
theorem ck_127_470 : decode code 470 = .ok (.invokevirtual 38, 3) ∧ lnkB 12 false 470 (.invokevirtual 38, 3, 63, 0, 0, 0) = true := by decide +kernel
theorem ca_127_478 : decode code 478 = .ok (.iaload, 1) ∧ lnkB 12 false 478 (.iaload, 1, 1, 0, 0, 0) = true := by decide +kernel
theorem ca_127_483 : decode code 483 = .ok (.iaload, 1) ∧ lnkB 12 false 483 (.iaload, 1, 1, 0, 0, 0) = true := by decide +kernel
theorem ca_127_488 : decode code 488 = .ok (.iaload, 1) ∧ lnkB 12 false 488 (.iaload, 1, 1, 0, 0, 0) = true := by decide +kernel
theorem ca_127_493 : decode code 493 = .ok (.iaload, 1) ∧ lnkB 12 false 493 (.iaload, 1, 1, 0, 0, 0) = true := by decide +kernel
theorem ck_127_494 : decode code 494 = .ok (.invokevirtual 41, 3) ∧ lnkB 12 false 494 (.invokevirtual 41, 3, 87, 0, 0, 0) = true := by decide +kernel
theorem ck_127_497 : decode code 497 = .ok (.if_icmp .eq 517, 3) ∧ lnkB 12 false 497 (.if_icmp .eq 517, 3, 1014, 0, 0, 0) = true := by decide +kernel
theorem ck_127_501 : decode code 501 = .ok (.ireturn, 1) ∧ lnkB 12 false 501 (.ireturn, 1, 0, 0, 0, 0) = true := by decide +kernel
theorem ca_127_507 : decode code 507 = .ok (.iaload, 1) ∧ lnkB 12 false 507 (.iaload, 1, 1, 0, 0, 0) = true := by decide +kernel
theorem ca_127_512 : decode code 512 = .ok (.iaload, 1) ∧ lnkB 12 false 512 (.iaload, 1, 1, 0, 0, 0) = true := by decide +kernel
theorem ca_127_517 : decode code 517 = .ok (.iaload, 1) ∧ lnkB 12 false 517 (.iaload, 1, 1, 0, 0, 0) = true := by decide +kernel
theorem ca_127_522 : decode code 522 = .ok (.iaload, 1) ∧ lnkB 12 false 522 (.iaload, 1, 1, 0, 0, 0) = true := by decide +kernel
theorem ck_127_523 : decode code 523 = .ok (.invokevirtual 42, 3) ∧ lnkB 12 false 523 (.invokevirtual 42, 3, 65, 0, 0, 0) = true := by decide +kernel
theorem ca_127_531 : decode code 531 = .ok (.iaload, 1) ∧ lnkB 12 false 531 (.iaload, 1, 1, 0, 0, 0) = true := by decide +kernel
theorem ca_127_536 : decode code 536 = .ok (.iaload, 1) ∧ lnkB 12 false 536 (.iaload, 1, 1, 0, 0, 0) = true := by decide +kernel
theorem ca_127_541 : decode code 541 = .ok (.iaload, 1) ∧ lnkB 12 false 541 (.iaload, 1, 1, 0, 0, 0) = true := by decide +kernel
theorem ca_127_546 : decode code 546 = .ok (.iaload, 1) ∧ lnkB 12 false 546 (.iaload, 1, 1, 0, 0, 0) = true := by decide +kernel
theorem ck_127_547 : decode code 547 = .ok (.invokevirtual 45, 3) ∧ lnkB 12 false 547 (.invokevirtual 45, 3, 88, 0, 0, 0) = true := by decide +kernel
theorem ck_127_550 : decode code 550 = .ok (.if_icmp .eq 464, 3) ∧ lnkB 12 false 550 (.if_icmp .eq 464, 3, 1014, 0, 0, 0) = true := by decide +kernel
theorem ck_127_554 : decode code 554 = .ok (.ireturn, 1) ∧ lnkB 12 false 554 (.ireturn, 1, 0, 0, 0, 0) = true := by decide +kernel
theorem ca_127_560 : decode code 560 = .ok (.iaload, 1) ∧ lnkB 12 false 560 (.iaload, 1, 1, 0, 0, 0) = true := by decide +kernel
theorem ca_127_565 : decode code 565 = .ok (.iaload, 1) ∧ lnkB 12 false 565 (.iaload, 1, 1, 0, 0, 0) = true := by decide +kernel
theorem ca_127_570 : decode code 570 = .ok (.iaload, 1) ∧ lnkB 12 false 570 (.iaload, 1, 1, 0, 0, 0) = true := by decide +kernel
theorem ca_127_575 : decode code 575 = .ok (.iaload, 1) ∧ lnkB 12 false 575 (.iaload, 1, 1, 0, 0, 0) = true := by decide +kernel
theorem ca_127_580 : decode code 580 = .ok (.iaload, 1) ∧ lnkB 12 false 580 (.iaload, 1, 1, 0, 0, 0) = true := by decide +kernel
theorem ck_127_581 : decode code 581 = .ok (.invokevirtual 46, 3) ∧ lnkB 12 false 581 (.invokevirtual 46, 3, 66, 0, 0, 0) = true := by decide +kernel
theorem ca_127_589 : decode code 589 = .ok (.iaload, 1) ∧ lnkB 12 false 589 (.iaload, 1, 1, 0, 0, 0) = true := by decide +kernel
theorem ca_127_594 : decode code 594 = .ok (.iaload, 1) ∧ lnkB 12 false 594 (.iaload, 1, 1, 0, 0, 0) = true := by decide +kernel
theorem ca_127_599 : decode code 599 = .ok (.iaload, 1) ∧ lnkB 12 false 599 (.iaload, 1, 1, 0, 0, 0) = true := by decide +kernel
theorem ca_127_604 : decode code 604 = .ok (.iaload, 1) ∧ lnkB 12 false 604 (.iaload, 1, 1, 0, 0, 0) = true := by decide +kernel
theorem ca_127_609 : decode code 609 = .ok (.iaload, 1) ∧ lnkB 12 false 609 (.iaload, 1, 1, 0, 0, 0) = true := by decide +kernel
theorem ck_127_610 : decode code 610 = .ok (.invokevirtual 50, 3) ∧ lnkB 12 false 610 (.invokevirtual 50, 3, 89, 0, 0, 0) = true := by decide +kernel
theorem ck_127_613 : decode code 613 = .ok (.if_icmp .eq 401, 3) ∧ lnkB 12 false 613 (.if_icmp .eq 401, 3, 1014, 0, 0, 0) = true := by decide +kernel
theorem ck_127_617 : decode code 617 = .ok (.ireturn, 1) ∧ lnkB 12 false 617 (.ireturn, 1, 0, 0, 0, 0) = true := by decide +kernel
theorem ca_127_623 : decode code 623 = .ok (.iaload, 1) ∧ lnkB 12 false 623 (.iaload, 1, 1, 0, 0, 0) = true := by decide +kernel
theorem ca_127_628 : decode code 628 = .ok (.iaload, 1) ∧ lnkB 12 false 628 (.iaload, 1, 1, 0, 0, 0) = true := by decide +kernel
theorem ca_127_633 : decode code 633 = .ok (.iaload, 1) ∧ lnkB 12 false 633 (.iaload, 1, 1, 0, 0, 0) = true := by decide +kernel
theorem ca_127_638 : decode code 638 = .ok (.iaload, 1) ∧ lnkB 12 false 638 (.iaload, 1, 1, 0, 0, 0) = true := by decide +kernel
theorem ck_127_639 : decode code 639 = .ok (.invokevirtual 51, 3) ∧ lnkB 12 false 639 (.invokevirtual 51, 3, 67, 0, 0, 0) = true := by decide +kernel
theorem ca_127_647 : decode code 647 = .ok (.iaload, 1) ∧ lnkB 12 false 647 (.iaload, 1, 1, 0, 0, 0) = true := by decide +kernel
theorem ca_127_652 : decode code 652 = .ok (.iaload, 1) ∧ lnkB 12 false 652 (.iaload, 1, 1, 0, 0, 0) = true := by decide +kernel
theorem ca_127_657 : decode code 657 = .ok (.iaload, 1) ∧ lnkB 12 false 657 (.iaload, 1, 1, 0, 0, 0) = true := by decide +kernel
theorem ca_127_662 : decode code 662 = .ok (.iaload, 1) ∧ lnkB 12 false 662 (.iaload, 1, 1, 0, 0, 0) = true := by decide +kernel
theorem ck_127_663 : decode code 663 = .ok (.invokevirtual 54, 3) ∧ lnkB 12 false 663 (.invokevirtual 54, 3, 90, 0, 0, 0) = true := by decide +kernel
theorem ck_127_666 : decode code 666 = .ok (.if_icmp .eq 348, 3) ∧ lnkB 12 false 666 (.if_icmp .eq 348, 3, 1014, 0, 0, 0) = true := by decide +kernel
theorem ck_127_670 : decode code 670 = .ok (.ireturn, 1) ∧ lnkB 12 false 670 (.ireturn, 1, 0, 0, 0, 0) = true := by decide +kernel
theorem ca_127_676 : decode code 676 = .ok (.iaload, 1) ∧ lnkB 12 false 676 (.iaload, 1, 1, 0, 0, 0) = true := by decide +kernel
theorem ck_127_677 : decode code 677 = .ok (.invokevirtual 55, 3) ∧ lnkB 12 false 677 (.invokevirtual 55, 3, 68, 0, 0, 0) = true := by decide +kernel
theorem ca_127_685 : decode code 685 = .ok (.iaload, 1) ∧ lnkB 12 false 685 (.iaload, 1, 1, 0, 0, 0) = true := by decide +kernel
theorem ck_127_686 : decode code 686 = .ok (.invokevirtual 59, 3) ∧ lnkB 12 false 686 (.invokevirtual 59, 3, 91, 0, 0, 0) = true := by decide +kernel
theorem ck_127_689 : decode code 689 = .ok (.if_icmp .eq 325, 3) ∧ lnkB 12 false 689 (.if_icmp .eq 325, 3, 1014, 0, 0, 0) = true := by decide +kernel
theorem ck_127_693 : decode code 693 = .ok (.ireturn, 1) ∧ lnkB 12 false 693 (.ireturn, 1, 0, 0, 0, 0) = true := by decide +kernel
theorem ca_127_699 : decode code 699 = .ok (.iaload, 1) ∧ lnkB 12 false 699 (.iaload, 1, 1, 0, 0, 0) = true := by decide +kernel
theorem ca_127_704 : decode code 704 = .ok (.iaload, 1) ∧ lnkB 12 false 704 (.iaload, 1, 1, 0, 0, 0) = true := by decide +kernel
theorem ca_127_709 : decode code 709 = .ok (.iaload, 1) ∧ lnkB 12 false 709 (.iaload, 1, 1, 0, 0, 0) = true := by decide +kernel
theorem ca_127_714 : decode code 714 = .ok (.iaload, 1) ∧ lnkB 12 false 714 (.iaload, 1, 1, 0, 0, 0) = true := by decide +kernel
theorem ca_127_719 : decode code 719 = .ok (.iaload, 1) ∧ lnkB 12 false 719 (.iaload, 1, 1, 0, 0, 0) = true := by decide +kernel
theorem ck_127_720 : decode code 720 = .ok (.invokevirtual 60, 3) ∧ lnkB 12 false 720 (.invokevirtual 60, 3, 69, 0, 0, 0) = true := by decide +kernel
theorem ca_127_728 : decode code 728 = .ok (.iaload, 1) ∧ lnkB 12 false 728 (.iaload, 1, 1, 0, 0, 0) = true := by decide +kernel
theorem ca_127_733 : decode code 733 = .ok (.iaload, 1) ∧ lnkB 12 false 733 (.iaload, 1, 1, 0, 0, 0) = true := by decide +kernel
theorem ca_127_738 : decode code 738 = .ok (.iaload, 1) ∧ lnkB 12 false 738 (.iaload, 1, 1, 0, 0, 0) = true := by decide +kernel
theorem ca_127_743 : decode code 743 = .ok (.iaload, 1) ∧ lnkB 12 false 743 (.iaload, 1, 1, 0, 0, 0) = true := by decide +kernel
theorem ca_127_748 : decode code 748 = .ok (.iaload, 1) ∧ lnkB 12 false 748 (.iaload, 1, 1, 0, 0, 0) = true := by decide +kernel
theorem ck_127_749 : decode code 749 = .ok (.invokevirtual 64, 3) ∧ lnkB 12 false 749 (.invokevirtual 64, 3, 93, 0, 0, 0) = true := by decide +kernel
theorem ck_127_752 : decode code 752 = .ok (.if_icmp .eq 262, 3) ∧ lnkB 12 false 752 (.if_icmp .eq 262, 3, 1014, 0, 0, 0) = true := by decide +kernel
theorem ck_127_756 : decode code 756 = .ok (.ireturn, 1) ∧ lnkB 12 false 756 (.ireturn, 1, 0, 0, 0, 0) = true := by decide +kernel
theorem ca_127_762 : decode code 762 = .ok (.iaload, 1) ∧ lnkB 12 false 762 (.iaload, 1, 1, 0, 0, 0) = true := by decide +kernel
theorem ck_127_763 : decode code 763 = .ok (.invokevirtual 65, 3) ∧ lnkB 12 false 763 (.invokevirtual 65, 3, 70, 0, 0, 0) = true := by decide +kernel
theorem ca_127_771 : decode code 771 = .ok (.iaload, 1) ∧ lnkB 12 false 771 (.iaload, 1, 1, 0, 0, 0) = true := by decide +kernel
theorem ck_127_772 : decode code 772 = .ok (.invokevirtual 68, 3) ∧ lnkB 12 false 772 (.invokevirtual 68, 3, 95, 0, 0, 0) = true := by decide +kernel
theorem ck_127_775 : decode code 775 = .ok (.if_icmp .eq 239, 3) ∧ lnkB 12 false 775 (.if_icmp .eq 239, 3, 1014, 0, 0, 0) = true := by decide +kernel
theorem ck_127_779 : decode code 779 = .ok (.ireturn, 1) ∧ lnkB 12 false 779 (.ireturn, 1, 0, 0, 0, 0) = true := by decide +kernel
theorem ca_127_785 : decode code 785 = .ok (.iaload, 1) ∧ lnkB 12 false 785 (.iaload, 1, 1, 0, 0, 0) = true := by decide +kernel
theorem ca_127_790 : decode code 790 = .ok (.iaload, 1) ∧ lnkB 12 false 790 (.iaload, 1, 1, 0, 0, 0) = true := by decide +kernel
theorem ca_127_795 : decode code 795 = .ok (.iaload, 1) ∧ lnkB 12 false 795 (.iaload, 1, 1, 0, 0, 0) = true := by decide +kernel
theorem ca_127_800 : decode code 800 = .ok (.iaload, 1) ∧ lnkB 12 false 800 (.iaload, 1, 1, 0, 0, 0) = true := by decide +kernel
theorem ck_127_801 : decode code 801 = .ok (.invokevirtual 69, 3) ∧ lnkB 12 false 801 (.invokevirtual 69, 3, 71, 0, 0, 0) = true := by decide +kernel
theorem ca_127_809 : decode code 809 = .ok (.iaload, 1) ∧ lnkB 12 false 809 (.iaload, 1, 1, 0, 0, 0) = true := by decide +kernel
theorem ca_127_814 : decode code 814 = .ok (.iaload, 1) ∧ lnkB 12 false 814 (.iaload, 1, 1, 0, 0, 0) = true := by decide +kernel
theorem ca_127_819 : decode code 819 = .ok (.iaload, 1) ∧ lnkB 12 false 819 (.iaload, 1, 1, 0, 0, 0) = true := by decide +kernel
theorem ca_127_824 : decode code 824 = .ok (.iaload, 1) ∧ lnkB 12 false 824 (.iaload, 1, 1, 0, 0, 0) = true := by decide +kernel
theorem ck_127_825 : decode code 825 = .ok (.invokevirtual 73, 3) ∧ lnkB 12 false 825 (.invokevirtual 73, 3, 102, 0, 0, 0) = true := by decide +kernel
theorem ck_127_828 : decode code 828 = .ok (.if_icmp .eq 186, 3) ∧ lnkB 12 false 828 (.if_icmp .eq 186, 3, 1014, 0, 0, 0) = true := by decide +kernel
theorem ck_127_832 : decode code 832 = .ok (.ireturn, 1) ∧ lnkB 12 false 832 (.ireturn, 1, 0, 0, 0, 0) = true := by decide +kernel
theorem ca_127_838 : decode code 838 = .ok (.iaload, 1) ∧ lnkB 12 false 838 (.iaload, 1, 1, 0, 0, 0) = true := by decide +kernel
theorem ck_127_839 : decode code 839 = .ok (.invokevirtual 74, 3) ∧ lnkB 12 false 839 (.invokevirtual 74, 3, 72, 0, 0, 0) = true := by decide +kernel
theorem ca_127_847 : decode code 847 = .ok (.iaload, 1) ∧ lnkB 12 false 847 (.iaload, 1, 1, 0, 0, 0) = true := by decide +kernel
theorem ck_127_848 : decode code 848 = .ok (.invokevirtual 77, 3) ∧ lnkB 12 false 848 (.invokevirtual 77, 3, 96, 0, 0, 0) = true := by decide +kernel
theorem ck_127_851 : decode code 851 = .ok (.if_icmp .eq 163, 3) ∧ lnkB 12 false 851 (.if_icmp .eq 163, 3, 1014, 0, 0, 0) = true := by decide +kernel
theorem ck_127_855 : decode code 855 = .ok (.ireturn, 1) ∧ lnkB 12 false 855 (.ireturn, 1, 0, 0, 0, 0) = true := by decide +kernel
theorem ck_127_857 : decode code 857 = .ok (.invokevirtual 78, 3) ∧ lnkB 12 false 857 (.invokevirtual 78, 3, 73, 0, 0, 0) = true := by decide +kernel
theorem ck_127_861 : decode code 861 = .ok (.invokevirtual 82, 3) ∧ lnkB 12 false 861 (.invokevirtual 82, 3, 121, 0, 0, 0) = true := by decide +kernel
theorem ck_127_864 : decode code 864 = .ok (.if_icmp .eq 150, 3) ∧ lnkB 12 false 864 (.if_icmp .eq 150, 3, 1014, 0, 0, 0) = true := by decide +kernel
theorem ck_127_868 : decode code 868 = .ok (.ireturn, 1) ∧ lnkB 12 false 868 (.ireturn, 1, 0, 0, 0, 0) = true := by decide +kernel
theorem ca_127_874 : decode code 874 = .ok (.iaload, 1) ∧ lnkB 12 false 874 (.iaload, 1, 1, 0, 0, 0) = true := by decide +kernel
theorem ck_127_875 : decode code 875 = .ok (.invokevirtual 83, 3) ∧ lnkB 12 false 875 (.invokevirtual 83, 3, 74, 0, 0, 0) = true := by decide +kernel
theorem ca_127_883 : decode code 883 = .ok (.iaload, 1) ∧ lnkB 12 false 883 (.iaload, 1, 1, 0, 0, 0) = true := by decide +kernel
theorem ck_127_884 : decode code 884 = .ok (.invokevirtual 86, 3) ∧ lnkB 12 false 884 (.invokevirtual 86, 3, 122, 0, 0, 0) = true := by decide +kernel
theorem ck_127_887 : decode code 887 = .ok (.if_icmp .eq 127, 3) ∧ lnkB 12 false 887 (.if_icmp .eq 127, 3, 1014, 0, 0, 0) = true := by decide +kernel
theorem ck_127_891 : decode code 891 = .ok (.ireturn, 1) ∧ lnkB 12 false 891 (.ireturn, 1, 0, 0, 0, 0) = true := by decide +kernel
theorem ca_127_897 : decode code 897 = .ok (.iaload, 1) ∧ lnkB 12 false 897 (.iaload, 1, 1, 0, 0, 0) = true := by decide +kernel
theorem ca_127_902 : decode code 902 = .ok (.iaload, 1) ∧ lnkB 12 false 902 (.iaload, 1, 1, 0, 0, 0) = true := by decide +kernel
theorem ck_127_903 : decode code 903 = .ok (.invokevirtual 87, 3) ∧ lnkB 12 false 903 (.invokevirtual 87, 3, 75, 0, 0, 0) = true := by decide +kernel
theorem ca_127_911 : decode code 911 = .ok (.iaload, 1) ∧ lnkB 12 false 911 (.iaload, 1, 1, 0, 0, 0) = true := by decide +kernel
theorem ca_127_916 : decode code 916 = .ok (.iaload, 1) ∧ lnkB 12 false 916 (.iaload, 1, 1, 0, 0, 0) = true := by decide +kernel
theorem ck_127_917 : decode code 917 = .ok (.invokevirtual 91, 3) ∧ lnkB 12 false 917 (.invokevirtual 91, 3, 123, 0, 0, 0) = true := by decide +kernel
theorem ck_127_920 : decode code 920 = .ok (.if_icmp .eq 94, 3) ∧ lnkB 12 false 920 (.if_icmp .eq 94, 3, 1014, 0, 0, 0) = true := by decide +kernel
theorem ck_127_924 : decode code 924 = .ok (.ireturn, 1) ∧ lnkB 12 false 924 (.ireturn, 1, 0, 0, 0, 0) = true := by decide +kernel
theorem ca_127_930 : decode code 930 = .ok (.iaload, 1) ∧ lnkB 12 false 930 (.iaload, 1, 1, 0, 0, 0) = true := by decide +kernel
theorem ca_127_935 : decode code 935 = .ok (.iaload, 1) ∧ lnkB 12 false 935 (.iaload, 1, 1, 0, 0, 0) = true := by decide +kernel
theorem ck_127_936 : decode code 936 = .ok (.invokevirtual 92, 3) ∧ lnkB 12 false 936 (.invokevirtual 92, 3, 76, 0, 0, 0) = true := by decide +kernel
theorem ca_127_944 : decode code 944 = .ok (.iaload, 1) ∧ lnkB 12 false 944 (.iaload, 1, 1, 0, 0, 0) = true := by decide +kernel
theorem ca_127_949 : decode code 949 = .ok (.iaload, 1) ∧ lnkB 12 false 949 (.iaload, 1, 1, 0, 0, 0) = true := by decide +kernel
theorem ck_127_950 : decode code 950 = .ok (.invokevirtual 95, 3) ∧ lnkB 12 false 950 (.invokevirtual 95, 3, 124, 0, 0, 0) = true := by decide +kernel
theorem ck_127_953 : decode code 953 = .ok (.if_icmp .eq 61, 3) ∧ lnkB 12 false 953 (.if_icmp .eq 61, 3, 1014, 0, 0, 0) = true := by decide +kernel
theorem ck_127_957 : decode code 957 = .ok (.ireturn, 1) ∧ lnkB 12 false 957 (.ireturn, 1, 0, 0, 0, 0) = true := by decide +kernel
theorem ca_127_963 : decode code 963 = .ok (.iaload, 1) ∧ lnkB 12 false 963 (.iaload, 1, 1, 0, 0, 0) = true := by decide +kernel
theorem ca_127_968 : decode code 968 = .ok (.iaload, 1) ∧ lnkB 12 false 968 (.iaload, 1, 1, 0, 0, 0) = true := by decide +kernel
theorem ck_127_969 : decode code 969 = .ok (.invokevirtual 96, 3) ∧ lnkB 12 false 969 (.invokevirtual 96, 3, 77, 0, 0, 0) = true := by decide +kernel
theorem ca_127_977 : decode code 977 = .ok (.iaload, 1) ∧ lnkB 12 false 977 (.iaload, 1, 1, 0, 0, 0) = true := by decide +kernel
theorem ca_127_982 : decode code 982 = .ok (.iaload, 1) ∧ lnkB 12 false 982 (.iaload, 1, 1, 0, 0, 0) = true := by decide +kernel
theorem ck_127_983 : decode code 983 = .ok (.invokevirtual 99, 3) ∧ lnkB 12 false 983 (.invokevirtual 99, 3, 125, 0, 0, 0) = true := by decide +kernel
theorem ck_127_986 : decode code 986 = .ok (.if_icmp .eq 28, 3) ∧ lnkB 12 false 986 (.if_icmp .eq 28, 3, 1014, 0, 0, 0) = true := by decide +kernel
theorem ck_127_990 : decode code 990 = .ok (.ireturn, 1) ∧ lnkB 12 false 990 (.ireturn, 1, 0, 0, 0, 0) = true := by decide +kernel
theorem ca_127_996 : decode code 996 = .ok (.iaload, 1) ∧ lnkB 12 false 996 (.iaload, 1, 1, 0, 0, 0) = true := by decide +kernel
theorem ck_127_997 : decode code 997 = .ok (.invokevirtual 100, 3) ∧ lnkB 12 false 997 (.invokevirtual 100, 3, 78, 0, 0, 0) = true := by decide +kernel
theorem ca_127_1005 : decode code 1005 = .ok (.iaload, 1) ∧ lnkB 12 false 1005 (.iaload, 1, 1, 0, 0, 0) = true := by decide +kernel
theorem ck_127_1006 : decode code 1006 = .ok (.invokevirtual 103, 3) ∧ lnkB 12 false 1006 (.invokevirtual 103, 3, 126, 0, 0, 0) = true := by decide +kernel
theorem ck_127_1009 : decode code 1009 = .ok (.if_icmp .eq 5, 3) ∧ lnkB 12 false 1009 (.if_icmp .eq 5, 3, 1014, 0, 0, 0) = true := by decide +kernel
theorem ck_127_1013 : decode code 1013 = .ok (.ireturn, 1) ∧ lnkB 12 false 1013 (.ireturn, 1, 0, 0, 0, 0) = true := by decide +kernel
theorem ck_127_1017 : decode code 1017 = .ok (.goto (-999), 3) ∧ lnkB 12 false 1017 (.goto (-999), 3, 18, 0, 0, 0) = true := by decide +kernel
theorem ck_127_1021 : decode code 1021 = .ok (.ireturn, 1) ∧ lnkB 12 false 1021 (.ireturn, 1, 0, 0, 0, 0) = true := by decide +kernel
def sg_130_0 : List RI := [(.iconst 0, 1, 0, 0, 0, 0), (.istore_n 2, 1, 0, 0, 0, 0), (.aload_n 0, 1, 0, 0, 0, 0), (.arraylength, 1, 0, 0, 0, 0), (.istore_n 3, 1, 0, 0, 0, 0)]
theorem sk_130_0 : segB 14 false prog_15_method_103_code 0 sg_130_0 = true := by decide +kernel
def sg_130_5 : List RI := [(.iload_n 2, 1, 0, 0, 0, 0), (.iload_n 3, 1, 0, 0, 0, 0)]
theorem sk_130_5 : segB 14 false prog_15_method_103_code 5 sg_130_5 = true := by decide +kernel
def sg_130_10 : List RI := [(.aload_n 0, 1, 0, 0, 0, 0), (.iload_n 2, 1, 0, 0, 0, 0), (.iload_n 1, 1, 0, 0, 0, 0)]
theorem sk_130_10 : segB 14 false prog_15_method_103_code 10 sg_130_10 = true := by decide +kernel
def sg_130_14 : List RI := [(.iinc 2 1, 3, 0, 0, 0, 1)]
theorem sk_130_14 : segB 14 false prog_15_method_103_code 14 sg_130_14 = true := by decide +kernel
theorem ck_130_7 : decode prog_15_method_103_code 7 = .ok (.if_icmp .ge 13, 3) ∧ lnkB 14 false 7 (.if_icmp .ge 13, 3, 20, 0, 0, 0) = true := by decide +kernel
theorem ca_130_13 : decode prog_15_method_103_code 13 = .ok (.iastore, 1) ∧ lnkB 14 false 13 (.iastore, 1, 0, 0, 0, 0) = true := by decide +kernel
theorem ck_130_17 : decode prog_15_method_103_code 17 = .ok (.goto (-12), 3) ∧ lnkB 14 false 17 (.goto (-12), 3, 5, 0, 0, 0) = true := by decide +kernel
theorem ck_130_20 : decode prog_15_method_103_code 20 = .ok (.return_, 1) ∧ lnkB 14 false 20 (.return_, 1, 0, 0, 0, 0) = true := by decide +kernel
abbrev RU_130 (d : Nat) (cp : Nat × Nat) (Post : Option Value → Sto → Prop) : PP := Runs (Ex d) prog_15_method_103_code 14 false 4 none none cp Post
theorem en_130 {d : Nat} {As : List Value} {S : Sto} {mc ms : Nat} {Post : Option Value → Sto → Prop} (hc : cats As ≤ 4) (h : RU_130 d (mc, ms) Post 0 (lv_args 0 As) [] S 0 0) : Ex (d + 1) 130 As S mc ms Post := ⟨by decide, hc, h⟩
end
section
/-! ===== the world behind the constructors ===== -/
def kd0 : List (Nat × Nat) := [(10, 10), (1, 5), (13, 4), (13, 4), (13, 4), (13, 4), (3, 5), (16, 5), (13, 20), (13, 20), (13, 20), (2, 9), (2, 9), (2, 9), (2, 9), (2, 9), (6, 13), (13, 6), (13, 6), (13, 6), (13, 24), (13, 24), (13, 24), (15, 24), (15, 192), (13, 192), (13, 768), (13, 768), (13, 768), (13, 768), (7, 2), (13, 200), (9, 8), (13, 20), (13, 20), (13, 20), (13, 20), (13, 20), (13, 120), (13, 120), (4, 8), (13, 5), (0, 10), (13, 192), (13, 192), (13, 192), (13, 192), (13, 192), (13, 192), (13, 192), (5, 12), (13, 192), (13, 192), (13, 192), (13, 5), (8, 6), (13, 3500), (11, 62), (13, 5), (13, 5), (13, 5), (13, 5), (13, 5), (13, 5), (13, 5), (13, 5), (13, 20), (13, 20), (13, 20), (13, 6), (13, 6), (13, 6), (13, 24), (13, 24), (13, 24), (15, 24), (15, 192), (13, 768), (13, 768), (13, 768), (13, 768), (13, 192), (13, 4), (13, 4), (13, 4), (13, 4), (12, 200), (13, 20), (13, 20), (13, 20), (13, 120), (13, 120), (14, 20), (13, 5), (13, 192), (13, 192), (15, 3840), (13, 192), (13, 192), (13, 192), (13, 192), (13, 192), (13, 192), (13, 1536), (13, 60000)]
def rhoL : List (List (Option Nat)) := [[some 1, some 6, some 16, some 30, some 32, some 40, some 42, some 50, some 55], [some 2, some 3, some 4, some 5], [], [], [], [], [some 7, none, some 8, some 9, some 10], [some 11, some 12, some 13, some 14, some 15], [], [], [], [], [], [], [], [], [some 17, some 18, some 19, some 20, some 21, some 22, some 23, some 24, some 25, some 26, some 27, some 28, some 29], [], [], [], [], [], [], [], [], [], [], [], [], [], [some 31], [], [some 33, some 34, some 35, some 36, some 37, some 38, some 39], [], [], [], [], [], [], [], [some 32, some 16, some 41], [], [some 43, some 44, some 45, some 46, some 47, none, none, some 48, some 49], [], [], [], [], [], [], [], [some 51, none, some 1, some 6, some 16, some 32, some 42, some 52, some 53, none, some 54], [], [], [], [], [some 56, none, some 16, some 32, some 51], [], [none, none, some 58, some 59, some 60, some 61, some 62, some 63, some 64, some 65, none, some 66, some 67, some 68, some 69, some 70, some 71, some 72, some 73, some 74, some 75, some 76, some 77, some 78, some 79, some 80, some 81, some 82, some 83, some 84, some 85, some 86, none, none, none, none, some 87, some 88, some 89, some 90, some 91, some 92, some 93, none, some 94, some 95, some 96, none, some 97, none, none, none, some 98, some 99, some 100, some 101, some 102, some 103, none, none, none, some 104], [], [], [], [], [], [], [], [], [], [], [], [], [], [], [], [], [], [], [], [], [], [], [], [], [], [], [], [], [], [], [], [], [], [], [], [], [], [], [], [], [], [], [], [], [], [], []]
def rho0 (k i : Nat) : Option Nat := (rhoL.getD k []).getD i none
abbrev stt (σ : Nat → Nat → Int32) (τ : Nat → Nat → Int64) : Sto := (kd0, σ, τ, rho0)
theorem rh_each {j : Nat} (h : j < 5) : rho0 7 j = some (11 + j) := by
  rcases (show j = 0 ∨ j = 1 ∨ j = 2 ∨ j = 3 ∨ j = 4 by omega) with rfl | rfl | rfl | rfl | rfl <;> rfl
theorem kd_help {j : Nat} (h : j < 5) : kd0[11 + j]? = some (2, 9) := by
  rcases (show j = 0 ∨ j = 1 ∨ j = 2 ∨ j = 3 ∨ j = 4 by omega) with rfl | rfl | rfl | rfl | rfl <;> rfl
theorem nl_0 : (0 : Int32) = nI 0 := rfl
theorem nl_1 : (1 : Int32) = nI 1 := rfl
theorem nl_2 : (2 : Int32) = nI 2 := rfl
theorem nl_3 : (3 : Int32) = nI 3 := rfl
theorem nl_4 : (4 : Int32) = nI 4 := rfl
theorem nl_5 : (5 : Int32) = nI 5 := rfl
theorem nl_6 : (6 : Int32) = nI 6 := rfl
theorem nl_8 : (8 : Int32) = nI 8 := rfl
theorem nl_10 : (10 : Int32) = nI 10 := rfl
theorem nl_20 : (20 : Int32) = nI 20 := rfl
theorem nl_31 : (31 : Int32) = nI 31 := rfl
theorem nl_32 : (32 : Int32) = nI 32 := rfl
theorem nl_192 : (192 : Int32) = nI 192 := rfl
end
section
/-! ===== ranges ===== -/
def rg (x : Int32) (a b : Nat) : Prop := ∃ j : Nat, a ≤ j ∧ j ≤ b ∧ x = nI j
theorem rg_of {x : Int32} {a b : Nat} (ha : a < 2147483648) (hb : b < 2147483648) (h1 : ¬ x < nI a) (h2 : x ≤ nI b) : rg x a b := by
  have h0 : ¬ x < 0 := by
    intro h
    apply h1
    rw [Int32.lt_iff_toInt_lt] at h ⊢
    rw [nI_toInt ha]
    have : (0 : Int32).toInt = 0 := rfl
    omega
  obtain ⟨j, hj, rfl⟩ := nI_of h0
  rw [nI_ltI hj ha] at h1
  rw [nI_leI hj hb] at h2
  exact ⟨j, by omega, h2, rfl⟩
theorem rg_no {x : Int32} {a b : Nat} (ha : a < 2147483648) (hb : b < 2147483648) (h : rg x a b) : ¬ x < nI a ∧ x ≤ nI b := by
  obtain ⟨j, h1, h2, rfl⟩ := h
  rw [nI_ltI (by omega) ha, nI_leI (by omega) hb]
  omega
set_option maxRecDepth 20000 in
theorem x_57 {d : Nat} {S : Sto} {x lo hi : Int32} {Post : Option Value → Sto → Prop} (h1 : ¬ x < lo → ¬ hi < x → Post (some (.int 1)) S) (h0 : x < lo ∨ hi < x → Post (some (.int 0)) S) : Ex (d + 1) 57 [.int x, .int lo, .int hi] S 0 0 Post := by
  refine en_57 (Nat.le_of_ble_eq_true rfl) ?_
  show RU_57 d (0, 0) Post 0 ([(0, .int x), (1, .int lo), (2, .int hi)]) ([]) S 0 0
  refine R_seg sg_57_0 sk_57_0 (pc' := 2) (lv' := [(0, .int x), (1, .int lo), (2, .int hi)]) (st' := [.int lo, .int x]) (S' := S) (kc' := 0) (ks' := 0) rfl ⟨trivial, trivial, trivial⟩ ?_
  refine R_icmp ck_57_2 (fun (c_2 : x < lo) => ?_) (fun (c_2 : ¬ x < lo) => ?_)
  · refine R_seg sg_57_14 sk_57_14 (pc' := 15) (lv' := [(0, .int x), (1, .int lo), (2, .int hi)]) (st' := [.int 0]) (S' := S) (kc' := 0) (ks' := 0) rfl ⟨trivial, trivial⟩ ?_
    refine R_iret ck_57_15 rfl rfl ?_
    first | exact h0 (Or.inl (by assumption)) | exact h0 (Or.inr (by assumption))
  · refine R_seg sg_57_5 sk_57_5 (pc' := 7) (lv' := [(0, .int x), (1, .int lo), (2, .int hi)]) (st' := [.int hi, .int x]) (S' := S) (kc' := 0) (ks' := 0) rfl ⟨trivial, trivial, trivial⟩ ?_
    refine R_icmp ck_57_7 (fun (c_7 : hi < x) => ?_) (fun (c_7 : ¬ hi < x) => ?_)
    · refine R_seg sg_57_14 sk_57_14 (pc' := 15) (lv' := [(0, .int x), (1, .int lo), (2, .int hi)]) (st' := [.int 0]) (S' := S) (kc' := 0) (ks' := 0) rfl ⟨trivial, trivial⟩ ?_
      refine R_iret ck_57_15 rfl rfl ?_
      first | exact h0 (Or.inl (by assumption)) | exact h0 (Or.inr (by assumption))
    · refine R_seg sg_57_10 sk_57_10 (pc' := 11) (lv' := [(0, .int x), (1, .int lo), (2, .int hi)]) (st' := [.int 1]) (S' := S) (kc' := 0) (ks' := 0) rfl ⟨trivial, trivial⟩ ?_
      refine R_goto ck_57_11 ?_
      refine R_iret ck_57_15 rfl rfl ?_
      exact h1 (by assumption) (by assumption)
theorem xn_57 {d : Nat} {S : Sto} {x : Int32} (a b : Nat) (ha : a < 2147483648) (hb : b < 2147483648) {Post : Option Value → Sto → Prop} (h1 : ∀ j : Nat, a ≤ j → j ≤ b → x = nI j → Post (some (.int 1)) S) (h0 : ¬ rg x a b → Post (some (.int 0)) S) : Ex (d + 1) 57 [.int x, .int (nI a), .int (nI b)] S 0 0 Post := by
  refine x_57 (fun q1 q2 => ?_) (fun q => ?_)
  · obtain ⟨j, j1, j2, j3⟩ := rg_of ha hb q1 (Int32.not_lt.mp q2)
    exact h1 j j1 j2 j3
  · refine h0 (fun h => ?_)
    have h2 := rg_no ha hb h
    rcases q with q | q
    · exact h2.1 q
    · exact absurd h2.2 (Int32.not_le.mpr q)
set_option maxRecDepth 20000 in
theorem x_81 {d : Nat} {S : Sto} {x lo hi : Int32} {Post : Option Value → Sto → Prop} (h1 : ¬ x < lo → ¬ hi < x → Post (some (.int 1)) S) (h0 : x < lo ∨ hi < x → Post (some (.int 0)) S) : Ex (d + 1) 81 [.int x, .int lo, .int hi] S 0 0 Post := by
  refine en_81 (Nat.le_of_ble_eq_true rfl) ?_
  show RU_81 d (0, 0) Post 0 ([(0, .int x), (1, .int lo), (2, .int hi)]) ([]) S 0 0
  refine R_seg sg_81_0 sk_81_0 (pc' := 2) (lv' := [(0, .int x), (1, .int lo), (2, .int hi)]) (st' := [.int lo, .int x]) (S' := S) (kc' := 0) (ks' := 0) rfl ⟨trivial, trivial, trivial⟩ ?_
  refine R_icmp ck_81_2 (fun (c_2 : x < lo) => ?_) (fun (c_2 : ¬ x < lo) => ?_)
  · refine R_seg sg_81_14 sk_81_14 (pc' := 15) (lv' := [(0, .int x), (1, .int lo), (2, .int hi)]) (st' := [.int 0]) (S' := S) (kc' := 0) (ks' := 0) rfl ⟨trivial, trivial⟩ ?_
    refine R_iret ck_81_15 rfl rfl ?_
    first | exact h0 (Or.inl (by assumption)) | exact h0 (Or.inr (by assumption))
  · refine R_seg sg_81_5 sk_81_5 (pc' := 7) (lv' := [(0, .int x), (1, .int lo), (2, .int hi)]) (st' := [.int hi, .int x]) (S' := S) (kc' := 0) (ks' := 0) rfl ⟨trivial, trivial, trivial⟩ ?_
    refine R_icmp ck_81_7 (fun (c_7 : hi < x) => ?_) (fun (c_7 : ¬ hi < x) => ?_)
    · refine R_seg sg_81_14 sk_81_14 (pc' := 15) (lv' := [(0, .int x), (1, .int lo), (2, .int hi)]) (st' := [.int 0]) (S' := S) (kc' := 0) (ks' := 0) rfl ⟨trivial, trivial⟩ ?_
      refine R_iret ck_81_15 rfl rfl ?_
      first | exact h0 (Or.inl (by assumption)) | exact h0 (Or.inr (by assumption))
    · refine R_seg sg_81_10 sk_81_10 (pc' := 11) (lv' := [(0, .int x), (1, .int lo), (2, .int hi)]) (st' := [.int 1]) (S' := S) (kc' := 0) (ks' := 0) rfl ⟨trivial, trivial⟩ ?_
      refine R_goto ck_81_11 ?_
      refine R_iret ck_81_15 rfl rfl ?_
      exact h1 (by assumption) (by assumption)
theorem xn_81 {d : Nat} {S : Sto} {x : Int32} (a b : Nat) (ha : a < 2147483648) (hb : b < 2147483648) {Post : Option Value → Sto → Prop} (h1 : ∀ j : Nat, a ≤ j → j ≤ b → x = nI j → Post (some (.int 1)) S) (h0 : ¬ rg x a b → Post (some (.int 0)) S) : Ex (d + 1) 81 [.int x, .int (nI a), .int (nI b)] S 0 0 Post := by
  refine x_81 (fun q1 q2 => ?_) (fun q => ?_)
  · obtain ⟨j, j1, j2, j3⟩ := rg_of ha hb q1 (Int32.not_lt.mp q2)
    exact h1 j j1 j2 j3
  · refine h0 (fun h => ?_)
    have h2 := rg_no ha hb h
    rcases q with q | q
    · exact h2.1 q
    · exact absurd h2.2 (Int32.not_le.mpr q)
set_option maxRecDepth 20000 in
theorem x_62 {d : Nat} {S : Sto} {x y : Int32} {Post : Option Value → Sto → Prop} (h1 : ∀ t k : Nat, t < 6 → k < 32 → x = nI t → y = nI k → Post (some (.int 1)) S) (h0 : ¬ (rg x 0 5 ∧ rg y 0 31) → Post (some (.int 0)) S) : Ex (d + 2) 62 [.int x, .int y] S 0 0 Post := by
  refine en_62 (Nat.le_of_ble_eq_true rfl) ?_
  show RU_62 (d + 1) (0, 0) Post 0 ([(0, .int x), (1, .int y)]) ([]) S 0 0
  refine R_seg sg_62_0 sk_62_0 (pc' := 3) (lv' := [(0, .int x), (1, .int y)]) (st' := [.int 5, .int 0, .int x]) (S' := S) (kc' := 0) (ks' := 0) rfl ⟨trivial, trivial, trivial, trivial⟩ ?_
  refine R_stat ck_62_3 (by decide) [.int x, .int 0, .int 5] 0 0 (r := []) rfl rfl (Nat.le_of_ble_eq_true rfl) (Nat.le_refl _) (Nat.le_refl _) ?_
  refine xn_57 (d := d) 0 5 (by omega) (by omega) (fun t l_t u_t e_t => ?_) (fun n_t => ?_)
  · subst e_t
    show RU_62 (d + 1) (0, 0) Post 6 ([(0, .int (nI t)), (1, .int y)]) ([.int 1]) S 0 0
    refine R_if ck_62_6 (fun c => absurd c (show ¬ (1 : Int32) = 0 from by decide)) (fun _ => ?_)
    refine R_seg sg_62_9 sk_62_9 (pc' := 13) (lv' := [(0, .int (nI t)), (1, .int y)]) (st' := [.int 31, .int 0, .int y]) (S' := S) (kc' := 0) (ks' := 0) rfl ⟨trivial, trivial, trivial, trivial⟩ ?_
    refine R_stat ck_62_13 (by decide) [.int y, .int 0, .int 31] 0 0 (r := []) rfl rfl (Nat.le_of_ble_eq_true rfl) (Nat.le_refl _) (Nat.le_refl _) ?_
    refine xn_57 (d := d) 0 31 (by omega) (by omega) (fun k l_k u_k e_k => ?_) (fun n_k => ?_)
    · subst e_k
      show RU_62 (d + 1) (0, 0) Post 16 ([(0, .int (nI t)), (1, .int (nI k))]) ([.int 1]) S 0 0
      refine R_if ck_62_16 (fun c => absurd c (show ¬ (1 : Int32) = 0 from by decide)) (fun _ => ?_)
      refine R_seg sg_62_19 sk_62_19 (pc' := 20) (lv' := [(0, .int (nI t)), (1, .int (nI k))]) (st' := [.int 1]) (S' := S) (kc' := 0) (ks' := 0) rfl ⟨trivial, trivial⟩ ?_
      refine R_goto ck_62_20 ?_
      refine R_iret ck_62_24 rfl rfl ?_
      exact h1 t k (by omega) (by omega) rfl rfl
    · show RU_62 (d + 1) (0, 0) Post 16 ([(0, .int (nI t)), (1, .int y)]) ([.int 0]) S 0 0
      refine R_if ck_62_16 (fun _ => ?_) (fun c => absurd (show (0 : Int32) = 0 from by decide) c)
      refine R_seg sg_62_23 sk_62_23 (pc' := 24) (lv' := [(0, .int (nI t)), (1, .int y)]) (st' := [.int 0]) (S' := S) (kc' := 0) (ks' := 0) rfl ⟨trivial, trivial⟩ ?_
      refine R_iret ck_62_24 rfl rfl ?_
      exact h0 (fun q => by first | exact n_t q.1 | exact n_k q.2)
  · show RU_62 (d + 1) (0, 0) Post 6 ([(0, .int x), (1, .int y)]) ([.int 0]) S 0 0
    refine R_if ck_62_6 (fun _ => ?_) (fun c => absurd (show (0 : Int32) = 0 from by decide) c)
    refine R_seg sg_62_23 sk_62_23 (pc' := 24) (lv' := [(0, .int x), (1, .int y)]) (st' := [.int 0]) (S' := S) (kc' := 0) (ks' := 0) rfl ⟨trivial, trivial⟩ ?_
    refine R_iret ck_62_24 rfl rfl ?_
    exact h0 (fun q => by first | exact n_t q.1 | exact n_k q.2)
set_option maxRecDepth 20000 in
theorem x_86 {d : Nat} {S : Sto} {x y : Int32} {Post : Option Value → Sto → Prop} (h1 : ∀ t k : Nat, t < 6 → k < 32 → x = nI t → y = nI k → Post (some (.int 1)) S) (h0 : ¬ (rg x 0 5 ∧ rg y 0 31) → Post (some (.int 0)) S) : Ex (d + 2) 86 [.int x, .int y] S 0 0 Post := by
  refine en_86 (Nat.le_of_ble_eq_true rfl) ?_
  show RU_86 (d + 1) (0, 0) Post 0 ([(0, .int x), (1, .int y)]) ([]) S 0 0
  refine R_seg sg_86_0 sk_86_0 (pc' := 3) (lv' := [(0, .int x), (1, .int y)]) (st' := [.int 5, .int 0, .int x]) (S' := S) (kc' := 0) (ks' := 0) rfl ⟨trivial, trivial, trivial, trivial⟩ ?_
  refine R_stat ck_86_3 (by decide) [.int x, .int 0, .int 5] 0 0 (r := []) rfl rfl (Nat.le_of_ble_eq_true rfl) (Nat.le_refl _) (Nat.le_refl _) ?_
  refine xn_81 (d := d) 0 5 (by omega) (by omega) (fun t l_t u_t e_t => ?_) (fun n_t => ?_)
  · subst e_t
    show RU_86 (d + 1) (0, 0) Post 6 ([(0, .int (nI t)), (1, .int y)]) ([.int 1]) S 0 0
    refine R_if ck_86_6 (fun c => absurd c (show ¬ (1 : Int32) = 0 from by decide)) (fun _ => ?_)
    refine R_seg sg_86_9 sk_86_9 (pc' := 13) (lv' := [(0, .int (nI t)), (1, .int y)]) (st' := [.int 31, .int 0, .int y]) (S' := S) (kc' := 0) (ks' := 0) rfl ⟨trivial, trivial, trivial, trivial⟩ ?_
    refine R_stat ck_86_13 (by decide) [.int y, .int 0, .int 31] 0 0 (r := []) rfl rfl (Nat.le_of_ble_eq_true rfl) (Nat.le_refl _) (Nat.le_refl _) ?_
    refine xn_81 (d := d) 0 31 (by omega) (by omega) (fun k l_k u_k e_k => ?_) (fun n_k => ?_)
    · subst e_k
      show RU_86 (d + 1) (0, 0) Post 16 ([(0, .int (nI t)), (1, .int (nI k))]) ([.int 1]) S 0 0
      refine R_if ck_86_16 (fun c => absurd c (show ¬ (1 : Int32) = 0 from by decide)) (fun _ => ?_)
      refine R_seg sg_86_19 sk_86_19 (pc' := 20) (lv' := [(0, .int (nI t)), (1, .int (nI k))]) (st' := [.int 1]) (S' := S) (kc' := 0) (ks' := 0) rfl ⟨trivial, trivial⟩ ?_
      refine R_goto ck_86_20 ?_
      refine R_iret ck_86_24 rfl rfl ?_
      exact h1 t k (by omega) (by omega) rfl rfl
    · show RU_86 (d + 1) (0, 0) Post 16 ([(0, .int (nI t)), (1, .int y)]) ([.int 0]) S 0 0
      refine R_if ck_86_16 (fun _ => ?_) (fun c => absurd (show (0 : Int32) = 0 from by decide) c)
      refine R_seg sg_86_23 sk_86_23 (pc' := 24) (lv' := [(0, .int (nI t)), (1, .int y)]) (st' := [.int 0]) (S' := S) (kc' := 0) (ks' := 0) rfl ⟨trivial, trivial⟩ ?_
      refine R_iret ck_86_24 rfl rfl ?_
      exact h0 (fun q => by first | exact n_t q.1 | exact n_k q.2)
  · show RU_86 (d + 1) (0, 0) Post 6 ([(0, .int x), (1, .int y)]) ([.int 0]) S 0 0
    refine R_if ck_86_6 (fun _ => ?_) (fun c => absurd (show (0 : Int32) = 0 from by decide) c)
    refine R_seg sg_86_23 sk_86_23 (pc' := 24) (lv' := [(0, .int x), (1, .int y)]) (st' := [.int 0]) (S' := S) (kc' := 0) (ks' := 0) rfl ⟨trivial, trivial⟩ ?_
    refine R_iret ck_86_24 rfl rfl ?_
    exact h0 (fun q => by first | exact n_t q.1 | exact n_k q.2)
theorem sw_out {x : Int32} {n : Nat} (hn : n < 2147483648) (h : ∀ j : Nat, j ≤ n → ¬ x = nI j) : x.toInt < 0 ∨ (n : Int) < x.toInt := by
  by_cases h0 : x < 0
  · left
    rw [Int32.lt_iff_toInt_lt] at h0
    exact h0
  · obtain ⟨j, hj, rfl⟩ := nI_of h0
    right
    rw [nI_toInt hj]
    by_cases hjn : j ≤ n
    · exact absurd rfl (h j hjn)
    · omega
theorem vz {x : Int32} (h : x = 0 ∨ x = 1) : vp_nar .boolean x = x := by rcases h with rfl | rfl <;> rfl
/-- a row of a cell is filled from a up to b -/
def fl2 (σ : Nat → Nat → Int32) (k a b : Nat) (v : Int32) : Nat → Nat → Int32 := fun k' => if k' = k then (fun i => if a ≤ i ∧ i < b then v else σ k i) else σ k'
theorem fl2_0 (σ : Nat → Nat → Int32) (k a : Nat) (v : Int32) : fl2 σ k a a v = σ := by
  funext k' i
  unfold fl2
  by_cases h : k' = k
  · rw [if_pos h, if_neg (by omega), h]
  · rw [if_neg h]
theorem fl2_s (σ : Nat → Nat → Int32) (k a b : Nat) (v : Int32) (h : a ≤ b) : up2 (fl2 σ k a b v) k b v = fl2 σ k a (b + 1) v := by
  funext k' i
  unfold up2 va_up fl2
  by_cases hk : k' = k
  · simp only [hk, if_true]
    by_cases hi : i = b
    · simp only [hi, if_true]
      rw [if_pos (by omega)]
    · simp only [hi, if_false]
      by_cases h2 : a ≤ i ∧ i < b
      · rw [if_pos h2, if_pos (by omega)]
      · rw [if_neg h2, if_neg (by omega)]
  · simp only [hk, if_false]
theorem xm_57 {d : Nat} {S : Sto} {x : Int32} (L : Nat) (hL : L < 2147483648) {Post : Option Value → Sto → Prop} (h1 : ∀ j : Nat, j < L → x = nI j → Post (some (.int 1)) S) (h0 : ¬ (∃ j : Nat, j < L ∧ x = nI j) → Post (some (.int 0)) S) : Ex (d + 1) 57 [.int x, .int 0, .int (nI L - 1)] S 0 0 Post := by
  have hm : (nI L - 1).toInt = (L : Int) - 1 := by
    cases L with
    | zero => rfl
    | succ n => rw [nI_pred, nI_toInt (by omega)]; omega
  refine x_57 (fun q1 q2 => ?_) (fun q => ?_)
  · obtain ⟨j, hj, rfl⟩ := nI_of q1
    rw [Int32.lt_iff_toInt_lt, hm, nI_toInt hj] at q2
    exact h1 j (by omega) rfl
  · refine h0 (fun h => ?_)
    obtain ⟨j, hj, rfl⟩ := h
    rcases q with q | q
    · exact nI_pos (by omega) q
    · rw [Int32.lt_iff_toInt_lt, hm, nI_toInt (by omega)] at q
      omega
theorem xm_81 {d : Nat} {S : Sto} {x : Int32} (L : Nat) (hL : L < 2147483648) {Post : Option Value → Sto → Prop} (h1 : ∀ j : Nat, j < L → x = nI j → Post (some (.int 1)) S) (h0 : ¬ (∃ j : Nat, j < L ∧ x = nI j) → Post (some (.int 0)) S) : Ex (d + 1) 81 [.int x, .int 0, .int (nI L - 1)] S 0 0 Post := by
  have hm : (nI L - 1).toInt = (L : Int) - 1 := by
    cases L with
    | zero => rfl
    | succ n => rw [nI_pred, nI_toInt (by omega)]; omega
  refine x_81 (fun q1 q2 => ?_) (fun q => ?_)
  · obtain ⟨j, hj, rfl⟩ := nI_of q1
    rw [Int32.lt_iff_toInt_lt, hm, nI_toInt hj] at q2
    exact h1 j (by omega) rfl
  · refine h0 (fun h => ?_)
    obtain ⟨j, hj, rfl⟩ := h
    rcases q with q | q
    · exact nI_pos (by omega) q
    · rw [Int32.lt_iff_toInt_lt, hm, nI_toInt (by omega)] at q
      omega
/-- how many of the first n have P -/
noncomputable def cntP (P : Nat → Prop) : Nat → Nat
  | 0 => 0
  | n + 1 => cntP P n + (@ite Nat (P n) (Classical.propDecidable _) 1 0)
theorem cntP_t {P : Nat → Prop} {n : Nat} (h : P n) : cntP P (n + 1) = cntP P n + 1 := by
  show cntP P n + (@ite Nat (P n) (Classical.propDecidable _) 1 0) = cntP P n + 1
  rw [if_pos h]
theorem cntP_f {P : Nat → Prop} {n : Nat} (h : ¬ P n) : cntP P (n + 1) = cntP P n := by
  show cntP P n + (@ite Nat (P n) (Classical.propDecidable _) 1 0) = cntP P n
  rw [if_neg h, Nat.add_zero]
theorem cntP_le (P : Nat → Prop) : ∀ n, cntP P n ≤ n
  | 0 => Nat.le_refl _
  | n + 1 => by
    have := cntP_le P n
    by_cases h : P n
    · rw [cntP_t h]; omega
    · rw [cntP_f h]; omega
theorem cntP_c {P Q : Nat → Prop} : ∀ n, (∀ i, i < n → (P i ↔ Q i)) → cntP P n = cntP Q n
  | 0, _ => rfl
  | n + 1, h => by
    have ih := cntP_c n (fun i hi => h i (by omega))
    by_cases hp : P n
    · rw [cntP_t hp, cntP_t ((h n (by omega)).mp hp), ih]
    · rw [cntP_f hp, cntP_f (fun q => hp ((h n (by omega)).mpr q)), ih]
theorem nk_10 : (10 : Int32) = nI 10 := rfl
theorem nk_60 : (60 : Int32) = nI 60 := rfl
theorem nk_180 : (180 : Int32) = nI 180 := rfl
theorem nk_192 : (192 : Int32) = nI 192 := rfl
theorem nk_200 : (200 : Int32) = nI 200 := rfl
theorem nk_255 : (255 : Int32) = nI 255 := rfl
theorem nk_100000 : (100000 : Int32) = nI 100000 := rfl
end
section
/-! ===== AnswerDoor: plain methods ===== -/
def h_close (σ : Nat → Nat → Int32) (k : Nat) : Nat → Nat → Int32 := up2 (up2 (up2 σ k 5 1) k 6 0) k 8 (-1)
set_option maxRecDepth 20000 in
theorem x_9 {d : Nat} {σ : Nat → Nat → Int32} {τ : Nat → Nat → Int64} {k : Nat} (hk : kd0[k]? = some (2, 9)) {Post : Option Value → Sto → Prop} (hp : Post none (stt (h_close σ k) τ)) : Ex (d + 1) 9 [.ref k] (stt σ τ) 0 0 Post := by
  refine en_9 (Nat.le_of_ble_eq_true rfl) ?_
  show RU_9 d (0, 0) Post 0 ([(0, .ref k)]) ([]) (stt σ τ) 0 0
  refine R_seg sg_9_0 sk_9_0 (pc' := 15) (lv' := [(0, .ref k)]) (st' := []) (S' := stt (up2 (up2 (up2 σ k 5 1) k 6 0) k 8 (-1)) τ) (kc' := 0) (ks' := 0) rfl ⟨trivial, trivial, ⟨hk, ⟨rfl, rfl⟩⟩, trivial, trivial, ⟨hk, ⟨rfl, rfl⟩⟩, trivial, trivial, ⟨hk, ⟨rfl, rfl⟩⟩, trivial⟩ ?_
  refine R_ret ck_9_15 rfl ?_
  exact hp
def c_helper (σ : Nat → Nat → Int32) (h dl bt rt fl wt : Nat) : Nat → Nat → Int32 := h_close (up2 (up2 (up2 (up2 (up2 σ (11 + h) 0 (nI dl)) (11 + h) 1 (nI bt)) (11 + h) 2 (nI rt)) (11 + h) 3 (nI fl)) (11 + h) 4 (nI wt)) (11 + h)
set_option maxRecDepth 20000 in
theorem x_56 {d : Nat} {σ : Nat → Nat → Int32} {τ : Nat → Nat → Int64} {x1 x2 x3 x4 x5 x6 : Int32} {Post : Option Value → Sto → Prop} (hs : ∀ h dl bt rt fl wt : Nat, h < 5 → 1 ≤ dl → dl ≤ 9 → 1 ≤ bt → bt ≤ 8 → 1 ≤ rt → rt ≤ 8 → fl ≤ 9 → 1 ≤ wt → wt ≤ 99 → x1 = nI h → x2 = nI dl → x3 = nI bt → x4 = nI rt → x5 = nI fl → x6 = nI wt → Post (some (.int 1)) (stt (c_helper σ h dl bt rt fl wt) τ)) (hf : ¬ (rg x1 0 4 ∧ rg x2 1 9 ∧ rg x3 1 8 ∧ rg x4 1 8 ∧ rg x5 0 9 ∧ rg x6 1 99) → Post (some (.int 0)) (stt σ τ)) : Ex (d + 2) 56 [.ref 0, .int x1, .int x2, .int x3, .int x4, .int x5, .int x6] (stt σ τ) 0 0 Post := by
  refine en_56 (Nat.le_of_ble_eq_true rfl) ?_
  show RU_56 (d + 1) (0, 0) Post 0 ([(0, .ref 0), (1, .int x1), (2, .int x2), (3, .int x3), (4, .int x4), (5, .int x5), (6, .int x6)]) ([]) (stt σ τ) 0 0
  refine R_seg sg_56_0 sk_56_0 (pc' := 3) (lv' := [(0, .ref 0), (1, .int x1), (2, .int x2), (3, .int x3), (4, .int x4), (5, .int x5), (6, .int x6)]) (st' := [.int 4, .int 0, .int x1]) (S' := stt σ τ) (kc' := 0) (ks' := 0) rfl ⟨trivial, trivial, trivial, trivial⟩ ?_
  refine R_stat ck_56_3 (by decide) [.int x1, .int 0, .int 4] 0 0 (r := []) rfl rfl (Nat.le_of_ble_eq_true rfl) (Nat.le_refl _) (Nat.le_refl _) ?_
  refine xn_57 (d := d) 0 4 (by omega) (by omega) (fun h l_h u_h e_h => ?_) (fun n_h => ?_)
  · subst e_h
    show RU_56 (d + 1) (0, 0) Post 6 ([(0, .ref 0), (1, .int (nI h)), (2, .int x2), (3, .int x3), (4, .int x4), (5, .int x5), (6, .int x6)]) ([.int 1]) (stt σ τ) 0 0
    refine R_if ck_56_6 (fun c => absurd c (show ¬ (1 : Int32) = 0 from by decide)) (fun _ => ?_)
    refine R_seg sg_56_9 sk_56_9 (pc' := 13) (lv' := [(0, .ref 0), (1, .int (nI h)), (2, .int x2), (3, .int x3), (4, .int x4), (5, .int x5), (6, .int x6)]) (st' := [.int 9, .int 1, .int x2]) (S' := stt σ τ) (kc' := 0) (ks' := 0) rfl ⟨trivial, trivial, trivial, trivial⟩ ?_
    refine R_stat ck_56_13 (by decide) [.int x2, .int 1, .int 9] 0 0 (r := []) rfl rfl (Nat.le_of_ble_eq_true rfl) (Nat.le_refl _) (Nat.le_refl _) ?_
    refine xn_57 (d := d) 1 9 (by omega) (by omega) (fun dl l_dl u_dl e_dl => ?_) (fun n_dl => ?_)
    · subst e_dl
      show RU_56 (d + 1) (0, 0) Post 16 ([(0, .ref 0), (1, .int (nI h)), (2, .int (nI dl)), (3, .int x3), (4, .int x4), (5, .int x5), (6, .int x6)]) ([.int 1]) (stt σ τ) 0 0
      refine R_if ck_56_16 (fun c => absurd c (show ¬ (1 : Int32) = 0 from by decide)) (fun _ => ?_)
      refine R_seg sg_56_19 sk_56_19 (pc' := 23) (lv' := [(0, .ref 0), (1, .int (nI h)), (2, .int (nI dl)), (3, .int x3), (4, .int x4), (5, .int x5), (6, .int x6)]) (st' := [.int 8, .int 1, .int x3]) (S' := stt σ τ) (kc' := 0) (ks' := 0) rfl ⟨trivial, trivial, trivial, trivial⟩ ?_
      refine R_stat ck_56_23 (by decide) [.int x3, .int 1, .int 8] 0 0 (r := []) rfl rfl (Nat.le_of_ble_eq_true rfl) (Nat.le_refl _) (Nat.le_refl _) ?_
      refine xn_57 (d := d) 1 8 (by omega) (by omega) (fun bt l_bt u_bt e_bt => ?_) (fun n_bt => ?_)
      · subst e_bt
        show RU_56 (d + 1) (0, 0) Post 26 ([(0, .ref 0), (1, .int (nI h)), (2, .int (nI dl)), (3, .int (nI bt)), (4, .int x4), (5, .int x5), (6, .int x6)]) ([.int 1]) (stt σ τ) 0 0
        refine R_if ck_56_26 (fun c => absurd c (show ¬ (1 : Int32) = 0 from by decide)) (fun _ => ?_)
        refine R_seg sg_56_29 sk_56_29 (pc' := 34) (lv' := [(0, .ref 0), (1, .int (nI h)), (2, .int (nI dl)), (3, .int (nI bt)), (4, .int x4), (5, .int x5), (6, .int x6)]) (st' := [.int 8, .int 1, .int x4]) (S' := stt σ τ) (kc' := 0) (ks' := 0) rfl ⟨trivial, trivial, trivial, trivial⟩ ?_
        refine R_stat ck_56_34 (by decide) [.int x4, .int 1, .int 8] 0 0 (r := []) rfl rfl (Nat.le_of_ble_eq_true rfl) (Nat.le_refl _) (Nat.le_refl _) ?_
        refine xn_57 (d := d) 1 8 (by omega) (by omega) (fun rt l_rt u_rt e_rt => ?_) (fun n_rt => ?_)
        · subst e_rt
          show RU_56 (d + 1) (0, 0) Post 37 ([(0, .ref 0), (1, .int (nI h)), (2, .int (nI dl)), (3, .int (nI bt)), (4, .int (nI rt)), (5, .int x5), (6, .int x6)]) ([.int 1]) (stt σ τ) 0 0
          refine R_if ck_56_37 (fun c => absurd c (show ¬ (1 : Int32) = 0 from by decide)) (fun _ => ?_)
          refine R_seg sg_56_40 sk_56_40 (pc' := 45) (lv' := [(0, .ref 0), (1, .int (nI h)), (2, .int (nI dl)), (3, .int (nI bt)), (4, .int (nI rt)), (5, .int x5), (6, .int x6)]) (st' := [.int 9, .int 0, .int x5]) (S' := stt σ τ) (kc' := 0) (ks' := 0) rfl ⟨trivial, trivial, trivial, trivial⟩ ?_
          refine R_stat ck_56_45 (by decide) [.int x5, .int 0, .int 9] 0 0 (r := []) rfl rfl (Nat.le_of_ble_eq_true rfl) (Nat.le_refl _) (Nat.le_refl _) ?_
          refine xn_57 (d := d) 0 9 (by omega) (by omega) (fun fl l_fl u_fl e_fl => ?_) (fun n_fl => ?_)
          · subst e_fl
            show RU_56 (d + 1) (0, 0) Post 48 ([(0, .ref 0), (1, .int (nI h)), (2, .int (nI dl)), (3, .int (nI bt)), (4, .int (nI rt)), (5, .int (nI fl)), (6, .int x6)]) ([.int 1]) (stt σ τ) 0 0
            refine R_if ck_56_48 (fun c => absurd c (show ¬ (1 : Int32) = 0 from by decide)) (fun _ => ?_)
            refine R_seg sg_56_51 sk_56_51 (pc' := 56) (lv' := [(0, .ref 0), (1, .int (nI h)), (2, .int (nI dl)), (3, .int (nI bt)), (4, .int (nI rt)), (5, .int (nI fl)), (6, .int x6)]) (st' := [.int 99, .int 1, .int x6]) (S' := stt σ τ) (kc' := 0) (ks' := 0) rfl ⟨trivial, trivial, trivial, trivial⟩ ?_
            refine R_stat ck_56_56 (by decide) [.int x6, .int 1, .int 99] 0 0 (r := []) rfl rfl (Nat.le_of_ble_eq_true rfl) (Nat.le_refl _) (Nat.le_refl _) ?_
            refine xn_57 (d := d) 1 99 (by omega) (by omega) (fun wt l_wt u_wt e_wt => ?_) (fun n_wt => ?_)
            · subst e_wt
              show RU_56 (d + 1) (0, 0) Post 59 ([(0, .ref 0), (1, .int (nI h)), (2, .int (nI dl)), (3, .int (nI bt)), (4, .int (nI rt)), (5, .int (nI fl)), (6, .int (nI wt))]) ([.int 1]) (stt σ τ) 0 0
              refine R_if ck_56_59 (fun _ => ?_) (fun c => absurd (show ¬ (1 : Int32) = 0 from by decide) c)
              refine R_seg sg_56_64 sk_56_64 (pc' := 72) (lv' := [(0, .ref 0), (1, .int (nI h)), (2, .int (nI dl)), (3, .int (nI bt)), (4, .int (nI rt)), (5, .int (nI fl)), (6, .int (nI wt))]) (st' := [.int (nI h), .ref 7]) (S' := stt σ τ) (kc' := 0) (ks' := 0) rfl ⟨trivial, rfl, rfl, trivial, trivial⟩ ?_
              refine R_aald ca_56_72 (j := h) (k' := 11 + h) rfl rfl (by omega) (rh_each (by omega)) ?_
              refine R_seg sg_56_73 sk_56_73 (pc' := 110) (lv' := [(7, .ref (11 + h)), (0, .ref 0), (1, .int (nI h)), (2, .int (nI dl)), (3, .int (nI bt)), (4, .int (nI rt)), (5, .int (nI fl)), (6, .int (nI wt))]) (st' := [.ref (11 + h)]) (S' := stt (up2 (up2 (up2 (up2 (up2 σ (11 + h) 0 (nI dl)) (11 + h) 1 (nI bt)) (11 + h) 2 (nI rt)) (11 + h) 3 (nI fl)) (11 + h) 4 (nI wt)) τ) (kc' := 0) (ks' := 0) rfl ⟨(by decide), trivial, trivial, ⟨(kd_help (by omega)), ⟨rfl, rfl⟩⟩, trivial, trivial, ⟨(kd_help (by omega)), ⟨rfl, rfl⟩⟩, trivial, trivial, ⟨(kd_help (by omega)), ⟨rfl, rfl⟩⟩, trivial, trivial, ⟨(kd_help (by omega)), ⟨rfl, rfl⟩⟩, trivial, trivial, ⟨(kd_help (by omega)), ⟨rfl, rfl⟩⟩, trivial, trivial⟩ ?_
              refine R_virt ck_56_110 (11 + h) [] 0 0 (r := []) rfl rfl (kd_help (by omega)) (Nat.le_of_ble_eq_true rfl) (Nat.le_refl _) (Nat.le_refl _) ?_
              refine x_9 (d := d) (kd_help (by omega)) ?_
              show RU_56 (d + 1) (0, 0) Post 113 ([(7, .ref (11 + h)), (0, .ref 0), (1, .int (nI h)), (2, .int (nI dl)), (3, .int (nI bt)), (4, .int (nI rt)), (5, .int (nI fl)), (6, .int (nI wt))]) ([]) (stt (h_close (up2 (up2 (up2 (up2 (up2 σ (11 + h) 0 (nI dl)) (11 + h) 1 (nI bt)) (11 + h) 2 (nI rt)) (11 + h) 3 (nI fl)) (11 + h) 4 (nI wt)) (11 + h)) τ) 0 0
              refine R_seg sg_56_113 sk_56_113 (pc' := 114) (lv' := [(7, .ref (11 + h)), (0, .ref 0), (1, .int (nI h)), (2, .int (nI dl)), (3, .int (nI bt)), (4, .int (nI rt)), (5, .int (nI fl)), (6, .int (nI wt))]) (st' := [.int 1]) (S' := stt (h_close (up2 (up2 (up2 (up2 (up2 σ (11 + h) 0 (nI dl)) (11 + h) 1 (nI bt)) (11 + h) 2 (nI rt)) (11 + h) 3 (nI fl)) (11 + h) 4 (nI wt)) (11 + h)) τ) (kc' := 0) (ks' := 0) rfl ⟨trivial, trivial⟩ ?_
              refine R_iret ck_56_114 rfl rfl ?_
              exact hs h dl bt rt fl wt (by omega) (by omega) (by omega) (by omega) (by omega) (by omega) (by omega) (by omega) (by omega) (by omega) rfl rfl rfl rfl rfl rfl
            · show RU_56 (d + 1) (0, 0) Post 59 ([(0, .ref 0), (1, .int (nI h)), (2, .int (nI dl)), (3, .int (nI bt)), (4, .int (nI rt)), (5, .int (nI fl)), (6, .int x6)]) ([.int 0]) (stt σ τ) 0 0
              refine R_if ck_56_59 (fun c => absurd c (show ¬ ¬ (0 : Int32) = 0 from by decide)) (fun _ => ?_)
              refine R_seg sg_56_62 sk_56_62 (pc' := 63) (lv' := [(0, .ref 0), (1, .int (nI h)), (2, .int (nI dl)), (3, .int (nI bt)), (4, .int (nI rt)), (5, .int (nI fl)), (6, .int x6)]) (st' := [.int 0]) (S' := stt σ τ) (kc' := 0) (ks' := 0) rfl ⟨trivial, trivial⟩ ?_
              refine R_iret ck_56_63 rfl rfl ?_
              exact hf (fun q => by first | exact n_h q.1 | exact n_dl q.2.1 | exact n_bt q.2.2.1 | exact n_rt q.2.2.2.1 | exact n_fl q.2.2.2.2.1 | exact n_wt q.2.2.2.2.2)
          · show RU_56 (d + 1) (0, 0) Post 48 ([(0, .ref 0), (1, .int (nI h)), (2, .int (nI dl)), (3, .int (nI bt)), (4, .int (nI rt)), (5, .int x5), (6, .int x6)]) ([.int 0]) (stt σ τ) 0 0
            refine R_if ck_56_48 (fun _ => ?_) (fun c => absurd (show (0 : Int32) = 0 from by decide) c)
            refine R_seg sg_56_62 sk_56_62 (pc' := 63) (lv' := [(0, .ref 0), (1, .int (nI h)), (2, .int (nI dl)), (3, .int (nI bt)), (4, .int (nI rt)), (5, .int x5), (6, .int x6)]) (st' := [.int 0]) (S' := stt σ τ) (kc' := 0) (ks' := 0) rfl ⟨trivial, trivial⟩ ?_
            refine R_iret ck_56_63 rfl rfl ?_
            exact hf (fun q => by first | exact n_h q.1 | exact n_dl q.2.1 | exact n_bt q.2.2.1 | exact n_rt q.2.2.2.1 | exact n_fl q.2.2.2.2.1 | exact n_wt q.2.2.2.2.2)
        · show RU_56 (d + 1) (0, 0) Post 37 ([(0, .ref 0), (1, .int (nI h)), (2, .int (nI dl)), (3, .int (nI bt)), (4, .int x4), (5, .int x5), (6, .int x6)]) ([.int 0]) (stt σ τ) 0 0
          refine R_if ck_56_37 (fun _ => ?_) (fun c => absurd (show (0 : Int32) = 0 from by decide) c)
          refine R_seg sg_56_62 sk_56_62 (pc' := 63) (lv' := [(0, .ref 0), (1, .int (nI h)), (2, .int (nI dl)), (3, .int (nI bt)), (4, .int x4), (5, .int x5), (6, .int x6)]) (st' := [.int 0]) (S' := stt σ τ) (kc' := 0) (ks' := 0) rfl ⟨trivial, trivial⟩ ?_
          refine R_iret ck_56_63 rfl rfl ?_
          exact hf (fun q => by first | exact n_h q.1 | exact n_dl q.2.1 | exact n_bt q.2.2.1 | exact n_rt q.2.2.2.1 | exact n_fl q.2.2.2.2.1 | exact n_wt q.2.2.2.2.2)
      · show RU_56 (d + 1) (0, 0) Post 26 ([(0, .ref 0), (1, .int (nI h)), (2, .int (nI dl)), (3, .int x3), (4, .int x4), (5, .int x5), (6, .int x6)]) ([.int 0]) (stt σ τ) 0 0
        refine R_if ck_56_26 (fun _ => ?_) (fun c => absurd (show (0 : Int32) = 0 from by decide) c)
        refine R_seg sg_56_62 sk_56_62 (pc' := 63) (lv' := [(0, .ref 0), (1, .int (nI h)), (2, .int (nI dl)), (3, .int x3), (4, .int x4), (5, .int x5), (6, .int x6)]) (st' := [.int 0]) (S' := stt σ τ) (kc' := 0) (ks' := 0) rfl ⟨trivial, trivial⟩ ?_
        refine R_iret ck_56_63 rfl rfl ?_
        exact hf (fun q => by first | exact n_h q.1 | exact n_dl q.2.1 | exact n_bt q.2.2.1 | exact n_rt q.2.2.2.1 | exact n_fl q.2.2.2.2.1 | exact n_wt q.2.2.2.2.2)
    · show RU_56 (d + 1) (0, 0) Post 16 ([(0, .ref 0), (1, .int (nI h)), (2, .int x2), (3, .int x3), (4, .int x4), (5, .int x5), (6, .int x6)]) ([.int 0]) (stt σ τ) 0 0
      refine R_if ck_56_16 (fun _ => ?_) (fun c => absurd (show (0 : Int32) = 0 from by decide) c)
      refine R_seg sg_56_62 sk_56_62 (pc' := 63) (lv' := [(0, .ref 0), (1, .int (nI h)), (2, .int x2), (3, .int x3), (4, .int x4), (5, .int x5), (6, .int x6)]) (st' := [.int 0]) (S' := stt σ τ) (kc' := 0) (ks' := 0) rfl ⟨trivial, trivial⟩ ?_
      refine R_iret ck_56_63 rfl rfl ?_
      exact hf (fun q => by first | exact n_h q.1 | exact n_dl q.2.1 | exact n_bt q.2.2.1 | exact n_rt q.2.2.2.1 | exact n_fl q.2.2.2.2.1 | exact n_wt q.2.2.2.2.2)
  · show RU_56 (d + 1) (0, 0) Post 6 ([(0, .ref 0), (1, .int x1), (2, .int x2), (3, .int x3), (4, .int x4), (5, .int x5), (6, .int x6)]) ([.int 0]) (stt σ τ) 0 0
    refine R_if ck_56_6 (fun _ => ?_) (fun c => absurd (show (0 : Int32) = 0 from by decide) c)
    refine R_seg sg_56_62 sk_56_62 (pc' := 63) (lv' := [(0, .ref 0), (1, .int x1), (2, .int x2), (3, .int x3), (4, .int x4), (5, .int x5), (6, .int x6)]) (st' := [.int 0]) (S' := stt σ τ) (kc' := 0) (ks' := 0) rfl ⟨trivial, trivial⟩ ?_
    refine R_iret ck_56_63 rfl rfl ?_
    exact hf (fun q => by first | exact n_h q.1 | exact n_dl q.2.1 | exact n_bt q.2.2.1 | exact n_rt q.2.2.2.1 | exact n_fl q.2.2.2.2.1 | exact n_wt q.2.2.2.2.2)
def c_down (σ : Nat → Nat → Int32) (n : Nat) (h f t : Int32) : Nat → Nat → Int32 := up2 (up2 (up2 (up2 σ 8 n h) 9 n f) 10 n t) 6 1 (nI n + 1)
set_option maxRecDepth 20000 in
theorem x_14 {d : Nat} {σ : Nat → Nat → Int32} {τ : Nat → Nat → Int64} {h f t : Int32} {n : Nat} (hn : σ 6 1 = nI n) (hn20 : n < 20) {Post : Option Value → Sto → Prop} (hp : Post (some (.int (nI n + 1))) (stt (c_down σ n h f t) τ)) : Ex (d + 1) 14 [.ref 6, .int h, .int f, .int t] (stt σ τ) 0 0 Post := by
  refine en_14 (Nat.le_of_ble_eq_true rfl) ?_
  show RU_14 d (0, 0) Post 0 ([(0, .ref 6), (1, .int h), (2, .int f), (3, .int t)]) ([]) (stt σ τ) 0 0
  refine R_seg sg_14_0 sk_14_0 (pc' := 6) (lv' := [(0, .ref 6), (1, .int h), (2, .int f), (3, .int t)]) (st' := [.int 20, .int (σ 6 1)]) (S' := stt σ τ) (kc' := 0) (ks' := 0) rfl ⟨trivial, rfl, trivial, trivial⟩ ?_
  rw [hn]
  refine R_icmp ck_14_6 (fun (c_6 : (nI n) < 20) => ?_) (fun (c_6 : ¬ (nI n) < 20) => ?_)
  · have c_6 : n < 20 := (nI_ltI (a := n) (b := 20) (by omega) (by omega)).mp c_6
    refine R_seg sg_14_11 sk_14_11 (pc' := 20) (lv' := [(0, .ref 6), (1, .int h), (2, .int f), (3, .int t)]) (st' := [.int h, .int (σ 6 1), .ref 8]) (S' := stt σ τ) (kc' := 0) (ks' := 0) rfl ⟨trivial, rfl, trivial, rfl, trivial, trivial⟩ ?_
    rw [hn]
    refine R_iast ca_14_20 (j := n) rfl rfl (by omega) ?_
    refine R_seg sg_14_21 sk_14_21 (pc' := 30) (lv' := [(0, .ref 6), (1, .int h), (2, .int f), (3, .int t)]) (st' := [.int f, .int (σ 6 1), .ref 9]) (S' := stt (up2 σ 8 n h) τ) (kc' := 0) (ks' := 0) rfl ⟨trivial, rfl, trivial, rfl, trivial, trivial⟩ ?_
    rw [hn]
    refine R_iast ca_14_30 (j := n) rfl rfl (by omega) ?_
    refine R_seg sg_14_31 sk_14_31 (pc' := 40) (lv' := [(0, .ref 6), (1, .int h), (2, .int f), (3, .int t)]) (st' := [.int t, .int (σ 6 1), .ref 10]) (S' := stt (up2 (up2 σ 8 n h) 9 n f) τ) (kc' := 0) (ks' := 0) rfl ⟨trivial, rfl, trivial, rfl, trivial, trivial⟩ ?_
    rw [hn]
    refine R_iast ca_14_40 (j := n) rfl rfl (by omega) ?_
    refine R_seg sg_14_41 sk_14_41 (pc' := 55) (lv' := [(0, .ref 6), (1, .int h), (2, .int f), (3, .int t)]) (st' := [.int ((σ 6 1) + 1)]) (S' := stt (up2 (up2 (up2 (up2 σ 8 n h) 9 n f) 10 n t) 6 1 ((σ 6 1) + 1)) τ) (kc' := 0) (ks' := 0) rfl ⟨trivial, rfl, rfl, trivial, trivial, ⟨rfl, ⟨rfl, rfl⟩⟩, trivial, rfl, trivial⟩ ?_
    rw [hn]
    refine R_iret ck_14_55 rfl rfl ?_
    exact hp
  · have c_6 : 20 ≤ n := Nat.not_lt.mp (fun q => c_6 ((nI_ltI (a := n) (b := 20) (by omega) (by omega)).mpr q))
    exact absurd hn20 (by omega)
set_option maxRecDepth 20000 in
theorem x_58 {d : Nat} {σ : Nat → Nat → Int32} {τ : Nat → Nat → Int64} {x1 x2 x3 : Int32} {n : Nat} (hn : σ 6 1 = nI n) (hn20 : n ≤ 20) {Post : Option Value → Sto → Prop} (hs : ∀ h f t : Nat, h < 5 → f ≤ t → t ≤ 100000 → n < 20 → x1 = nI h → x2 = nI f → x3 = nI t → Post (some (.int (nI n + 1))) (stt (c_down σ n (nI h) (nI f) (nI t)) τ)) (hf : ¬ (rg x1 0 4 ∧ rg x3 0 100000 ∧ (∀ t, x3 = nI t → rg x2 0 t) ∧ n < 20) → Post (some (.int (-1))) (stt σ τ)) : Ex (d + 2) 58 [.ref 0, .int x1, .int x2, .int x3] (stt σ τ) 0 0 Post := by
  refine en_58 (Nat.le_of_ble_eq_true rfl) ?_
  show RU_58 (d + 1) (0, 0) Post 0 ([(0, .ref 0), (1, .int x1), (2, .int x2), (3, .int x3)]) ([]) (stt σ τ) 0 0
  refine R_seg sg_58_0 sk_58_0 (pc' := 3) (lv' := [(0, .ref 0), (1, .int x1), (2, .int x2), (3, .int x3)]) (st' := [.int 4, .int 0, .int x1]) (S' := stt σ τ) (kc' := 0) (ks' := 0) rfl ⟨trivial, trivial, trivial, trivial⟩ ?_
  refine R_stat ck_58_3 (by decide) [.int x1, .int 0, .int 4] 0 0 (r := []) rfl rfl (Nat.le_of_ble_eq_true rfl) (Nat.le_refl _) (Nat.le_refl _) ?_
  refine xn_57 (d := d) 0 4 (by omega) (by omega) (fun h l_h u_h e_h => ?_) (fun n_h => ?_)
  · subst e_h
    show RU_58 (d + 1) (0, 0) Post 6 ([(0, .ref 0), (1, .int (nI h)), (2, .int x2), (3, .int x3)]) ([.int 1]) (stt σ τ) 0 0
    refine R_if ck_58_6 (fun c => absurd c (show ¬ (1 : Int32) = 0 from by decide)) (fun _ => ?_)
    refine R_seg sg_58_9 sk_58_9 (pc' := 13) (lv' := [(0, .ref 0), (1, .int (nI h)), (2, .int x2), (3, .int x3)]) (st' := [.int 100000, .int 0, .int x3]) (S' := stt σ τ) (kc' := 0) (ks' := 0) rfl ⟨trivial, trivial, trivial, trivial⟩ ?_
    refine R_stat ck_58_13 (by decide) [.int x3, .int 0, .int 100000] 0 0 (r := []) rfl rfl (Nat.le_of_ble_eq_true rfl) (Nat.le_refl _) (Nat.le_refl _) ?_
    refine xn_57 (d := d) 0 100000 (by omega) (by omega) (fun t l_t u_t e_t => ?_) (fun n_t => ?_)
    · subst e_t
      show RU_58 (d + 1) (0, 0) Post 16 ([(0, .ref 0), (1, .int (nI h)), (2, .int x2), (3, .int (nI t))]) ([.int 1]) (stt σ τ) 0 0
      refine R_if ck_58_16 (fun c => absurd c (show ¬ (1 : Int32) = 0 from by decide)) (fun _ => ?_)
      refine R_seg sg_58_19 sk_58_19 (pc' := 22) (lv' := [(0, .ref 0), (1, .int (nI h)), (2, .int x2), (3, .int (nI t))]) (st' := [.int (nI t), .int 0, .int x2]) (S' := stt σ τ) (kc' := 0) (ks' := 0) rfl ⟨trivial, trivial, trivial, trivial⟩ ?_
      refine R_stat ck_58_22 (by decide) [.int x2, .int 0, .int (nI t)] 0 0 (r := []) rfl rfl (Nat.le_of_ble_eq_true rfl) (Nat.le_refl _) (Nat.le_refl _) ?_
      refine xn_57 (d := d) 0 t (by omega) (by omega) (fun f l_f u_f e_f => ?_) (fun n_f => ?_)
      · subst e_f
        show RU_58 (d + 1) (0, 0) Post 25 ([(0, .ref 0), (1, .int (nI h)), (2, .int (nI f)), (3, .int (nI t))]) ([.int 1]) (stt σ τ) 0 0
        refine R_if ck_58_25 (fun c => absurd c (show ¬ (1 : Int32) = 0 from by decide)) (fun _ => ?_)
        refine R_seg sg_58_28 sk_58_28 (pc' := 37) (lv' := [(0, .ref 0), (1, .int (nI h)), (2, .int (nI f)), (3, .int (nI t))]) (st' := [.int 20, .int (σ 6 1)]) (S' := stt σ τ) (kc' := 0) (ks' := 0) rfl ⟨trivial, rfl, rfl, trivial, trivial⟩ ?_
        rw [hn]
        refine R_icmp ck_58_37 (fun (c_37 : (nI n) < 20) => ?_) (fun (c_37 : ¬ (nI n) < 20) => ?_)
        · have c_37 : n < 20 := (nI_ltI (a := n) (b := 20) (by omega) (by omega)).mp c_37
          refine R_seg sg_58_42 sk_58_42 (pc' := 49) (lv' := [(0, .ref 0), (1, .int (nI h)), (2, .int (nI f)), (3, .int (nI t))]) (st' := [.int (nI t), .int (nI f), .int (nI h), .ref 6]) (S' := stt σ τ) (kc' := 0) (ks' := 0) rfl ⟨trivial, rfl, trivial, trivial, trivial, trivial⟩ ?_
          refine R_virt ck_58_49 6 [.int (nI h), .int (nI f), .int (nI t)] 0 0 (r := []) rfl rfl rfl (Nat.le_of_ble_eq_true rfl) (Nat.le_refl _) (Nat.le_refl _) ?_
          refine x_14 (d := d) hn (by omega) ?_
          show RU_58 (d + 1) (0, 0) Post 52 ([(0, .ref 0), (1, .int (nI h)), (2, .int (nI f)), (3, .int (nI t))]) ([.int (nI n + 1)]) (stt (c_down σ n (nI h) (nI f) (nI t)) τ) 0 0
          refine R_iret ck_58_52 rfl rfl ?_
          exact hs h f t (by omega) (by omega) (by omega) (by omega) rfl rfl rfl
        · have c_37 : 20 ≤ n := Nat.not_lt.mp (fun q => c_37 ((nI_ltI (a := n) (b := 20) (by omega) (by omega)).mpr q))
          refine R_seg sg_58_40 sk_58_40 (pc' := 41) (lv' := [(0, .ref 0), (1, .int (nI h)), (2, .int (nI f)), (3, .int (nI t))]) (st' := [.int (-1)]) (S' := stt σ τ) (kc' := 0) (ks' := 0) rfl ⟨trivial, trivial⟩ ?_
          refine R_iret ck_58_41 rfl rfl ?_
          first | exact hf (fun q => n_h q.1) | exact hf (fun q => n_t q.2.1) | (refine hf (fun q => ?_); exact n_f (q.2.2.1 t rfl)) | exact hf (fun q => absurd q.2.2.2 (by omega))
      · show RU_58 (d + 1) (0, 0) Post 25 ([(0, .ref 0), (1, .int (nI h)), (2, .int x2), (3, .int (nI t))]) ([.int 0]) (stt σ τ) 0 0
        refine R_if ck_58_25 (fun _ => ?_) (fun c => absurd (show (0 : Int32) = 0 from by decide) c)
        refine R_seg sg_58_40 sk_58_40 (pc' := 41) (lv' := [(0, .ref 0), (1, .int (nI h)), (2, .int x2), (3, .int (nI t))]) (st' := [.int (-1)]) (S' := stt σ τ) (kc' := 0) (ks' := 0) rfl ⟨trivial, trivial⟩ ?_
        refine R_iret ck_58_41 rfl rfl ?_
        first | exact hf (fun q => n_h q.1) | exact hf (fun q => n_t q.2.1) | (refine hf (fun q => ?_); exact n_f (q.2.2.1 t rfl)) | exact hf (fun q => absurd q.2.2.2 (by omega))
    · show RU_58 (d + 1) (0, 0) Post 16 ([(0, .ref 0), (1, .int (nI h)), (2, .int x2), (3, .int x3)]) ([.int 0]) (stt σ τ) 0 0
      refine R_if ck_58_16 (fun _ => ?_) (fun c => absurd (show (0 : Int32) = 0 from by decide) c)
      refine R_seg sg_58_40 sk_58_40 (pc' := 41) (lv' := [(0, .ref 0), (1, .int (nI h)), (2, .int x2), (3, .int x3)]) (st' := [.int (-1)]) (S' := stt σ τ) (kc' := 0) (ks' := 0) rfl ⟨trivial, trivial⟩ ?_
      refine R_iret ck_58_41 rfl rfl ?_
      first | exact hf (fun q => n_h q.1) | exact hf (fun q => n_t q.2.1) | (refine hf (fun q => ?_); exact n_f (q.2.2.1 t rfl)) | exact hf (fun q => absurd q.2.2.2 (by omega))
  · show RU_58 (d + 1) (0, 0) Post 6 ([(0, .ref 0), (1, .int x1), (2, .int x2), (3, .int x3)]) ([.int 0]) (stt σ τ) 0 0
    refine R_if ck_58_6 (fun _ => ?_) (fun c => absurd (show (0 : Int32) = 0 from by decide) c)
    refine R_seg sg_58_40 sk_58_40 (pc' := 41) (lv' := [(0, .ref 0), (1, .int x1), (2, .int x2), (3, .int x3)]) (st' := [.int (-1)]) (S' := stt σ τ) (kc' := 0) (ks' := 0) rfl ⟨trivial, trivial⟩ ?_
    refine R_iret ck_58_41 rfl rfl ?_
    first | exact hf (fun q => n_h q.1) | exact hf (fun q => n_t q.2.1) | (refine hf (fun q => ?_); exact n_f (q.2.2.1 t rfl)) | exact hf (fun q => absurd q.2.2.2 (by omega))
def c_type (σ : Nat → Nat → Int32) (t h p l : Nat) : Nat → Nat → Int32 := fl2 (up2 (up2 (up2 σ 17 t (nI h)) 18 t (nI p)) 19 t (nI l)) 25 (t * 32) (t * 32 + 32) 0
set_option maxRecDepth 20000 in
theorem l_59 {d : Nat} {σ : Nat → Nat → Int32} {τ : Nat → Nat → Int64} {t h p l : Nat} (ht : t < 6) {Post : Option Value → Sto → Prop} (hp : Post (some (.int 1)) (stt (fl2 σ 25 (t * 32) (t * 32 + 32) 0) τ)) : ∀ (n : Nat) (i : Nat), i ≤ 32 → 32 - i < n → RU_59 d (0, 0) Post 76 [(5, .int (nI i)), (0, .ref 0), (1, .int (nI t)), (2, .int (nI h)), (3, .int (nI p)), (4, .int (nI l))] [] (stt (fl2 σ 25 (t * 32) (t * 32 + i) 0) τ) 0 0 := by
  intro n
  induction n with
  | zero => intro i h1 h2; exact absurd h2 (by omega)
  | succ n ih =>
    intro i h1 h2
    refine R_seg sg_59_76 sk_59_76 (pc' := 80) (lv' := [(5, .int (nI i)), (0, .ref 0), (1, .int (nI t)), (2, .int (nI h)), (3, .int (nI p)), (4, .int (nI l))]) (st' := [.int 32, .int (nI i)]) (S' := stt (fl2 σ 25 (t * 32) (t * 32 + i) 0) τ) (kc' := 0) (ks' := 0) rfl ⟨trivial, trivial, trivial⟩ ?_
    refine R_icmp ck_59_80 (fun (c_80 : 32 ≤ (nI i)) => ?_) (fun (c_80 : ¬ 32 ≤ (nI i)) => ?_)
    · have c_80 : 32 ≤ i := (nI_leI (a := 32) (b := i) (by omega) (by omega)).mp c_80
      refine R_seg sg_59_105 sk_59_105 (pc' := 106) (lv' := [(5, .int (nI i)), (0, .ref 0), (1, .int (nI t)), (2, .int (nI h)), (3, .int (nI p)), (4, .int (nI l))]) (st' := [.int 1]) (S' := stt (fl2 σ 25 (t * 32) (t * 32 + i) 0) τ) (kc' := 0) (ks' := 0) rfl ⟨trivial, trivial⟩ ?_
      refine R_iret ck_59_106 rfl rfl ?_
      have e : i = 32 := by omega
      subst e
      exact hp
    · have c_80 : i < 32 := Nat.not_le.mp (fun q => c_80 ((nI_leI (a := 32) (b := i) (by omega) (by omega)).mpr q))
      refine R_seg sg_59_83 sk_59_83 (pc' := 98) (lv' := [(5, .int (nI i)), (0, .ref 0), (1, .int (nI t)), (2, .int (nI h)), (3, .int (nI p)), (4, .int (nI l))]) (st' := [.int 0, .int (((nI t) * 32) + (nI i)), .ref 25]) (S' := stt (fl2 σ 25 (t * 32) (t * 32 + i) 0) τ) (kc' := 0) (ks' := 0) rfl ⟨trivial, rfl, rfl, trivial, trivial, trivial, trivial, trivial, trivial, trivial⟩ ?_
      refine R_iast ca_59_98 (j := (t * 32) + i) rfl (by simp only [nl_0, nl_1, nl_2, nl_3, nl_4, nl_5, nl_6, nl_8, nl_20, nl_31, nl_32, pk_mul, nI_add]) (by omega) ?_
      refine R_seg sg_59_99 sk_59_99 (pc' := 102) (lv' := [(5, .int ((nI i) + 1)), (0, .ref 0), (1, .int (nI t)), (2, .int (nI h)), (3, .int (nI p)), (4, .int (nI l))]) (st' := []) (S' := stt (up2 (fl2 σ 25 (t * 32) (t * 32 + i) 0) 25 ((t * 32) + i) 0) τ) (kc' := 0) (ks' := 0) rfl ⟨(by decide), trivial⟩ ?_
      refine R_goto ck_59_102 ?_
      rw [nI_1, fl2_s _ _ _ _ _ (by omega)]
      exact ih (i + 1) (by omega) (by omega)
set_option maxRecDepth 20000 in
theorem x_59 {d : Nat} {σ : Nat → Nat → Int32} {τ : Nat → Nat → Int64} {x1 x2 x3 x4 : Int32} {Post : Option Value → Sto → Prop} (hs : ∀ t h p l : Nat, t < 6 → h < 5 → 1 ≤ p → p ≤ 9 → l ≤ 999 → x1 = nI t → x2 = nI h → x3 = nI p → x4 = nI l → Post (some (.int 1)) (stt (c_type σ t h p l) τ)) (hf : ¬ (rg x1 0 5 ∧ rg x2 0 4 ∧ rg x3 1 9 ∧ rg x4 0 999) → Post (some (.int 0)) (stt σ τ)) : Ex (d + 2) 59 [.ref 0, .int x1, .int x2, .int x3, .int x4] (stt σ τ) 0 0 Post := by
  refine en_59 (Nat.le_of_ble_eq_true rfl) ?_
  show RU_59 (d + 1) (0, 0) Post 0 ([(0, .ref 0), (1, .int x1), (2, .int x2), (3, .int x3), (4, .int x4)]) ([]) (stt σ τ) 0 0
  refine R_seg sg_59_0 sk_59_0 (pc' := 3) (lv' := [(0, .ref 0), (1, .int x1), (2, .int x2), (3, .int x3), (4, .int x4)]) (st' := [.int 5, .int 0, .int x1]) (S' := stt σ τ) (kc' := 0) (ks' := 0) rfl ⟨trivial, trivial, trivial, trivial⟩ ?_
  refine R_stat ck_59_3 (by decide) [.int x1, .int 0, .int 5] 0 0 (r := []) rfl rfl (Nat.le_of_ble_eq_true rfl) (Nat.le_refl _) (Nat.le_refl _) ?_
  refine xn_57 (d := d) 0 5 (by omega) (by omega) (fun t l_t u_t e_t => ?_) (fun n_t => ?_)
  · subst e_t
    show RU_59 (d + 1) (0, 0) Post 6 ([(0, .ref 0), (1, .int (nI t)), (2, .int x2), (3, .int x3), (4, .int x4)]) ([.int 1]) (stt σ τ) 0 0
    refine R_if ck_59_6 (fun c => absurd c (show ¬ (1 : Int32) = 0 from by decide)) (fun _ => ?_)
    refine R_seg sg_59_9 sk_59_9 (pc' := 12) (lv' := [(0, .ref 0), (1, .int (nI t)), (2, .int x2), (3, .int x3), (4, .int x4)]) (st' := [.int 4, .int 0, .int x2]) (S' := stt σ τ) (kc' := 0) (ks' := 0) rfl ⟨trivial, trivial, trivial, trivial⟩ ?_
    refine R_stat ck_59_12 (by decide) [.int x2, .int 0, .int 4] 0 0 (r := []) rfl rfl (Nat.le_of_ble_eq_true rfl) (Nat.le_refl _) (Nat.le_refl _) ?_
    refine xn_57 (d := d) 0 4 (by omega) (by omega) (fun h l_h u_h e_h => ?_) (fun n_h => ?_)
    · subst e_h
      show RU_59 (d + 1) (0, 0) Post 15 ([(0, .ref 0), (1, .int (nI t)), (2, .int (nI h)), (3, .int x3), (4, .int x4)]) ([.int 1]) (stt σ τ) 0 0
      refine R_if ck_59_15 (fun c => absurd c (show ¬ (1 : Int32) = 0 from by decide)) (fun _ => ?_)
      refine R_seg sg_59_18 sk_59_18 (pc' := 22) (lv' := [(0, .ref 0), (1, .int (nI t)), (2, .int (nI h)), (3, .int x3), (4, .int x4)]) (st' := [.int 9, .int 1, .int x3]) (S' := stt σ τ) (kc' := 0) (ks' := 0) rfl ⟨trivial, trivial, trivial, trivial⟩ ?_
      refine R_stat ck_59_22 (by decide) [.int x3, .int 1, .int 9] 0 0 (r := []) rfl rfl (Nat.le_of_ble_eq_true rfl) (Nat.le_refl _) (Nat.le_refl _) ?_
      refine xn_57 (d := d) 1 9 (by omega) (by omega) (fun p l_p u_p e_p => ?_) (fun n_p => ?_)
      · subst e_p
        show RU_59 (d + 1) (0, 0) Post 25 ([(0, .ref 0), (1, .int (nI t)), (2, .int (nI h)), (3, .int (nI p)), (4, .int x4)]) ([.int 1]) (stt σ τ) 0 0
        refine R_if ck_59_25 (fun c => absurd c (show ¬ (1 : Int32) = 0 from by decide)) (fun _ => ?_)
        refine R_seg sg_59_28 sk_59_28 (pc' := 34) (lv' := [(0, .ref 0), (1, .int (nI t)), (2, .int (nI h)), (3, .int (nI p)), (4, .int x4)]) (st' := [.int 999, .int 0, .int x4]) (S' := stt σ τ) (kc' := 0) (ks' := 0) rfl ⟨trivial, trivial, trivial, trivial⟩ ?_
        refine R_stat ck_59_34 (by decide) [.int x4, .int 0, .int 999] 0 0 (r := []) rfl rfl (Nat.le_of_ble_eq_true rfl) (Nat.le_refl _) (Nat.le_refl _) ?_
        refine xn_57 (d := d) 0 999 (by omega) (by omega) (fun l l_l u_l e_l => ?_) (fun n_l => ?_)
        · subst e_l
          show RU_59 (d + 1) (0, 0) Post 37 ([(0, .ref 0), (1, .int (nI t)), (2, .int (nI h)), (3, .int (nI p)), (4, .int (nI l))]) ([.int 1]) (stt σ τ) 0 0
          refine R_if ck_59_37 (fun _ => ?_) (fun c => absurd (show ¬ (1 : Int32) = 0 from by decide) c)
          refine R_seg sg_59_42 sk_59_42 (pc' := 51) (lv' := [(0, .ref 0), (1, .int (nI t)), (2, .int (nI h)), (3, .int (nI p)), (4, .int (nI l))]) (st' := [.int (nI h), .int (nI t), .ref 17]) (S' := stt σ τ) (kc' := 0) (ks' := 0) rfl ⟨trivial, rfl, rfl, trivial, trivial, trivial⟩ ?_
          refine R_iast ca_59_51 (j := t) rfl rfl (by omega) ?_
          refine R_seg sg_59_52 sk_59_52 (pc' := 61) (lv' := [(0, .ref 0), (1, .int (nI t)), (2, .int (nI h)), (3, .int (nI p)), (4, .int (nI l))]) (st' := [.int (nI p), .int (nI t), .ref 18]) (S' := stt (up2 σ 17 t (nI h)) τ) (kc' := 0) (ks' := 0) rfl ⟨trivial, rfl, rfl, trivial, trivial, trivial⟩ ?_
          refine R_iast ca_59_61 (j := t) rfl rfl (by omega) ?_
          refine R_seg sg_59_62 sk_59_62 (pc' := 72) (lv' := [(0, .ref 0), (1, .int (nI t)), (2, .int (nI h)), (3, .int (nI p)), (4, .int (nI l))]) (st' := [.int (nI l), .int (nI t), .ref 19]) (S' := stt (up2 (up2 σ 17 t (nI h)) 18 t (nI p)) τ) (kc' := 0) (ks' := 0) rfl ⟨trivial, rfl, rfl, trivial, trivial, trivial⟩ ?_
          refine R_iast ca_59_72 (j := t) rfl rfl (by omega) ?_
          refine R_seg sg_59_73 sk_59_73 (pc' := 76) (lv' := [(5, .int 0), (0, .ref 0), (1, .int (nI t)), (2, .int (nI h)), (3, .int (nI p)), (4, .int (nI l))]) (st' := []) (S' := stt (up2 (up2 (up2 σ 17 t (nI h)) 18 t (nI p)) 19 t (nI l)) τ) (kc' := 0) (ks' := 0) rfl ⟨trivial, (by decide), trivial⟩ ?_
          have key := @l_59 (d + 1) (up2 (up2 (up2 σ 17 t (nI h)) 18 t (nI p)) 19 t (nI l)) τ t h p l (by omega) Post (hs t h p l (by omega) (by omega) (by omega) (by omega) (by omega) rfl rfl rfl rfl) 33 0 (by omega) (by omega)
          have e0 : fl2 (up2 (up2 (up2 σ 17 t (nI h)) 18 t (nI p)) 19 t (nI l)) 25 (t * 32) (t * 32 + 0) 0 = (up2 (up2 (up2 σ 17 t (nI h)) 18 t (nI p)) 19 t (nI l)) := fl2_0 _ _ _ _
          rw [e0] at key
          exact key
        · show RU_59 (d + 1) (0, 0) Post 37 ([(0, .ref 0), (1, .int (nI t)), (2, .int (nI h)), (3, .int (nI p)), (4, .int x4)]) ([.int 0]) (stt σ τ) 0 0
          refine R_if ck_59_37 (fun c => absurd c (show ¬ ¬ (0 : Int32) = 0 from by decide)) (fun _ => ?_)
          refine R_seg sg_59_40 sk_59_40 (pc' := 41) (lv' := [(0, .ref 0), (1, .int (nI t)), (2, .int (nI h)), (3, .int (nI p)), (4, .int x4)]) (st' := [.int 0]) (S' := stt σ τ) (kc' := 0) (ks' := 0) rfl ⟨trivial, trivial⟩ ?_
          refine R_iret ck_59_41 rfl rfl ?_
          exact hf (fun q => by first | exact n_t q.1 | exact n_h q.2.1 | exact n_p q.2.2.1 | exact n_l q.2.2.2)
      · show RU_59 (d + 1) (0, 0) Post 25 ([(0, .ref 0), (1, .int (nI t)), (2, .int (nI h)), (3, .int x3), (4, .int x4)]) ([.int 0]) (stt σ τ) 0 0
        refine R_if ck_59_25 (fun _ => ?_) (fun c => absurd (show (0 : Int32) = 0 from by decide) c)
        refine R_seg sg_59_40 sk_59_40 (pc' := 41) (lv' := [(0, .ref 0), (1, .int (nI t)), (2, .int (nI h)), (3, .int x3), (4, .int x4)]) (st' := [.int 0]) (S' := stt σ τ) (kc' := 0) (ks' := 0) rfl ⟨trivial, trivial⟩ ?_
        refine R_iret ck_59_41 rfl rfl ?_
        exact hf (fun q => by first | exact n_t q.1 | exact n_h q.2.1 | exact n_p q.2.2.1 | exact n_l q.2.2.2)
    · show RU_59 (d + 1) (0, 0) Post 15 ([(0, .ref 0), (1, .int (nI t)), (2, .int x2), (3, .int x3), (4, .int x4)]) ([.int 0]) (stt σ τ) 0 0
      refine R_if ck_59_15 (fun _ => ?_) (fun c => absurd (show (0 : Int32) = 0 from by decide) c)
      refine R_seg sg_59_40 sk_59_40 (pc' := 41) (lv' := [(0, .ref 0), (1, .int (nI t)), (2, .int x2), (3, .int x3), (4, .int x4)]) (st' := [.int 0]) (S' := stt σ τ) (kc' := 0) (ks' := 0) rfl ⟨trivial, trivial⟩ ?_
      refine R_iret ck_59_41 rfl rfl ?_
      exact hf (fun q => by first | exact n_t q.1 | exact n_h q.2.1 | exact n_p q.2.2.1 | exact n_l q.2.2.2)
  · show RU_59 (d + 1) (0, 0) Post 6 ([(0, .ref 0), (1, .int x1), (2, .int x2), (3, .int x3), (4, .int x4)]) ([.int 0]) (stt σ τ) 0 0
    refine R_if ck_59_6 (fun _ => ?_) (fun c => absurd (show (0 : Int32) = 0 from by decide) c)
    refine R_seg sg_59_40 sk_59_40 (pc' := 41) (lv' := [(0, .ref 0), (1, .int x1), (2, .int x2), (3, .int x3), (4, .int x4)]) (st' := [.int 0]) (S' := stt σ τ) (kc' := 0) (ks' := 0) rfl ⟨trivial, trivial⟩ ?_
    refine R_iret ck_59_41 rfl rfl ?_
    exact hf (fun q => by first | exact n_t q.1 | exact n_h q.2.1 | exact n_p q.2.2.1 | exact n_l q.2.2.2)
def c_field (σ : Nat → Nat → Int32) (t f k o m : Nat) (b : Int32) : Nat → Nat → Int32 := up2 (up2 (up2 (up2 σ 20 (t * 4 + f) (nI k)) 21 (t * 4 + f) (nI o)) 22 (t * 4 + f) (nI m)) 23 (t * 4 + f) b
set_option maxRecDepth 20000 in
theorem x_60 {d : Nat} {σ : Nat → Nat → Int32} {τ : Nat → Nat → Int64} {x1 x2 x3 x4 x5 x6 : Int32} (hb : x6 = 0 ∨ x6 = 1) {Post : Option Value → Sto → Prop} (hs : ∀ t f k o m : Nat, t < 6 → f < 4 → k < 3 → o < 6 → 1 ≤ m → m ≤ 5 → x1 = nI t → x2 = nI f → x3 = nI k → x4 = nI o → x5 = nI m → Post (some (.int 1)) (stt (c_field σ t f k o m x6) τ)) (hf : ¬ (rg x1 0 5 ∧ rg x2 0 3 ∧ rg x3 0 2 ∧ rg x4 0 5 ∧ rg x5 1 5) → Post (some (.int 0)) (stt σ τ)) : Ex (d + 2) 60 [.ref 0, .int x1, .int x2, .int x3, .int x4, .int x5, .int x6] (stt σ τ) 0 0 Post := by
  refine en_60 (Nat.le_of_ble_eq_true rfl) ?_
  show RU_60 (d + 1) (0, 0) Post 0 ([(0, .ref 0), (1, .int x1), (2, .int x2), (3, .int x3), (4, .int x4), (5, .int x5), (6, .int x6)]) ([]) (stt σ τ) 0 0
  refine R_seg sg_60_0 sk_60_0 (pc' := 3) (lv' := [(0, .ref 0), (1, .int x1), (2, .int x2), (3, .int x3), (4, .int x4), (5, .int x5), (6, .int x6)]) (st' := [.int 5, .int 0, .int x1]) (S' := stt σ τ) (kc' := 0) (ks' := 0) rfl ⟨trivial, trivial, trivial, trivial⟩ ?_
  refine R_stat ck_60_3 (by decide) [.int x1, .int 0, .int 5] 0 0 (r := []) rfl rfl (Nat.le_of_ble_eq_true rfl) (Nat.le_refl _) (Nat.le_refl _) ?_
  refine xn_57 (d := d) 0 5 (by omega) (by omega) (fun t l_t u_t e_t => ?_) (fun n_t => ?_)
  · subst e_t
    show RU_60 (d + 1) (0, 0) Post 6 ([(0, .ref 0), (1, .int (nI t)), (2, .int x2), (3, .int x3), (4, .int x4), (5, .int x5), (6, .int x6)]) ([.int 1]) (stt σ τ) 0 0
    refine R_if ck_60_6 (fun c => absurd c (show ¬ (1 : Int32) = 0 from by decide)) (fun _ => ?_)
    refine R_seg sg_60_9 sk_60_9 (pc' := 12) (lv' := [(0, .ref 0), (1, .int (nI t)), (2, .int x2), (3, .int x3), (4, .int x4), (5, .int x5), (6, .int x6)]) (st' := [.int 3, .int 0, .int x2]) (S' := stt σ τ) (kc' := 0) (ks' := 0) rfl ⟨trivial, trivial, trivial, trivial⟩ ?_
    refine R_stat ck_60_12 (by decide) [.int x2, .int 0, .int 3] 0 0 (r := []) rfl rfl (Nat.le_of_ble_eq_true rfl) (Nat.le_refl _) (Nat.le_refl _) ?_
    refine xn_57 (d := d) 0 3 (by omega) (by omega) (fun f l_f u_f e_f => ?_) (fun n_f => ?_)
    · subst e_f
      show RU_60 (d + 1) (0, 0) Post 15 ([(0, .ref 0), (1, .int (nI t)), (2, .int (nI f)), (3, .int x3), (4, .int x4), (5, .int x5), (6, .int x6)]) ([.int 1]) (stt σ τ) 0 0
      refine R_if ck_60_15 (fun c => absurd c (show ¬ (1 : Int32) = 0 from by decide)) (fun _ => ?_)
      refine R_seg sg_60_18 sk_60_18 (pc' := 21) (lv' := [(0, .ref 0), (1, .int (nI t)), (2, .int (nI f)), (3, .int x3), (4, .int x4), (5, .int x5), (6, .int x6)]) (st' := [.int 2, .int 0, .int x3]) (S' := stt σ τ) (kc' := 0) (ks' := 0) rfl ⟨trivial, trivial, trivial, trivial⟩ ?_
      refine R_stat ck_60_21 (by decide) [.int x3, .int 0, .int 2] 0 0 (r := []) rfl rfl (Nat.le_of_ble_eq_true rfl) (Nat.le_refl _) (Nat.le_refl _) ?_
      refine xn_57 (d := d) 0 2 (by omega) (by omega) (fun k l_k u_k e_k => ?_) (fun n_k => ?_)
      · subst e_k
        show RU_60 (d + 1) (0, 0) Post 24 ([(0, .ref 0), (1, .int (nI t)), (2, .int (nI f)), (3, .int (nI k)), (4, .int x4), (5, .int x5), (6, .int x6)]) ([.int 1]) (stt σ τ) 0 0
        refine R_if ck_60_24 (fun c => absurd c (show ¬ (1 : Int32) = 0 from by decide)) (fun _ => ?_)
        refine R_seg sg_60_27 sk_60_27 (pc' := 31) (lv' := [(0, .ref 0), (1, .int (nI t)), (2, .int (nI f)), (3, .int (nI k)), (4, .int x4), (5, .int x5), (6, .int x6)]) (st' := [.int 5, .int 0, .int x4]) (S' := stt σ τ) (kc' := 0) (ks' := 0) rfl ⟨trivial, trivial, trivial, trivial⟩ ?_
        refine R_stat ck_60_31 (by decide) [.int x4, .int 0, .int 5] 0 0 (r := []) rfl rfl (Nat.le_of_ble_eq_true rfl) (Nat.le_refl _) (Nat.le_refl _) ?_
        refine xn_57 (d := d) 0 5 (by omega) (by omega) (fun o l_o u_o e_o => ?_) (fun n_o => ?_)
        · subst e_o
          show RU_60 (d + 1) (0, 0) Post 34 ([(0, .ref 0), (1, .int (nI t)), (2, .int (nI f)), (3, .int (nI k)), (4, .int (nI o)), (5, .int x5), (6, .int x6)]) ([.int 1]) (stt σ τ) 0 0
          refine R_if ck_60_34 (fun c => absurd c (show ¬ (1 : Int32) = 0 from by decide)) (fun _ => ?_)
          refine R_seg sg_60_37 sk_60_37 (pc' := 41) (lv' := [(0, .ref 0), (1, .int (nI t)), (2, .int (nI f)), (3, .int (nI k)), (4, .int (nI o)), (5, .int x5), (6, .int x6)]) (st' := [.int 5, .int 1, .int x5]) (S' := stt σ τ) (kc' := 0) (ks' := 0) rfl ⟨trivial, trivial, trivial, trivial⟩ ?_
          refine R_stat ck_60_41 (by decide) [.int x5, .int 1, .int 5] 0 0 (r := []) rfl rfl (Nat.le_of_ble_eq_true rfl) (Nat.le_refl _) (Nat.le_refl _) ?_
          refine xn_57 (d := d) 1 5 (by omega) (by omega) (fun m l_m u_m e_m => ?_) (fun n_m => ?_)
          · subst e_m
            show RU_60 (d + 1) (0, 0) Post 44 ([(0, .ref 0), (1, .int (nI t)), (2, .int (nI f)), (3, .int (nI k)), (4, .int (nI o)), (5, .int (nI m)), (6, .int x6)]) ([.int 1]) (stt σ τ) 0 0
            refine R_if ck_60_44 (fun _ => ?_) (fun c => absurd (show ¬ (1 : Int32) = 0 from by decide) c)
            refine R_seg sg_60_49 sk_60_49 (pc' := 66) (lv' := [(7, .int (((nI t) * 4) + (nI f))), (0, .ref 0), (1, .int (nI t)), (2, .int (nI f)), (3, .int (nI k)), (4, .int (nI o)), (5, .int (nI m)), (6, .int x6)]) (st' := [.int (nI k), .int (((nI t) * 4) + (nI f)), .ref 20]) (S' := stt σ τ) (kc' := 0) (ks' := 0) rfl ⟨trivial, trivial, trivial, trivial, trivial, (by decide), trivial, rfl, rfl, trivial, trivial, trivial⟩ ?_
            refine R_iast ca_60_66 (j := (t * 4) + f) rfl (by simp only [nl_0, nl_1, nl_2, nl_3, nl_4, nl_5, nl_6, nl_8, nl_20, nl_31, nl_32, pk_mul, nI_add]) (by omega) ?_
            refine R_seg sg_60_67 sk_60_67 (pc' := 78) (lv' := [(7, .int (((nI t) * 4) + (nI f))), (0, .ref 0), (1, .int (nI t)), (2, .int (nI f)), (3, .int (nI k)), (4, .int (nI o)), (5, .int (nI m)), (6, .int x6)]) (st' := [.int (nI o), .int (((nI t) * 4) + (nI f)), .ref 21]) (S' := stt (up2 σ 20 ((t * 4) + f) (nI k)) τ) (kc' := 0) (ks' := 0) rfl ⟨trivial, rfl, rfl, trivial, trivial, trivial⟩ ?_
            refine R_iast ca_60_78 (j := (t * 4) + f) rfl (by simp only [nl_0, nl_1, nl_2, nl_3, nl_4, nl_5, nl_6, nl_8, nl_20, nl_31, nl_32, pk_mul, nI_add]) (by omega) ?_
            refine R_seg sg_60_79 sk_60_79 (pc' := 90) (lv' := [(7, .int (((nI t) * 4) + (nI f))), (0, .ref 0), (1, .int (nI t)), (2, .int (nI f)), (3, .int (nI k)), (4, .int (nI o)), (5, .int (nI m)), (6, .int x6)]) (st' := [.int (nI m), .int (((nI t) * 4) + (nI f)), .ref 22]) (S' := stt (up2 (up2 σ 20 ((t * 4) + f) (nI k)) 21 ((t * 4) + f) (nI o)) τ) (kc' := 0) (ks' := 0) rfl ⟨trivial, rfl, rfl, trivial, trivial, trivial⟩ ?_
            refine R_iast ca_60_90 (j := (t * 4) + f) rfl (by simp only [nl_0, nl_1, nl_2, nl_3, nl_4, nl_5, nl_6, nl_8, nl_20, nl_31, nl_32, pk_mul, nI_add]) (by omega) ?_
            refine R_seg sg_60_91 sk_60_91 (pc' := 102) (lv' := [(7, .int (((nI t) * 4) + (nI f))), (0, .ref 0), (1, .int (nI t)), (2, .int (nI f)), (3, .int (nI k)), (4, .int (nI o)), (5, .int (nI m)), (6, .int x6)]) (st' := [.int x6, .int (((nI t) * 4) + (nI f)), .ref 23]) (S' := stt (up2 (up2 (up2 σ 20 ((t * 4) + f) (nI k)) 21 ((t * 4) + f) (nI o)) 22 ((t * 4) + f) (nI m)) τ) (kc' := 0) (ks' := 0) rfl ⟨trivial, rfl, rfl, trivial, trivial, trivial⟩ ?_
            refine R_zast ca_60_102 (j := (t * 4) + f) rfl (by simp only [nl_0, nl_1, nl_2, nl_3, nl_4, nl_5, nl_6, nl_8, nl_20, nl_31, nl_32, pk_mul, nI_add]) (by omega) (vz hb) ?_
            refine R_seg sg_60_103 sk_60_103 (pc' := 104) (lv' := [(7, .int (((nI t) * 4) + (nI f))), (0, .ref 0), (1, .int (nI t)), (2, .int (nI f)), (3, .int (nI k)), (4, .int (nI o)), (5, .int (nI m)), (6, .int x6)]) (st' := [.int 1]) (S' := stt (up2 (up2 (up2 (up2 σ 20 ((t * 4) + f) (nI k)) 21 ((t * 4) + f) (nI o)) 22 ((t * 4) + f) (nI m)) 23 ((t * 4) + f) x6) τ) (kc' := 0) (ks' := 0) rfl ⟨trivial, trivial⟩ ?_
            refine R_iret ck_60_104 rfl rfl ?_
            exact hs t f k o m (by omega) (by omega) (by omega) (by omega) (by omega) (by omega) rfl rfl rfl rfl rfl
          · show RU_60 (d + 1) (0, 0) Post 44 ([(0, .ref 0), (1, .int (nI t)), (2, .int (nI f)), (3, .int (nI k)), (4, .int (nI o)), (5, .int x5), (6, .int x6)]) ([.int 0]) (stt σ τ) 0 0
            refine R_if ck_60_44 (fun c => absurd c (show ¬ ¬ (0 : Int32) = 0 from by decide)) (fun _ => ?_)
            refine R_seg sg_60_47 sk_60_47 (pc' := 48) (lv' := [(0, .ref 0), (1, .int (nI t)), (2, .int (nI f)), (3, .int (nI k)), (4, .int (nI o)), (5, .int x5), (6, .int x6)]) (st' := [.int 0]) (S' := stt σ τ) (kc' := 0) (ks' := 0) rfl ⟨trivial, trivial⟩ ?_
            refine R_iret ck_60_48 rfl rfl ?_
            exact hf (fun q => by first | exact n_t q.1 | exact n_f q.2.1 | exact n_k q.2.2.1 | exact n_o q.2.2.2.1 | exact n_m q.2.2.2.2)
        · show RU_60 (d + 1) (0, 0) Post 34 ([(0, .ref 0), (1, .int (nI t)), (2, .int (nI f)), (3, .int (nI k)), (4, .int x4), (5, .int x5), (6, .int x6)]) ([.int 0]) (stt σ τ) 0 0
          refine R_if ck_60_34 (fun _ => ?_) (fun c => absurd (show (0 : Int32) = 0 from by decide) c)
          refine R_seg sg_60_47 sk_60_47 (pc' := 48) (lv' := [(0, .ref 0), (1, .int (nI t)), (2, .int (nI f)), (3, .int (nI k)), (4, .int x4), (5, .int x5), (6, .int x6)]) (st' := [.int 0]) (S' := stt σ τ) (kc' := 0) (ks' := 0) rfl ⟨trivial, trivial⟩ ?_
          refine R_iret ck_60_48 rfl rfl ?_
          exact hf (fun q => by first | exact n_t q.1 | exact n_f q.2.1 | exact n_k q.2.2.1 | exact n_o q.2.2.2.1 | exact n_m q.2.2.2.2)
      · show RU_60 (d + 1) (0, 0) Post 24 ([(0, .ref 0), (1, .int (nI t)), (2, .int (nI f)), (3, .int x3), (4, .int x4), (5, .int x5), (6, .int x6)]) ([.int 0]) (stt σ τ) 0 0
        refine R_if ck_60_24 (fun _ => ?_) (fun c => absurd (show (0 : Int32) = 0 from by decide) c)
        refine R_seg sg_60_47 sk_60_47 (pc' := 48) (lv' := [(0, .ref 0), (1, .int (nI t)), (2, .int (nI f)), (3, .int x3), (4, .int x4), (5, .int x5), (6, .int x6)]) (st' := [.int 0]) (S' := stt σ τ) (kc' := 0) (ks' := 0) rfl ⟨trivial, trivial⟩ ?_
        refine R_iret ck_60_48 rfl rfl ?_
        exact hf (fun q => by first | exact n_t q.1 | exact n_f q.2.1 | exact n_k q.2.2.1 | exact n_o q.2.2.2.1 | exact n_m q.2.2.2.2)
    · show RU_60 (d + 1) (0, 0) Post 15 ([(0, .ref 0), (1, .int (nI t)), (2, .int x2), (3, .int x3), (4, .int x4), (5, .int x5), (6, .int x6)]) ([.int 0]) (stt σ τ) 0 0
      refine R_if ck_60_15 (fun _ => ?_) (fun c => absurd (show (0 : Int32) = 0 from by decide) c)
      refine R_seg sg_60_47 sk_60_47 (pc' := 48) (lv' := [(0, .ref 0), (1, .int (nI t)), (2, .int x2), (3, .int x3), (4, .int x4), (5, .int x5), (6, .int x6)]) (st' := [.int 0]) (S' := stt σ τ) (kc' := 0) (ks' := 0) rfl ⟨trivial, trivial⟩ ?_
      refine R_iret ck_60_48 rfl rfl ?_
      exact hf (fun q => by first | exact n_t q.1 | exact n_f q.2.1 | exact n_k q.2.2.1 | exact n_o q.2.2.2.1 | exact n_m q.2.2.2.2)
  · show RU_60 (d + 1) (0, 0) Post 6 ([(0, .ref 0), (1, .int x1), (2, .int x2), (3, .int x3), (4, .int x4), (5, .int x5), (6, .int x6)]) ([.int 0]) (stt σ τ) 0 0
    refine R_if ck_60_6 (fun _ => ?_) (fun c => absurd (show (0 : Int32) = 0 from by decide) c)
    refine R_seg sg_60_47 sk_60_47 (pc' := 48) (lv' := [(0, .ref 0), (1, .int x1), (2, .int x2), (3, .int x3), (4, .int x4), (5, .int x5), (6, .int x6)]) (st' := [.int 0]) (S' := stt σ τ) (kc' := 0) (ks' := 0) rfl ⟨trivial, trivial⟩ ?_
    refine R_iret ck_60_48 rfl rfl ?_
    exact hf (fun q => by first | exact n_t q.1 | exact n_f q.2.1 | exact n_k q.2.2.1 | exact n_o q.2.2.2.1 | exact n_m q.2.2.2.2)
set_option maxRecDepth 20000 in
theorem x_64 {d : Nat} {S : Sto} {x y z : Int32} {Post : Option Value → Sto → Prop} (h1 : ∀ t k f : Nat, t < 6 → k < 32 → f < 4 → x = nI t → y = nI k → z = nI f → Post (some (.int 1)) S) (h0 : ¬ (rg x 0 5 ∧ rg y 0 31 ∧ rg z 0 3) → Post (some (.int 0)) S) : Ex (d + 3) 64 [.int x, .int y, .int z] S 0 0 Post := by
  refine en_64 (Nat.le_of_ble_eq_true rfl) ?_
  show RU_64 (d + 2) (0, 0) Post 0 ([(0, .int x), (1, .int y), (2, .int z)]) ([]) S 0 0
  refine R_seg sg_64_0 sk_64_0 (pc' := 2) (lv' := [(0, .int x), (1, .int y), (2, .int z)]) (st' := [.int y, .int x]) (S' := S) (kc' := 0) (ks' := 0) rfl ⟨trivial, trivial, trivial⟩ ?_
  refine R_stat ck_64_2 (by decide) [.int x, .int y] 0 0 (r := []) rfl rfl (Nat.le_of_ble_eq_true rfl) (Nat.le_refl _) (Nat.le_refl _) ?_
  refine x_62 (d := d) (fun t k b_t b_k e_t e_k => ?_) (fun n_tk => ?_)
  · subst e_t; subst e_k
    show RU_64 (d + 2) (0, 0) Post 5 ([(0, .int (nI t)), (1, .int (nI k)), (2, .int z)]) ([.int 1]) S 0 0
    refine R_if ck_64_5 (fun c => absurd c (show ¬ (1 : Int32) = 0 from by decide)) (fun _ => ?_)
    refine R_seg sg_64_8 sk_64_8 (pc' := 11) (lv' := [(0, .int (nI t)), (1, .int (nI k)), (2, .int z)]) (st' := [.int 3, .int 0, .int z]) (S' := S) (kc' := 0) (ks' := 0) rfl ⟨trivial, trivial, trivial, trivial⟩ ?_
    refine R_stat ck_64_11 (by decide) [.int z, .int 0, .int 3] 0 0 (r := []) rfl rfl (Nat.le_of_ble_eq_true rfl) (Nat.le_refl _) (Nat.le_refl _) ?_
    refine xn_57 (d := d + 1) 0 3 (by omega) (by omega) (fun f l_f u_f e_f => ?_) (fun n_f => ?_)
    · subst e_f
      show RU_64 (d + 2) (0, 0) Post 14 ([(0, .int (nI t)), (1, .int (nI k)), (2, .int (nI f))]) ([.int 1]) S 0 0
      refine R_if ck_64_14 (fun c => absurd c (show ¬ (1 : Int32) = 0 from by decide)) (fun _ => ?_)
      refine R_seg sg_64_17 sk_64_17 (pc' := 18) (lv' := [(0, .int (nI t)), (1, .int (nI k)), (2, .int (nI f))]) (st' := [.int 1]) (S' := S) (kc' := 0) (ks' := 0) rfl ⟨trivial, trivial⟩ ?_
      refine R_goto ck_64_18 ?_
      refine R_iret ck_64_22 rfl rfl ?_
      exact h1 t k f (by omega) (by omega) (by omega) rfl rfl rfl
    · show RU_64 (d + 2) (0, 0) Post 14 ([(0, .int (nI t)), (1, .int (nI k)), (2, .int z)]) ([.int 0]) S 0 0
      refine R_if ck_64_14 (fun _ => ?_) (fun c => absurd (show (0 : Int32) = 0 from by decide) c)
      refine R_seg sg_64_21 sk_64_21 (pc' := 22) (lv' := [(0, .int (nI t)), (1, .int (nI k)), (2, .int z)]) (st' := [.int 0]) (S' := S) (kc' := 0) (ks' := 0) rfl ⟨trivial, trivial⟩ ?_
      refine R_iret ck_64_22 rfl rfl ?_
      exact h0 (fun q => by first | exact n_tk ⟨q.1, q.2.1⟩ | exact n_f q.2.2)
  · show RU_64 (d + 2) (0, 0) Post 5 ([(0, .int x), (1, .int y), (2, .int z)]) ([.int 0]) S 0 0
    refine R_if ck_64_5 (fun _ => ?_) (fun c => absurd (show (0 : Int32) = 0 from by decide) c)
    refine R_seg sg_64_21 sk_64_21 (pc' := 22) (lv' := [(0, .int x), (1, .int y), (2, .int z)]) (st' := [.int 0]) (S' := S) (kc' := 0) (ks' := 0) rfl ⟨trivial, trivial⟩ ?_
    refine R_iret ck_64_22 rfl rfl ?_
    exact h0 (fun q => by first | exact n_tk ⟨q.1, q.2.1⟩ | exact n_f q.2.2)
def c_thing (σ : Nat → Nat → Int32) (i : Nat) (b : Int32) : Nat → Nat → Int32 := up2 (up2 σ 24 i b) 25 i 0
set_option maxRecDepth 20000 in
theorem x_61 {d : Nat} {σ : Nat → Nat → Int32} {τ : Nat → Nat → Int64} {x1 x2 x3 : Int32} (hb : x3 = 0 ∨ x3 = 1) {Post : Option Value → Sto → Prop} (hs : ∀ t k : Nat, t < 6 → k < 32 → x1 = nI t → x2 = nI k → ¬ σ 24 (t * 32 + k) = x3 → Post (some (.int 1)) (stt (c_thing σ (t * 32 + k) x3) τ)) (hf : ¬ (rg x1 0 5 ∧ rg x2 0 31 ∧ ∀ t k : Nat, x1 = nI t → x2 = nI k → ¬ σ 24 (t * 32 + k) = x3) → Post (some (.int 0)) (stt σ τ)) : Ex (d + 3) 61 [.ref 0, .int x1, .int x2, .int x3] (stt σ τ) 0 0 Post := by
  refine en_61 (Nat.le_of_ble_eq_true rfl) ?_
  show RU_61 (d + 2) (0, 0) Post 0 ([(0, .ref 0), (1, .int x1), (2, .int x2), (3, .int x3)]) ([]) (stt σ τ) 0 0
  refine R_seg sg_61_0 sk_61_0 (pc' := 2) (lv' := [(0, .ref 0), (1, .int x1), (2, .int x2), (3, .int x3)]) (st' := [.int x2, .int x1]) (S' := stt σ τ) (kc' := 0) (ks' := 0) rfl ⟨trivial, trivial, trivial⟩ ?_
  refine R_stat ck_61_2 (by decide) [.int x1, .int x2] 0 0 (r := []) rfl rfl (Nat.le_of_ble_eq_true rfl) (Nat.le_refl _) (Nat.le_refl _) ?_
  refine x_62 (d := d) (fun t k b_t b_k e_t e_k => ?_) (fun n_tk => ?_)
  · subst e_t; subst e_k
    show RU_61 (d + 2) (0, 0) Post 5 ([(0, .ref 0), (1, .int (nI t)), (2, .int (nI k)), (3, .int x3)]) ([.int 1]) (stt σ τ) 0 0
    refine R_if ck_61_5 (fun _ => ?_) (fun c => absurd (show ¬ (1 : Int32) = 0 from by decide) c)
    refine R_seg sg_61_10 sk_61_10 (pc' := 27) (lv' := [(4, .int (((nI t) * 32) + (nI k))), (0, .ref 0), (1, .int (nI t)), (2, .int (nI k)), (3, .int x3)]) (st' := [.int (((nI t) * 32) + (nI k)), .ref 24]) (S' := stt σ τ) (kc' := 0) (ks' := 0) rfl ⟨trivial, trivial, trivial, trivial, trivial, (by decide), trivial, rfl, rfl, trivial, trivial⟩ ?_
    refine R_bald ca_61_27 (j := (t * 32) + k) rfl (by simp only [nl_0, nl_1, nl_2, nl_3, nl_4, nl_5, nl_6, nl_8, nl_20, nl_31, nl_32, pk_mul, nI_add]) (by omega) ?_
    refine R_seg sg_61_28 sk_61_28 (pc' := 29) (lv' := [(4, .int (((nI t) * 32) + (nI k))), (0, .ref 0), (1, .int (nI t)), (2, .int (nI k)), (3, .int x3)]) (st' := [.int x3, .int (σ 24 ((t * 32) + k))]) (S' := stt σ τ) (kc' := 0) (ks' := 0) rfl ⟨trivial, trivial⟩ ?_
    refine R_icmp ck_61_29 (fun (c_29 : ¬ (σ 24 ((t * 32) + k)) = x3) => ?_) (fun (c_29 : ¬ ¬ (σ 24 ((t * 32) + k)) = x3) => ?_)
    · refine R_seg sg_61_34 sk_61_34 (pc' := 44) (lv' := [(4, .int (((nI t) * 32) + (nI k))), (0, .ref 0), (1, .int (nI t)), (2, .int (nI k)), (3, .int x3)]) (st' := [.int x3, .int (((nI t) * 32) + (nI k)), .ref 24]) (S' := stt σ τ) (kc' := 0) (ks' := 0) rfl ⟨trivial, rfl, rfl, trivial, trivial, trivial⟩ ?_
      refine R_zast ca_61_44 (j := (t * 32) + k) rfl (by simp only [nl_0, nl_1, nl_2, nl_3, nl_4, nl_5, nl_6, nl_8, nl_20, nl_31, nl_32, pk_mul, nI_add]) (by omega) (vz hb) ?_
      refine R_seg sg_61_45 sk_61_45 (pc' := 55) (lv' := [(4, .int (((nI t) * 32) + (nI k))), (0, .ref 0), (1, .int (nI t)), (2, .int (nI k)), (3, .int x3)]) (st' := [.int 0, .int (((nI t) * 32) + (nI k)), .ref 25]) (S' := stt (up2 σ 24 ((t * 32) + k) x3) τ) (kc' := 0) (ks' := 0) rfl ⟨trivial, rfl, rfl, trivial, trivial, trivial⟩ ?_
      refine R_iast ca_61_55 (j := (t * 32) + k) rfl (by simp only [nl_0, nl_1, nl_2, nl_3, nl_4, nl_5, nl_6, nl_8, nl_20, nl_31, nl_32, pk_mul, nI_add]) (by omega) ?_
      refine R_seg sg_61_56 sk_61_56 (pc' := 57) (lv' := [(4, .int (((nI t) * 32) + (nI k))), (0, .ref 0), (1, .int (nI t)), (2, .int (nI k)), (3, .int x3)]) (st' := [.int 1]) (S' := stt (up2 (up2 σ 24 ((t * 32) + k) x3) 25 ((t * 32) + k) 0) τ) (kc' := 0) (ks' := 0) rfl ⟨trivial, trivial⟩ ?_
      refine R_iret ck_61_57 rfl rfl ?_
      exact hs t k (by omega) (by omega) rfl rfl (by assumption)
    · refine R_seg sg_61_32 sk_61_32 (pc' := 33) (lv' := [(4, .int (((nI t) * 32) + (nI k))), (0, .ref 0), (1, .int (nI t)), (2, .int (nI k)), (3, .int x3)]) (st' := [.int 0]) (S' := stt σ τ) (kc' := 0) (ks' := 0) rfl ⟨trivial, trivial⟩ ?_
      refine R_iret ck_61_33 rfl rfl ?_
      exact hf (fun q => by obtain ⟨-, -, h⟩ := q; exact h t k rfl rfl (Classical.not_not.mp (by assumption)))
  · show RU_61 (d + 2) (0, 0) Post 5 ([(0, .ref 0), (1, .int x1), (2, .int x2), (3, .int x3)]) ([.int 0]) (stt σ τ) 0 0
    refine R_if ck_61_5 (fun c => absurd c (show ¬ ¬ (0 : Int32) = 0 from by decide)) (fun _ => ?_)
    refine R_seg sg_61_8 sk_61_8 (pc' := 9) (lv' := [(0, .ref 0), (1, .int x1), (2, .int x2), (3, .int x3)]) (st' := [.int 0]) (S' := stt σ τ) (kc' := 0) (ks' := 0) rfl ⟨trivial, trivial⟩ ?_
    refine R_iret ck_61_9 rfl rfl ?_
    exact hf (fun q => n_tk ⟨q.1, q.2.1⟩)
def c_number (σ : Nat → Nat → Int32) (i f : Nat) (v : Int32) : Nat → Nat → Int32 := up2 (up2 σ 26 (i * 4 + f) v) 25 i 0
set_option maxRecDepth 20000 in
theorem x_63 {d : Nat} {σ : Nat → Nat → Int32} {τ : Nat → Nat → Int64} {x1 x2 x3 x4 : Int32} {Post : Option Value → Sto → Prop} (hs : ∀ t k f : Nat, t < 6 → k < 32 → f < 4 → x1 = nI t → x2 = nI k → x3 = nI f → ¬ x4 < (-99999) → ¬ 99999 < x4 → Post (some (.int 1)) (stt (c_number σ (t * 32 + k) f x4) τ)) (hf : ¬ (rg x1 0 5 ∧ rg x2 0 31 ∧ rg x3 0 3 ∧ ¬ x4 < (-99999) ∧ ¬ 99999 < x4) → Post (some (.int 0)) (stt σ τ)) : Ex (d + 4) 63 [.ref 0, .int x1, .int x2, .int x3, .int x4] (stt σ τ) 0 0 Post := by
  refine en_63 (Nat.le_of_ble_eq_true rfl) ?_
  show RU_63 (d + 3) (0, 0) Post 0 ([(0, .ref 0), (1, .int x1), (2, .int x2), (3, .int x3), (4, .int x4)]) ([]) (stt σ τ) 0 0
  refine R_seg sg_63_0 sk_63_0 (pc' := 3) (lv' := [(0, .ref 0), (1, .int x1), (2, .int x2), (3, .int x3), (4, .int x4)]) (st' := [.int x3, .int x2, .int x1]) (S' := stt σ τ) (kc' := 0) (ks' := 0) rfl ⟨trivial, trivial, trivial, trivial⟩ ?_
  refine R_stat ck_63_3 (by decide) [.int x1, .int x2, .int x3] 0 0 (r := []) rfl rfl (Nat.le_of_ble_eq_true rfl) (Nat.le_refl _) (Nat.le_refl _) ?_
  refine x_64 (d := d) (fun t k f b_t b_k b_f e_t e_k e_f => ?_) (fun n_c => ?_)
  · subst e_t; subst e_k; subst e_f
    show RU_63 (d + 3) (0, 0) Post 6 ([(0, .ref 0), (1, .int (nI t)), (2, .int (nI k)), (3, .int (nI f)), (4, .int x4)]) ([.int 1]) (stt σ τ) 0 0
    refine R_if ck_63_6 (fun c => absurd c (show ¬ (1 : Int32) = 0 from by decide)) (fun _ => ?_)
    refine R_seg sg_63_9 sk_63_9 (pc' := 15) (lv' := [(0, .ref 0), (1, .int (nI t)), (2, .int (nI k)), (3, .int (nI f)), (4, .int x4)]) (st' := [.int 99999, .int (-99999), .int x4]) (S' := stt σ τ) (kc' := 0) (ks' := 0) rfl ⟨trivial, trivial, trivial, trivial⟩ ?_
    refine R_stat ck_63_15 (by decide) [.int x4, .int (-99999), .int 99999] 0 0 (r := []) rfl rfl (Nat.le_of_ble_eq_true rfl) (Nat.le_refl _) (Nat.le_refl _) ?_
    refine x_57 (d := d + 2) (fun c_15a c_15b => ?_) (fun c_15n => ?_)
    · show RU_63 (d + 3) (0, 0) Post 18 ([(0, .ref 0), (1, .int (nI t)), (2, .int (nI k)), (3, .int (nI f)), (4, .int x4)]) ([.int 1]) (stt σ τ) 0 0
      refine R_if ck_63_18 (fun _ => ?_) (fun c => absurd (show ¬ (1 : Int32) = 0 from by decide) c)
      refine R_seg sg_63_23 sk_63_23 (pc' := 46) (lv' := [(5, .int (((nI t) * 32) + (nI k))), (0, .ref 0), (1, .int (nI t)), (2, .int (nI k)), (3, .int (nI f)), (4, .int x4)]) (st' := [.int x4, .int (((((nI t) * 32) + (nI k)) * 4) + (nI f)), .ref 26]) (S' := stt σ τ) (kc' := 0) (ks' := 0) rfl ⟨trivial, trivial, trivial, trivial, trivial, (by decide), trivial, rfl, rfl, trivial, trivial, trivial, trivial, trivial, trivial, trivial⟩ ?_
      refine R_iast ca_63_46 (j := (((t * 32) + k) * 4) + f) rfl (by simp only [nl_0, nl_1, nl_2, nl_3, nl_4, nl_5, nl_6, nl_8, nl_20, nl_31, nl_32, pk_mul, nI_add]) (by omega) ?_
      refine R_seg sg_63_47 sk_63_47 (pc' := 57) (lv' := [(5, .int (((nI t) * 32) + (nI k))), (0, .ref 0), (1, .int (nI t)), (2, .int (nI k)), (3, .int (nI f)), (4, .int x4)]) (st' := [.int 0, .int (((nI t) * 32) + (nI k)), .ref 25]) (S' := stt (up2 σ 26 ((((t * 32) + k) * 4) + f) x4) τ) (kc' := 0) (ks' := 0) rfl ⟨trivial, rfl, rfl, trivial, trivial, trivial⟩ ?_
      refine R_iast ca_63_57 (j := (t * 32) + k) rfl (by simp only [nl_0, nl_1, nl_2, nl_3, nl_4, nl_5, nl_6, nl_8, nl_20, nl_31, nl_32, pk_mul, nI_add]) (by omega) ?_
      refine R_seg sg_63_58 sk_63_58 (pc' := 59) (lv' := [(5, .int (((nI t) * 32) + (nI k))), (0, .ref 0), (1, .int (nI t)), (2, .int (nI k)), (3, .int (nI f)), (4, .int x4)]) (st' := [.int 1]) (S' := stt (up2 (up2 σ 26 ((((t * 32) + k) * 4) + f) x4) 25 ((t * 32) + k) 0) τ) (kc' := 0) (ks' := 0) rfl ⟨trivial, trivial⟩ ?_
      refine R_iret ck_63_59 rfl rfl ?_
      exact hs t k f (by omega) (by omega) (by omega) rfl rfl rfl c_15a c_15b
    · show RU_63 (d + 3) (0, 0) Post 18 ([(0, .ref 0), (1, .int (nI t)), (2, .int (nI k)), (3, .int (nI f)), (4, .int x4)]) ([.int 0]) (stt σ τ) 0 0
      refine R_if ck_63_18 (fun c => absurd c (show ¬ ¬ (0 : Int32) = 0 from by decide)) (fun _ => ?_)
      refine R_seg sg_63_21 sk_63_21 (pc' := 22) (lv' := [(0, .ref 0), (1, .int (nI t)), (2, .int (nI k)), (3, .int (nI f)), (4, .int x4)]) (st' := [.int 0]) (S' := stt σ τ) (kc' := 0) (ks' := 0) rfl ⟨trivial, trivial⟩ ?_
      refine R_iret ck_63_22 rfl rfl ?_
      first | exact hf (fun q => n_c ⟨q.1, q.2.1, q.2.2.1⟩) | (refine hf (fun q => ?_); rcases c_15n with c | c; exact q.2.2.2.1 c; exact q.2.2.2.2 c)
  · show RU_63 (d + 3) (0, 0) Post 6 ([(0, .ref 0), (1, .int x1), (2, .int x2), (3, .int x3), (4, .int x4)]) ([.int 0]) (stt σ τ) 0 0
    refine R_if ck_63_6 (fun _ => ?_) (fun c => absurd (show (0 : Int32) = 0 from by decide) c)
    refine R_seg sg_63_21 sk_63_21 (pc' := 22) (lv' := [(0, .ref 0), (1, .int x1), (2, .int x2), (3, .int x3), (4, .int x4)]) (st' := [.int 0]) (S' := stt σ τ) (kc' := 0) (ks' := 0) rfl ⟨trivial, trivial⟩ ?_
    refine R_iret ck_63_22 rfl rfl ?_
    first | exact hf (fun q => n_c ⟨q.1, q.2.1, q.2.2.1⟩) | (refine hf (fun q => ?_); rcases c_15n with c | c; exact q.2.2.2.1 c; exact q.2.2.2.2 c)
def c_key (σ : Nat → Nat → Int32) (i f : Nat) (v : Int32) : Nat → Nat → Int32 := up2 (up2 σ 27 (i * 4 + f) v) 25 i 0
set_option maxRecDepth 20000 in
theorem x_65 {d : Nat} {σ : Nat → Nat → Int32} {τ : Nat → Nat → Int64} {x1 x2 x3 x4 : Int32} {Post : Option Value → Sto → Prop} (hs : ∀ t k f : Nat, t < 6 → k < 32 → f < 4 → x1 = nI t → x2 = nI k → x3 = nI f → ¬ x4 < (-1) → ¬ 31 < x4 → Post (some (.int 1)) (stt (c_key σ (t * 32 + k) f x4) τ)) (hf : ¬ (rg x1 0 5 ∧ rg x2 0 31 ∧ rg x3 0 3 ∧ ¬ x4 < (-1) ∧ ¬ 31 < x4) → Post (some (.int 0)) (stt σ τ)) : Ex (d + 4) 65 [.ref 0, .int x1, .int x2, .int x3, .int x4] (stt σ τ) 0 0 Post := by
  refine en_65 (Nat.le_of_ble_eq_true rfl) ?_
  show RU_65 (d + 3) (0, 0) Post 0 ([(0, .ref 0), (1, .int x1), (2, .int x2), (3, .int x3), (4, .int x4)]) ([]) (stt σ τ) 0 0
  refine R_seg sg_65_0 sk_65_0 (pc' := 3) (lv' := [(0, .ref 0), (1, .int x1), (2, .int x2), (3, .int x3), (4, .int x4)]) (st' := [.int x3, .int x2, .int x1]) (S' := stt σ τ) (kc' := 0) (ks' := 0) rfl ⟨trivial, trivial, trivial, trivial⟩ ?_
  refine R_stat ck_65_3 (by decide) [.int x1, .int x2, .int x3] 0 0 (r := []) rfl rfl (Nat.le_of_ble_eq_true rfl) (Nat.le_refl _) (Nat.le_refl _) ?_
  refine x_64 (d := d) (fun t k f b_t b_k b_f e_t e_k e_f => ?_) (fun n_c => ?_)
  · subst e_t; subst e_k; subst e_f
    show RU_65 (d + 3) (0, 0) Post 6 ([(0, .ref 0), (1, .int (nI t)), (2, .int (nI k)), (3, .int (nI f)), (4, .int x4)]) ([.int 1]) (stt σ τ) 0 0
    refine R_if ck_65_6 (fun c => absurd c (show ¬ (1 : Int32) = 0 from by decide)) (fun _ => ?_)
    refine R_seg sg_65_9 sk_65_9 (pc' := 14) (lv' := [(0, .ref 0), (1, .int (nI t)), (2, .int (nI k)), (3, .int (nI f)), (4, .int x4)]) (st' := [.int 31, .int (-1), .int x4]) (S' := stt σ τ) (kc' := 0) (ks' := 0) rfl ⟨trivial, trivial, trivial, trivial⟩ ?_
    refine R_stat ck_65_14 (by decide) [.int x4, .int (-1), .int 31] 0 0 (r := []) rfl rfl (Nat.le_of_ble_eq_true rfl) (Nat.le_refl _) (Nat.le_refl _) ?_
    refine x_57 (d := d + 2) (fun c_14a c_14b => ?_) (fun c_14n => ?_)
    · show RU_65 (d + 3) (0, 0) Post 17 ([(0, .ref 0), (1, .int (nI t)), (2, .int (nI k)), (3, .int (nI f)), (4, .int x4)]) ([.int 1]) (stt σ τ) 0 0
      refine R_if ck_65_17 (fun _ => ?_) (fun c => absurd (show ¬ (1 : Int32) = 0 from by decide) c)
      refine R_seg sg_65_22 sk_65_22 (pc' := 45) (lv' := [(5, .int (((nI t) * 32) + (nI k))), (0, .ref 0), (1, .int (nI t)), (2, .int (nI k)), (3, .int (nI f)), (4, .int x4)]) (st' := [.int x4, .int (((((nI t) * 32) + (nI k)) * 4) + (nI f)), .ref 27]) (S' := stt σ τ) (kc' := 0) (ks' := 0) rfl ⟨trivial, trivial, trivial, trivial, trivial, (by decide), trivial, rfl, rfl, trivial, trivial, trivial, trivial, trivial, trivial, trivial⟩ ?_
      refine R_iast ca_65_45 (j := (((t * 32) + k) * 4) + f) rfl (by simp only [nl_0, nl_1, nl_2, nl_3, nl_4, nl_5, nl_6, nl_8, nl_20, nl_31, nl_32, pk_mul, nI_add]) (by omega) ?_
      refine R_seg sg_65_46 sk_65_46 (pc' := 56) (lv' := [(5, .int (((nI t) * 32) + (nI k))), (0, .ref 0), (1, .int (nI t)), (2, .int (nI k)), (3, .int (nI f)), (4, .int x4)]) (st' := [.int 0, .int (((nI t) * 32) + (nI k)), .ref 25]) (S' := stt (up2 σ 27 ((((t * 32) + k) * 4) + f) x4) τ) (kc' := 0) (ks' := 0) rfl ⟨trivial, rfl, rfl, trivial, trivial, trivial⟩ ?_
      refine R_iast ca_65_56 (j := (t * 32) + k) rfl (by simp only [nl_0, nl_1, nl_2, nl_3, nl_4, nl_5, nl_6, nl_8, nl_20, nl_31, nl_32, pk_mul, nI_add]) (by omega) ?_
      refine R_seg sg_65_57 sk_65_57 (pc' := 58) (lv' := [(5, .int (((nI t) * 32) + (nI k))), (0, .ref 0), (1, .int (nI t)), (2, .int (nI k)), (3, .int (nI f)), (4, .int x4)]) (st' := [.int 1]) (S' := stt (up2 (up2 σ 27 ((((t * 32) + k) * 4) + f) x4) 25 ((t * 32) + k) 0) τ) (kc' := 0) (ks' := 0) rfl ⟨trivial, trivial⟩ ?_
      refine R_iret ck_65_58 rfl rfl ?_
      exact hs t k f (by omega) (by omega) (by omega) rfl rfl rfl c_14a c_14b
    · show RU_65 (d + 3) (0, 0) Post 17 ([(0, .ref 0), (1, .int (nI t)), (2, .int (nI k)), (3, .int (nI f)), (4, .int x4)]) ([.int 0]) (stt σ τ) 0 0
      refine R_if ck_65_17 (fun c => absurd c (show ¬ ¬ (0 : Int32) = 0 from by decide)) (fun _ => ?_)
      refine R_seg sg_65_20 sk_65_20 (pc' := 21) (lv' := [(0, .ref 0), (1, .int (nI t)), (2, .int (nI k)), (3, .int (nI f)), (4, .int x4)]) (st' := [.int 0]) (S' := stt σ τ) (kc' := 0) (ks' := 0) rfl ⟨trivial, trivial⟩ ?_
      refine R_iret ck_65_21 rfl rfl ?_
      first | exact hf (fun q => n_c ⟨q.1, q.2.1, q.2.2.1⟩) | (refine hf (fun q => ?_); rcases c_14n with c | c; exact q.2.2.2.1 c; exact q.2.2.2.2 c)
  · show RU_65 (d + 3) (0, 0) Post 6 ([(0, .ref 0), (1, .int x1), (2, .int x2), (3, .int x3), (4, .int x4)]) ([.int 0]) (stt σ τ) 0 0
    refine R_if ck_65_6 (fun _ => ?_) (fun c => absurd (show (0 : Int32) = 0 from by decide) c)
    refine R_seg sg_65_20 sk_65_20 (pc' := 21) (lv' := [(0, .ref 0), (1, .int x1), (2, .int x2), (3, .int x3), (4, .int x4)]) (st' := [.int 0]) (S' := stt σ τ) (kc' := 0) (ks' := 0) rfl ⟨trivial, trivial⟩ ?_
    refine R_iret ck_65_21 rfl rfl ?_
    first | exact hf (fun q => n_c ⟨q.1, q.2.1, q.2.2.1⟩) | (refine hf (fun q => ?_); rcases c_14n with c | c; exact q.2.2.2.1 c; exact q.2.2.2.2 c)
def c_row (σ : Nat → Nat → Int32) (i f n : Nat) (v : Int32) : Nat → Nat → Int32 := up2 (up2 (up2 σ 28 (i * 4 + f) (nI n)) 29 (i * 4 + f) v) 25 i 0
set_option maxRecDepth 20000 in
theorem x_66 {d : Nat} {σ : Nat → Nat → Int32} {τ : Nat → Nat → Int64} {x1 x2 x3 x4 x5 : Int32} {Post : Option Value → Sto → Prop} (hs : ∀ t k f n : Nat, t < 6 → k < 32 → f < 4 → n ≤ 5 → x1 = nI t → x2 = nI k → x3 = nI f → x4 = nI n → Post (some (.int 1)) (stt (c_row σ (t * 32 + k) f n x5) τ)) (hf : ¬ (rg x1 0 5 ∧ rg x2 0 31 ∧ rg x3 0 3 ∧ rg x4 0 5) → Post (some (.int 0)) (stt σ τ)) : Ex (d + 4) 66 [.ref 0, .int x1, .int x2, .int x3, .int x4, .int x5] (stt σ τ) 0 0 Post := by
  refine en_66 (Nat.le_of_ble_eq_true rfl) ?_
  show RU_66 (d + 3) (0, 0) Post 0 ([(0, .ref 0), (1, .int x1), (2, .int x2), (3, .int x3), (4, .int x4), (5, .int x5)]) ([]) (stt σ τ) 0 0
  refine R_seg sg_66_0 sk_66_0 (pc' := 3) (lv' := [(0, .ref 0), (1, .int x1), (2, .int x2), (3, .int x3), (4, .int x4), (5, .int x5)]) (st' := [.int x3, .int x2, .int x1]) (S' := stt σ τ) (kc' := 0) (ks' := 0) rfl ⟨trivial, trivial, trivial, trivial⟩ ?_
  refine R_stat ck_66_3 (by decide) [.int x1, .int x2, .int x3] 0 0 (r := []) rfl rfl (Nat.le_of_ble_eq_true rfl) (Nat.le_refl _) (Nat.le_refl _) ?_
  refine x_64 (d := d) (fun t k f b_t b_k b_f e_t e_k e_f => ?_) (fun n_c => ?_)
  · subst e_t; subst e_k; subst e_f
    show RU_66 (d + 3) (0, 0) Post 6 ([(0, .ref 0), (1, .int (nI t)), (2, .int (nI k)), (3, .int (nI f)), (4, .int x4), (5, .int x5)]) ([.int 1]) (stt σ τ) 0 0
    refine R_if ck_66_6 (fun c => absurd c (show ¬ (1 : Int32) = 0 from by decide)) (fun _ => ?_)
    refine R_seg sg_66_9 sk_66_9 (pc' := 13) (lv' := [(0, .ref 0), (1, .int (nI t)), (2, .int (nI k)), (3, .int (nI f)), (4, .int x4), (5, .int x5)]) (st' := [.int 5, .int 0, .int x4]) (S' := stt σ τ) (kc' := 0) (ks' := 0) rfl ⟨trivial, trivial, trivial, trivial⟩ ?_
    refine R_stat ck_66_13 (by decide) [.int x4, .int 0, .int 5] 0 0 (r := []) rfl rfl (Nat.le_of_ble_eq_true rfl) (Nat.le_refl _) (Nat.le_refl _) ?_
    refine xn_57 (d := d + 2) 0 5 (by omega) (by omega) (fun n l_n u_n e_n => ?_) (fun n_n => ?_)
    · subst e_n
      show RU_66 (d + 3) (0, 0) Post 16 ([(0, .ref 0), (1, .int (nI t)), (2, .int (nI k)), (3, .int (nI f)), (4, .int (nI n)), (5, .int x5)]) ([.int 1]) (stt σ τ) 0 0
      refine R_if ck_66_16 (fun _ => ?_) (fun c => absurd (show ¬ (1 : Int32) = 0 from by decide) c)
      refine R_seg sg_66_21 sk_66_21 (pc' := 44) (lv' := [(6, .int (((nI t) * 32) + (nI k))), (0, .ref 0), (1, .int (nI t)), (2, .int (nI k)), (3, .int (nI f)), (4, .int (nI n)), (5, .int x5)]) (st' := [.int (nI n), .int (((((nI t) * 32) + (nI k)) * 4) + (nI f)), .ref 28]) (S' := stt σ τ) (kc' := 0) (ks' := 0) rfl ⟨trivial, trivial, trivial, trivial, trivial, (by decide), trivial, rfl, rfl, trivial, trivial, trivial, trivial, trivial, trivial, trivial⟩ ?_
      refine R_iast ca_66_44 (j := (((t * 32) + k) * 4) + f) rfl (by simp only [nl_0, nl_1, nl_2, nl_3, nl_4, nl_5, nl_6, nl_8, nl_20, nl_31, nl_32, pk_mul, nI_add]) (by omega) ?_
      refine R_seg sg_66_45 sk_66_45 (pc' := 60) (lv' := [(6, .int (((nI t) * 32) + (nI k))), (0, .ref 0), (1, .int (nI t)), (2, .int (nI k)), (3, .int (nI f)), (4, .int (nI n)), (5, .int x5)]) (st' := [.int x5, .int (((((nI t) * 32) + (nI k)) * 4) + (nI f)), .ref 29]) (S' := stt (up2 σ 28 ((((t * 32) + k) * 4) + f) (nI n)) τ) (kc' := 0) (ks' := 0) rfl ⟨trivial, rfl, rfl, trivial, trivial, trivial, trivial, trivial, trivial, trivial⟩ ?_
      refine R_iast ca_66_60 (j := (((t * 32) + k) * 4) + f) rfl (by simp only [nl_0, nl_1, nl_2, nl_3, nl_4, nl_5, nl_6, nl_8, nl_20, nl_31, nl_32, pk_mul, nI_add]) (by omega) ?_
      refine R_seg sg_66_61 sk_66_61 (pc' := 71) (lv' := [(6, .int (((nI t) * 32) + (nI k))), (0, .ref 0), (1, .int (nI t)), (2, .int (nI k)), (3, .int (nI f)), (4, .int (nI n)), (5, .int x5)]) (st' := [.int 0, .int (((nI t) * 32) + (nI k)), .ref 25]) (S' := stt (up2 (up2 σ 28 ((((t * 32) + k) * 4) + f) (nI n)) 29 ((((t * 32) + k) * 4) + f) x5) τ) (kc' := 0) (ks' := 0) rfl ⟨trivial, rfl, rfl, trivial, trivial, trivial⟩ ?_
      refine R_iast ca_66_71 (j := (t * 32) + k) rfl (by simp only [nl_0, nl_1, nl_2, nl_3, nl_4, nl_5, nl_6, nl_8, nl_20, nl_31, nl_32, pk_mul, nI_add]) (by omega) ?_
      refine R_seg sg_66_72 sk_66_72 (pc' := 73) (lv' := [(6, .int (((nI t) * 32) + (nI k))), (0, .ref 0), (1, .int (nI t)), (2, .int (nI k)), (3, .int (nI f)), (4, .int (nI n)), (5, .int x5)]) (st' := [.int 1]) (S' := stt (up2 (up2 (up2 σ 28 ((((t * 32) + k) * 4) + f) (nI n)) 29 ((((t * 32) + k) * 4) + f) x5) 25 ((t * 32) + k) 0) τ) (kc' := 0) (ks' := 0) rfl ⟨trivial, trivial⟩ ?_
      refine R_iret ck_66_73 rfl rfl ?_
      exact hs t k f n (by omega) (by omega) (by omega) (by omega) rfl rfl rfl rfl
    · show RU_66 (d + 3) (0, 0) Post 16 ([(0, .ref 0), (1, .int (nI t)), (2, .int (nI k)), (3, .int (nI f)), (4, .int x4), (5, .int x5)]) ([.int 0]) (stt σ τ) 0 0
      refine R_if ck_66_16 (fun c => absurd c (show ¬ ¬ (0 : Int32) = 0 from by decide)) (fun _ => ?_)
      refine R_seg sg_66_19 sk_66_19 (pc' := 20) (lv' := [(0, .ref 0), (1, .int (nI t)), (2, .int (nI k)), (3, .int (nI f)), (4, .int x4), (5, .int x5)]) (st' := [.int 0]) (S' := stt σ τ) (kc' := 0) (ks' := 0) rfl ⟨trivial, trivial⟩ ?_
      refine R_iret ck_66_20 rfl rfl ?_
      first | exact hf (fun q => n_c ⟨q.1, q.2.1, q.2.2.1⟩) | exact hf (fun q => n_n q.2.2.2)
  · show RU_66 (d + 3) (0, 0) Post 6 ([(0, .ref 0), (1, .int x1), (2, .int x2), (3, .int x3), (4, .int x4), (5, .int x5)]) ([.int 0]) (stt σ τ) 0 0
    refine R_if ck_66_6 (fun _ => ?_) (fun c => absurd (show (0 : Int32) = 0 from by decide) c)
    refine R_seg sg_66_19 sk_66_19 (pc' := 20) (lv' := [(0, .ref 0), (1, .int x1), (2, .int x2), (3, .int x3), (4, .int x4), (5, .int x5)]) (st' := [.int 0]) (S' := stt σ τ) (kc' := 0) (ks' := 0) rfl ⟨trivial, trivial⟩ ?_
    refine R_iret ck_66_20 rfl rfl ?_
    first | exact hf (fun q => n_c ⟨q.1, q.2.1, q.2.2.1⟩) | exact hf (fun q => n_n q.2.2.2)
def c_asker (σ : Nat → Nat → Int32) (a r u f : Nat) : Nat → Nat → Int32 := up2 (up2 (up2 (up2 σ 2 a (nI r)) 3 a (nI u)) 4 a (nI f)) 5 a (if nI u < σ 5 a then nI u else σ 5 a)
set_option maxRecDepth 20000 in
theorem x_67 {d : Nat} {σ : Nat → Nat → Int32} {τ : Nat → Nat → Int64} {x1 x2 x3 x4 : Int32} {Post : Option Value → Sto → Prop} (hs : ∀ a r u f : Nat, a < 4 → r ≤ 63 → 1 ≤ u → u ≤ 500 → f ≤ 50 → x1 = nI a → x2 = nI r → x3 = nI u → x4 = nI f → Post (some (.int 1)) (stt (c_asker σ a r u f) τ)) (hf : ¬ (rg x1 0 3 ∧ rg x2 0 63 ∧ rg x3 1 500 ∧ rg x4 0 50) → Post (some (.int 0)) (stt σ τ)) : Ex (d + 2) 67 [.ref 0, .int x1, .int x2, .int x3, .int x4] (stt σ τ) 0 0 Post := by
  refine en_67 (Nat.le_of_ble_eq_true rfl) ?_
  show RU_67 (d + 1) (0, 0) Post 0 ([(0, .ref 0), (1, .int x1), (2, .int x2), (3, .int x3), (4, .int x4)]) ([]) (stt σ τ) 0 0
  refine R_seg sg_67_0 sk_67_0 (pc' := 3) (lv' := [(0, .ref 0), (1, .int x1), (2, .int x2), (3, .int x3), (4, .int x4)]) (st' := [.int 3, .int 0, .int x1]) (S' := stt σ τ) (kc' := 0) (ks' := 0) rfl ⟨trivial, trivial, trivial, trivial⟩ ?_
  refine R_stat ck_67_3 (by decide) [.int x1, .int 0, .int 3] 0 0 (r := []) rfl rfl (Nat.le_of_ble_eq_true rfl) (Nat.le_refl _) (Nat.le_refl _) ?_
  refine xn_57 (d := d) 0 3 (by omega) (by omega) (fun a l_a u_a e_a => ?_) (fun n_a => ?_)
  · subst e_a
    show RU_67 (d + 1) (0, 0) Post 6 ([(0, .ref 0), (1, .int (nI a)), (2, .int x2), (3, .int x3), (4, .int x4)]) ([.int 1]) (stt σ τ) 0 0
    refine R_if ck_67_6 (fun c => absurd c (show ¬ (1 : Int32) = 0 from by decide)) (fun _ => ?_)
    refine R_seg sg_67_9 sk_67_9 (pc' := 13) (lv' := [(0, .ref 0), (1, .int (nI a)), (2, .int x2), (3, .int x3), (4, .int x4)]) (st' := [.int 63, .int 0, .int x2]) (S' := stt σ τ) (kc' := 0) (ks' := 0) rfl ⟨trivial, trivial, trivial, trivial⟩ ?_
    refine R_stat ck_67_13 (by decide) [.int x2, .int 0, .int 63] 0 0 (r := []) rfl rfl (Nat.le_of_ble_eq_true rfl) (Nat.le_refl _) (Nat.le_refl _) ?_
    refine xn_57 (d := d) 0 63 (by omega) (by omega) (fun r l_r u_r e_r => ?_) (fun n_r => ?_)
    · subst e_r
      show RU_67 (d + 1) (0, 0) Post 16 ([(0, .ref 0), (1, .int (nI a)), (2, .int (nI r)), (3, .int x3), (4, .int x4)]) ([.int 1]) (stt σ τ) 0 0
      refine R_if ck_67_16 (fun c => absurd c (show ¬ (1 : Int32) = 0 from by decide)) (fun _ => ?_)
      refine R_seg sg_67_19 sk_67_19 (pc' := 24) (lv' := [(0, .ref 0), (1, .int (nI a)), (2, .int (nI r)), (3, .int x3), (4, .int x4)]) (st' := [.int 500, .int 1, .int x3]) (S' := stt σ τ) (kc' := 0) (ks' := 0) rfl ⟨trivial, trivial, trivial, trivial⟩ ?_
      refine R_stat ck_67_24 (by decide) [.int x3, .int 1, .int 500] 0 0 (r := []) rfl rfl (Nat.le_of_ble_eq_true rfl) (Nat.le_refl _) (Nat.le_refl _) ?_
      refine xn_57 (d := d) 1 500 (by omega) (by omega) (fun u l_u u_u e_u => ?_) (fun n_u => ?_)
      · subst e_u
        show RU_67 (d + 1) (0, 0) Post 27 ([(0, .ref 0), (1, .int (nI a)), (2, .int (nI r)), (3, .int (nI u)), (4, .int x4)]) ([.int 1]) (stt σ τ) 0 0
        refine R_if ck_67_27 (fun c => absurd c (show ¬ (1 : Int32) = 0 from by decide)) (fun _ => ?_)
        refine R_seg sg_67_30 sk_67_30 (pc' := 35) (lv' := [(0, .ref 0), (1, .int (nI a)), (2, .int (nI r)), (3, .int (nI u)), (4, .int x4)]) (st' := [.int 50, .int 0, .int x4]) (S' := stt σ τ) (kc' := 0) (ks' := 0) rfl ⟨trivial, trivial, trivial, trivial⟩ ?_
        refine R_stat ck_67_35 (by decide) [.int x4, .int 0, .int 50] 0 0 (r := []) rfl rfl (Nat.le_of_ble_eq_true rfl) (Nat.le_refl _) (Nat.le_refl _) ?_
        refine xn_57 (d := d) 0 50 (by omega) (by omega) (fun f l_f u_f e_f => ?_) (fun n_f => ?_)
        · subst e_f
          show RU_67 (d + 1) (0, 0) Post 38 ([(0, .ref 0), (1, .int (nI a)), (2, .int (nI r)), (3, .int (nI u)), (4, .int (nI f))]) ([.int 1]) (stt σ τ) 0 0
          refine R_if ck_67_38 (fun _ => ?_) (fun c => absurd (show ¬ (1 : Int32) = 0 from by decide) c)
          refine R_seg sg_67_43 sk_67_43 (pc' := 52) (lv' := [(0, .ref 0), (1, .int (nI a)), (2, .int (nI r)), (3, .int (nI u)), (4, .int (nI f))]) (st' := [.int (nI r), .int (nI a), .ref 2]) (S' := stt σ τ) (kc' := 0) (ks' := 0) rfl ⟨trivial, rfl, rfl, trivial, trivial, trivial⟩ ?_
          refine R_iast ca_67_52 (j := a) rfl rfl (by omega) ?_
          refine R_seg sg_67_53 sk_67_53 (pc' := 62) (lv' := [(0, .ref 0), (1, .int (nI a)), (2, .int (nI r)), (3, .int (nI u)), (4, .int (nI f))]) (st' := [.int (nI u), .int (nI a), .ref 3]) (S' := stt (up2 σ 2 a (nI r)) τ) (kc' := 0) (ks' := 0) rfl ⟨trivial, rfl, rfl, trivial, trivial, trivial⟩ ?_
          refine R_iast ca_67_62 (j := a) rfl rfl (by omega) ?_
          refine R_seg sg_67_63 sk_67_63 (pc' := 73) (lv' := [(0, .ref 0), (1, .int (nI a)), (2, .int (nI r)), (3, .int (nI u)), (4, .int (nI f))]) (st' := [.int (nI f), .int (nI a), .ref 4]) (S' := stt (up2 (up2 σ 2 a (nI r)) 3 a (nI u)) τ) (kc' := 0) (ks' := 0) rfl ⟨trivial, rfl, rfl, trivial, trivial, trivial⟩ ?_
          refine R_iast ca_67_73 (j := a) rfl rfl (by omega) ?_
          refine R_seg sg_67_74 sk_67_74 (pc' := 90) (lv' := [(0, .ref 0), (1, .int (nI a)), (2, .int (nI r)), (3, .int (nI u)), (4, .int (nI f))]) (st' := [.int (nI a), .ref 5, .int (nI a), .ref 5]) (S' := stt (up2 (up2 (up2 σ 2 a (nI r)) 3 a (nI u)) 4 a (nI f)) τ) (kc' := 0) (ks' := 0) rfl ⟨trivial, rfl, rfl, trivial, trivial, rfl, rfl, trivial, trivial⟩ ?_
          refine R_iald ca_67_90 (j := a) rfl rfl (by omega) ?_
          refine R_seg sg_67_91 sk_67_91 (pc' := 95) (lv' := [(0, .ref 0), (1, .int (nI a)), (2, .int (nI r)), (3, .int (nI u)), (4, .int (nI f))]) (st' := [.int (if nI u < σ 5 a then nI u else σ 5 a), .int (nI a), .ref 5]) (S' := stt (up2 (up2 (up2 σ 2 a (nI r)) 3 a (nI u)) 4 a (nI f)) τ) (kc' := 0) (ks' := 0) rfl ⟨trivial, (Nat.le_of_ble_eq_true rfl), trivial⟩ ?_
          refine R_iast ca_67_95 (j := a) rfl rfl (by omega) ?_
          refine R_seg sg_67_96 sk_67_96 (pc' := 97) (lv' := [(0, .ref 0), (1, .int (nI a)), (2, .int (nI r)), (3, .int (nI u)), (4, .int (nI f))]) (st' := [.int 1]) (S' := stt (up2 (up2 (up2 (up2 σ 2 a (nI r)) 3 a (nI u)) 4 a (nI f)) 5 a (if nI u < σ 5 a then nI u else σ 5 a)) τ) (kc' := 0) (ks' := 0) rfl ⟨trivial, trivial⟩ ?_
          refine R_iret ck_67_97 rfl rfl ?_
          exact hs a r u f (by omega) (by omega) (by omega) (by omega) (by omega) rfl rfl rfl rfl
        · show RU_67 (d + 1) (0, 0) Post 38 ([(0, .ref 0), (1, .int (nI a)), (2, .int (nI r)), (3, .int (nI u)), (4, .int x4)]) ([.int 0]) (stt σ τ) 0 0
          refine R_if ck_67_38 (fun c => absurd c (show ¬ ¬ (0 : Int32) = 0 from by decide)) (fun _ => ?_)
          refine R_seg sg_67_41 sk_67_41 (pc' := 42) (lv' := [(0, .ref 0), (1, .int (nI a)), (2, .int (nI r)), (3, .int (nI u)), (4, .int x4)]) (st' := [.int 0]) (S' := stt σ τ) (kc' := 0) (ks' := 0) rfl ⟨trivial, trivial⟩ ?_
          refine R_iret ck_67_42 rfl rfl ?_
          exact hf (fun q => by first | exact n_a q.1 | exact n_r q.2.1 | exact n_u q.2.2.1 | exact n_f q.2.2.2)
      · show RU_67 (d + 1) (0, 0) Post 27 ([(0, .ref 0), (1, .int (nI a)), (2, .int (nI r)), (3, .int x3), (4, .int x4)]) ([.int 0]) (stt σ τ) 0 0
        refine R_if ck_67_27 (fun _ => ?_) (fun c => absurd (show (0 : Int32) = 0 from by decide) c)
        refine R_seg sg_67_41 sk_67_41 (pc' := 42) (lv' := [(0, .ref 0), (1, .int (nI a)), (2, .int (nI r)), (3, .int x3), (4, .int x4)]) (st' := [.int 0]) (S' := stt σ τ) (kc' := 0) (ks' := 0) rfl ⟨trivial, trivial⟩ ?_
        refine R_iret ck_67_42 rfl rfl ?_
        exact hf (fun q => by first | exact n_a q.1 | exact n_r q.2.1 | exact n_u q.2.2.1 | exact n_f q.2.2.2)
    · show RU_67 (d + 1) (0, 0) Post 16 ([(0, .ref 0), (1, .int (nI a)), (2, .int x2), (3, .int x3), (4, .int x4)]) ([.int 0]) (stt σ τ) 0 0
      refine R_if ck_67_16 (fun _ => ?_) (fun c => absurd (show (0 : Int32) = 0 from by decide) c)
      refine R_seg sg_67_41 sk_67_41 (pc' := 42) (lv' := [(0, .ref 0), (1, .int (nI a)), (2, .int x2), (3, .int x3), (4, .int x4)]) (st' := [.int 0]) (S' := stt σ τ) (kc' := 0) (ks' := 0) rfl ⟨trivial, trivial⟩ ?_
      refine R_iret ck_67_42 rfl rfl ?_
      exact hf (fun q => by first | exact n_a q.1 | exact n_r q.2.1 | exact n_u q.2.2.1 | exact n_f q.2.2.2)
  · show RU_67 (d + 1) (0, 0) Post 6 ([(0, .ref 0), (1, .int x1), (2, .int x2), (3, .int x3), (4, .int x4)]) ([.int 0]) (stt σ τ) 0 0
    refine R_if ck_67_6 (fun _ => ?_) (fun c => absurd (show (0 : Int32) = 0 from by decide) c)
    refine R_seg sg_67_41 sk_67_41 (pc' := 42) (lv' := [(0, .ref 0), (1, .int x1), (2, .int x2), (3, .int x3), (4, .int x4)]) (st' := [.int 0]) (S' := stt σ τ) (kc' := 0) (ks' := 0) rfl ⟨trivial, trivial⟩ ?_
    refine R_iret ck_67_42 rfl rfl ?_
    exact hf (fun q => by first | exact n_a q.1 | exact n_r q.2.1 | exact n_u q.2.2.1 | exact n_f q.2.2.2)
def gb (x y : Int32) : Int32 := if y < x then y else x
def c_goBy (σ : Nat → Nat → Int32) (t : Int32) : Nat → Nat → Int32 := up2 (up2 (up2 (up2 (up2 σ 1 4 (σ 1 4 + t)) 5 0 (gb (σ 3 0) (σ 5 0 + t * σ 4 0))) 5 1 (gb (σ 3 1) (σ 5 1 + t * σ 4 1))) 5 2 (gb (σ 3 2) (σ 5 2 + t * σ 4 2))) 5 3 (gb (σ 3 3) (σ 5 3 + t * σ 4 3))
set_option maxRecDepth 20000 in
theorem x_7 {d : Nat} {σ : Nat → Nat → Int32} {τ : Nat → Nat → Int64} {t : Int32} {Post : Option Value → Sto → Prop} (hp : Post none (stt (c_goBy σ t) τ)) : Ex (d + 1) 7 [.ref 1, .int t] (stt σ τ) 0 0 Post := by
  refine en_7 (Nat.le_of_ble_eq_true rfl) ?_
  show RU_7 d (0, 0) Post 0 ([(0, .ref 1), (1, .int t)]) ([]) (stt σ τ) 0 0
  refine R_seg sg_7_0 sk_7_0 (pc' := 12) (lv' := [(2, .int 0), (0, .ref 1), (1, .int t)]) (st' := []) (S' := stt (up2 σ 1 4 ((σ 1 4) + t)) τ) (kc' := 0) (ks' := 0) rfl ⟨trivial, rfl, rfl, trivial, trivial, ⟨rfl, ⟨rfl, rfl⟩⟩, trivial, (by decide), trivial⟩ ?_
  refine R_seg sg_7_12 sk_7_12 (pc' := 14) (lv' := [(2, .int 0), (0, .ref 1), (1, .int t)]) (st' := [.int 4, .int 0]) (S' := stt (up2 σ 1 4 ((σ 1 4) + t)) τ) (kc' := 0) (ks' := 0) rfl ⟨trivial, trivial, trivial⟩ ?_
  refine R_icmp ck_7_14 (fun c => absurd c (show ¬ (4 : Int32) ≤ 0 from by decide)) (fun _ => ?_)
  refine R_seg sg_7_17 sk_7_17 (pc' := 27) (lv' := [(2, .int 0), (0, .ref 1), (1, .int t)]) (st' := [.int 0, .ref 3, .int 0, .ref 5]) (S' := stt (up2 σ 1 4 ((σ 1 4) + t)) τ) (kc' := 0) (ks' := 0) rfl ⟨trivial, rfl, trivial, trivial, rfl, trivial, trivial⟩ ?_
  refine R_iald ca_7_27 (j := 0) rfl rfl (by omega) ?_
  refine R_seg sg_7_28 sk_7_28 (pc' := 33) (lv' := [(2, .int 0), (0, .ref 1), (1, .int t)]) (st' := [.int 0, .ref 5, .int (σ 3 0), .int 0, .ref 5]) (S' := stt (up2 σ 1 4 ((σ 1 4) + t)) τ) (kc' := 0) (ks' := 0) rfl ⟨trivial, rfl, trivial, trivial⟩ ?_
  refine R_iald ca_7_33 (j := 0) rfl rfl (by omega) ?_
  refine R_seg sg_7_34 sk_7_34 (pc' := 40) (lv' := [(2, .int 0), (0, .ref 1), (1, .int t)]) (st' := [.int 0, .ref 4, .int t, .int (σ 5 0), .int (σ 3 0), .int 0, .ref 5]) (S' := stt (up2 σ 1 4 ((σ 1 4) + t)) τ) (kc' := 0) (ks' := 0) rfl ⟨trivial, trivial, rfl, trivial, trivial⟩ ?_
  refine R_iald ca_7_40 (j := 0) rfl rfl (by omega) ?_
  refine R_seg sg_7_41 sk_7_41 (pc' := 46) (lv' := [(2, .int 0), (0, .ref 1), (1, .int t)]) (st' := [.int (if (σ 5 0) + (t * (σ 4 0)) < σ 3 0 then (σ 5 0) + (t * (σ 4 0)) else σ 3 0), .int 0, .ref 5]) (S' := stt (up2 σ 1 4 ((σ 1 4) + t)) τ) (kc' := 0) (ks' := 0) rfl ⟨trivial, trivial, (Nat.le_of_ble_eq_true rfl), trivial⟩ ?_
  refine R_iast ca_7_46 (j := 0) rfl rfl (by omega) ?_
  refine R_seg sg_7_47 sk_7_47 (pc' := 50) (lv' := [(2, .int 1), (0, .ref 1), (1, .int t)]) (st' := []) (S' := stt (up2 (up2 σ 1 4 ((σ 1 4) + t)) 5 0 (if (σ 5 0) + (t * (σ 4 0)) < σ 3 0 then (σ 5 0) + (t * (σ 4 0)) else σ 3 0)) τ) (kc' := 0) (ks' := 0) rfl ⟨(by decide), trivial⟩ ?_
  refine R_goto ck_7_50 ?_
  refine R_seg sg_7_12 sk_7_12 (pc' := 14) (lv' := [(2, .int 1), (0, .ref 1), (1, .int t)]) (st' := [.int 4, .int 1]) (S' := stt (up2 (up2 σ 1 4 ((σ 1 4) + t)) 5 0 (if (σ 5 0) + (t * (σ 4 0)) < σ 3 0 then (σ 5 0) + (t * (σ 4 0)) else σ 3 0)) τ) (kc' := 0) (ks' := 0) rfl ⟨trivial, trivial, trivial⟩ ?_
  refine R_icmp ck_7_14 (fun c => absurd c (show ¬ (4 : Int32) ≤ 1 from by decide)) (fun _ => ?_)
  refine R_seg sg_7_17 sk_7_17 (pc' := 27) (lv' := [(2, .int 1), (0, .ref 1), (1, .int t)]) (st' := [.int 1, .ref 3, .int 1, .ref 5]) (S' := stt (up2 (up2 σ 1 4 ((σ 1 4) + t)) 5 0 (if (σ 5 0) + (t * (σ 4 0)) < σ 3 0 then (σ 5 0) + (t * (σ 4 0)) else σ 3 0)) τ) (kc' := 0) (ks' := 0) rfl ⟨trivial, rfl, trivial, trivial, rfl, trivial, trivial⟩ ?_
  refine R_iald ca_7_27 (j := 1) rfl rfl (by omega) ?_
  refine R_seg sg_7_28 sk_7_28 (pc' := 33) (lv' := [(2, .int 1), (0, .ref 1), (1, .int t)]) (st' := [.int 1, .ref 5, .int (σ 3 1), .int 1, .ref 5]) (S' := stt (up2 (up2 σ 1 4 ((σ 1 4) + t)) 5 0 (if (σ 5 0) + (t * (σ 4 0)) < σ 3 0 then (σ 5 0) + (t * (σ 4 0)) else σ 3 0)) τ) (kc' := 0) (ks' := 0) rfl ⟨trivial, rfl, trivial, trivial⟩ ?_
  refine R_iald ca_7_33 (j := 1) rfl rfl (by omega) ?_
  refine R_seg sg_7_34 sk_7_34 (pc' := 40) (lv' := [(2, .int 1), (0, .ref 1), (1, .int t)]) (st' := [.int 1, .ref 4, .int t, .int (σ 5 1), .int (σ 3 1), .int 1, .ref 5]) (S' := stt (up2 (up2 σ 1 4 ((σ 1 4) + t)) 5 0 (if (σ 5 0) + (t * (σ 4 0)) < σ 3 0 then (σ 5 0) + (t * (σ 4 0)) else σ 3 0)) τ) (kc' := 0) (ks' := 0) rfl ⟨trivial, trivial, rfl, trivial, trivial⟩ ?_
  refine R_iald ca_7_40 (j := 1) rfl rfl (by omega) ?_
  refine R_seg sg_7_41 sk_7_41 (pc' := 46) (lv' := [(2, .int 1), (0, .ref 1), (1, .int t)]) (st' := [.int (if (σ 5 1) + (t * (σ 4 1)) < σ 3 1 then (σ 5 1) + (t * (σ 4 1)) else σ 3 1), .int 1, .ref 5]) (S' := stt (up2 (up2 σ 1 4 ((σ 1 4) + t)) 5 0 (if (σ 5 0) + (t * (σ 4 0)) < σ 3 0 then (σ 5 0) + (t * (σ 4 0)) else σ 3 0)) τ) (kc' := 0) (ks' := 0) rfl ⟨trivial, trivial, (Nat.le_of_ble_eq_true rfl), trivial⟩ ?_
  refine R_iast ca_7_46 (j := 1) rfl rfl (by omega) ?_
  refine R_seg sg_7_47 sk_7_47 (pc' := 50) (lv' := [(2, .int 2), (0, .ref 1), (1, .int t)]) (st' := []) (S' := stt (up2 (up2 (up2 σ 1 4 ((σ 1 4) + t)) 5 0 (if (σ 5 0) + (t * (σ 4 0)) < σ 3 0 then (σ 5 0) + (t * (σ 4 0)) else σ 3 0)) 5 1 (if (σ 5 1) + (t * (σ 4 1)) < σ 3 1 then (σ 5 1) + (t * (σ 4 1)) else σ 3 1)) τ) (kc' := 0) (ks' := 0) rfl ⟨(by decide), trivial⟩ ?_
  refine R_goto ck_7_50 ?_
  refine R_seg sg_7_12 sk_7_12 (pc' := 14) (lv' := [(2, .int 2), (0, .ref 1), (1, .int t)]) (st' := [.int 4, .int 2]) (S' := stt (up2 (up2 (up2 σ 1 4 ((σ 1 4) + t)) 5 0 (if (σ 5 0) + (t * (σ 4 0)) < σ 3 0 then (σ 5 0) + (t * (σ 4 0)) else σ 3 0)) 5 1 (if (σ 5 1) + (t * (σ 4 1)) < σ 3 1 then (σ 5 1) + (t * (σ 4 1)) else σ 3 1)) τ) (kc' := 0) (ks' := 0) rfl ⟨trivial, trivial, trivial⟩ ?_
  refine R_icmp ck_7_14 (fun c => absurd c (show ¬ (4 : Int32) ≤ 2 from by decide)) (fun _ => ?_)
  refine R_seg sg_7_17 sk_7_17 (pc' := 27) (lv' := [(2, .int 2), (0, .ref 1), (1, .int t)]) (st' := [.int 2, .ref 3, .int 2, .ref 5]) (S' := stt (up2 (up2 (up2 σ 1 4 ((σ 1 4) + t)) 5 0 (if (σ 5 0) + (t * (σ 4 0)) < σ 3 0 then (σ 5 0) + (t * (σ 4 0)) else σ 3 0)) 5 1 (if (σ 5 1) + (t * (σ 4 1)) < σ 3 1 then (σ 5 1) + (t * (σ 4 1)) else σ 3 1)) τ) (kc' := 0) (ks' := 0) rfl ⟨trivial, rfl, trivial, trivial, rfl, trivial, trivial⟩ ?_
  refine R_iald ca_7_27 (j := 2) rfl rfl (by omega) ?_
  refine R_seg sg_7_28 sk_7_28 (pc' := 33) (lv' := [(2, .int 2), (0, .ref 1), (1, .int t)]) (st' := [.int 2, .ref 5, .int (σ 3 2), .int 2, .ref 5]) (S' := stt (up2 (up2 (up2 σ 1 4 ((σ 1 4) + t)) 5 0 (if (σ 5 0) + (t * (σ 4 0)) < σ 3 0 then (σ 5 0) + (t * (σ 4 0)) else σ 3 0)) 5 1 (if (σ 5 1) + (t * (σ 4 1)) < σ 3 1 then (σ 5 1) + (t * (σ 4 1)) else σ 3 1)) τ) (kc' := 0) (ks' := 0) rfl ⟨trivial, rfl, trivial, trivial⟩ ?_
  refine R_iald ca_7_33 (j := 2) rfl rfl (by omega) ?_
  refine R_seg sg_7_34 sk_7_34 (pc' := 40) (lv' := [(2, .int 2), (0, .ref 1), (1, .int t)]) (st' := [.int 2, .ref 4, .int t, .int (σ 5 2), .int (σ 3 2), .int 2, .ref 5]) (S' := stt (up2 (up2 (up2 σ 1 4 ((σ 1 4) + t)) 5 0 (if (σ 5 0) + (t * (σ 4 0)) < σ 3 0 then (σ 5 0) + (t * (σ 4 0)) else σ 3 0)) 5 1 (if (σ 5 1) + (t * (σ 4 1)) < σ 3 1 then (σ 5 1) + (t * (σ 4 1)) else σ 3 1)) τ) (kc' := 0) (ks' := 0) rfl ⟨trivial, trivial, rfl, trivial, trivial⟩ ?_
  refine R_iald ca_7_40 (j := 2) rfl rfl (by omega) ?_
  refine R_seg sg_7_41 sk_7_41 (pc' := 46) (lv' := [(2, .int 2), (0, .ref 1), (1, .int t)]) (st' := [.int (if (σ 5 2) + (t * (σ 4 2)) < σ 3 2 then (σ 5 2) + (t * (σ 4 2)) else σ 3 2), .int 2, .ref 5]) (S' := stt (up2 (up2 (up2 σ 1 4 ((σ 1 4) + t)) 5 0 (if (σ 5 0) + (t * (σ 4 0)) < σ 3 0 then (σ 5 0) + (t * (σ 4 0)) else σ 3 0)) 5 1 (if (σ 5 1) + (t * (σ 4 1)) < σ 3 1 then (σ 5 1) + (t * (σ 4 1)) else σ 3 1)) τ) (kc' := 0) (ks' := 0) rfl ⟨trivial, trivial, (Nat.le_of_ble_eq_true rfl), trivial⟩ ?_
  refine R_iast ca_7_46 (j := 2) rfl rfl (by omega) ?_
  refine R_seg sg_7_47 sk_7_47 (pc' := 50) (lv' := [(2, .int 3), (0, .ref 1), (1, .int t)]) (st' := []) (S' := stt (up2 (up2 (up2 (up2 σ 1 4 ((σ 1 4) + t)) 5 0 (if (σ 5 0) + (t * (σ 4 0)) < σ 3 0 then (σ 5 0) + (t * (σ 4 0)) else σ 3 0)) 5 1 (if (σ 5 1) + (t * (σ 4 1)) < σ 3 1 then (σ 5 1) + (t * (σ 4 1)) else σ 3 1)) 5 2 (if (σ 5 2) + (t * (σ 4 2)) < σ 3 2 then (σ 5 2) + (t * (σ 4 2)) else σ 3 2)) τ) (kc' := 0) (ks' := 0) rfl ⟨(by decide), trivial⟩ ?_
  refine R_goto ck_7_50 ?_
  refine R_seg sg_7_12 sk_7_12 (pc' := 14) (lv' := [(2, .int 3), (0, .ref 1), (1, .int t)]) (st' := [.int 4, .int 3]) (S' := stt (up2 (up2 (up2 (up2 σ 1 4 ((σ 1 4) + t)) 5 0 (if (σ 5 0) + (t * (σ 4 0)) < σ 3 0 then (σ 5 0) + (t * (σ 4 0)) else σ 3 0)) 5 1 (if (σ 5 1) + (t * (σ 4 1)) < σ 3 1 then (σ 5 1) + (t * (σ 4 1)) else σ 3 1)) 5 2 (if (σ 5 2) + (t * (σ 4 2)) < σ 3 2 then (σ 5 2) + (t * (σ 4 2)) else σ 3 2)) τ) (kc' := 0) (ks' := 0) rfl ⟨trivial, trivial, trivial⟩ ?_
  refine R_icmp ck_7_14 (fun c => absurd c (show ¬ (4 : Int32) ≤ 3 from by decide)) (fun _ => ?_)
  refine R_seg sg_7_17 sk_7_17 (pc' := 27) (lv' := [(2, .int 3), (0, .ref 1), (1, .int t)]) (st' := [.int 3, .ref 3, .int 3, .ref 5]) (S' := stt (up2 (up2 (up2 (up2 σ 1 4 ((σ 1 4) + t)) 5 0 (if (σ 5 0) + (t * (σ 4 0)) < σ 3 0 then (σ 5 0) + (t * (σ 4 0)) else σ 3 0)) 5 1 (if (σ 5 1) + (t * (σ 4 1)) < σ 3 1 then (σ 5 1) + (t * (σ 4 1)) else σ 3 1)) 5 2 (if (σ 5 2) + (t * (σ 4 2)) < σ 3 2 then (σ 5 2) + (t * (σ 4 2)) else σ 3 2)) τ) (kc' := 0) (ks' := 0) rfl ⟨trivial, rfl, trivial, trivial, rfl, trivial, trivial⟩ ?_
  refine R_iald ca_7_27 (j := 3) rfl rfl (by omega) ?_
  refine R_seg sg_7_28 sk_7_28 (pc' := 33) (lv' := [(2, .int 3), (0, .ref 1), (1, .int t)]) (st' := [.int 3, .ref 5, .int (σ 3 3), .int 3, .ref 5]) (S' := stt (up2 (up2 (up2 (up2 σ 1 4 ((σ 1 4) + t)) 5 0 (if (σ 5 0) + (t * (σ 4 0)) < σ 3 0 then (σ 5 0) + (t * (σ 4 0)) else σ 3 0)) 5 1 (if (σ 5 1) + (t * (σ 4 1)) < σ 3 1 then (σ 5 1) + (t * (σ 4 1)) else σ 3 1)) 5 2 (if (σ 5 2) + (t * (σ 4 2)) < σ 3 2 then (σ 5 2) + (t * (σ 4 2)) else σ 3 2)) τ) (kc' := 0) (ks' := 0) rfl ⟨trivial, rfl, trivial, trivial⟩ ?_
  refine R_iald ca_7_33 (j := 3) rfl rfl (by omega) ?_
  refine R_seg sg_7_34 sk_7_34 (pc' := 40) (lv' := [(2, .int 3), (0, .ref 1), (1, .int t)]) (st' := [.int 3, .ref 4, .int t, .int (σ 5 3), .int (σ 3 3), .int 3, .ref 5]) (S' := stt (up2 (up2 (up2 (up2 σ 1 4 ((σ 1 4) + t)) 5 0 (if (σ 5 0) + (t * (σ 4 0)) < σ 3 0 then (σ 5 0) + (t * (σ 4 0)) else σ 3 0)) 5 1 (if (σ 5 1) + (t * (σ 4 1)) < σ 3 1 then (σ 5 1) + (t * (σ 4 1)) else σ 3 1)) 5 2 (if (σ 5 2) + (t * (σ 4 2)) < σ 3 2 then (σ 5 2) + (t * (σ 4 2)) else σ 3 2)) τ) (kc' := 0) (ks' := 0) rfl ⟨trivial, trivial, rfl, trivial, trivial⟩ ?_
  refine R_iald ca_7_40 (j := 3) rfl rfl (by omega) ?_
  refine R_seg sg_7_41 sk_7_41 (pc' := 46) (lv' := [(2, .int 3), (0, .ref 1), (1, .int t)]) (st' := [.int (if (σ 5 3) + (t * (σ 4 3)) < σ 3 3 then (σ 5 3) + (t * (σ 4 3)) else σ 3 3), .int 3, .ref 5]) (S' := stt (up2 (up2 (up2 (up2 σ 1 4 ((σ 1 4) + t)) 5 0 (if (σ 5 0) + (t * (σ 4 0)) < σ 3 0 then (σ 5 0) + (t * (σ 4 0)) else σ 3 0)) 5 1 (if (σ 5 1) + (t * (σ 4 1)) < σ 3 1 then (σ 5 1) + (t * (σ 4 1)) else σ 3 1)) 5 2 (if (σ 5 2) + (t * (σ 4 2)) < σ 3 2 then (σ 5 2) + (t * (σ 4 2)) else σ 3 2)) τ) (kc' := 0) (ks' := 0) rfl ⟨trivial, trivial, (Nat.le_of_ble_eq_true rfl), trivial⟩ ?_
  refine R_iast ca_7_46 (j := 3) rfl rfl (by omega) ?_
  refine R_seg sg_7_47 sk_7_47 (pc' := 50) (lv' := [(2, .int 4), (0, .ref 1), (1, .int t)]) (st' := []) (S' := stt (up2 (up2 (up2 (up2 (up2 σ 1 4 ((σ 1 4) + t)) 5 0 (if (σ 5 0) + (t * (σ 4 0)) < σ 3 0 then (σ 5 0) + (t * (σ 4 0)) else σ 3 0)) 5 1 (if (σ 5 1) + (t * (σ 4 1)) < σ 3 1 then (σ 5 1) + (t * (σ 4 1)) else σ 3 1)) 5 2 (if (σ 5 2) + (t * (σ 4 2)) < σ 3 2 then (σ 5 2) + (t * (σ 4 2)) else σ 3 2)) 5 3 (if (σ 5 3) + (t * (σ 4 3)) < σ 3 3 then (σ 5 3) + (t * (σ 4 3)) else σ 3 3)) τ) (kc' := 0) (ks' := 0) rfl ⟨(by decide), trivial⟩ ?_
  refine R_goto ck_7_50 ?_
  refine R_seg sg_7_12 sk_7_12 (pc' := 14) (lv' := [(2, .int 4), (0, .ref 1), (1, .int t)]) (st' := [.int 4, .int 4]) (S' := stt (up2 (up2 (up2 (up2 (up2 σ 1 4 ((σ 1 4) + t)) 5 0 (if (σ 5 0) + (t * (σ 4 0)) < σ 3 0 then (σ 5 0) + (t * (σ 4 0)) else σ 3 0)) 5 1 (if (σ 5 1) + (t * (σ 4 1)) < σ 3 1 then (σ 5 1) + (t * (σ 4 1)) else σ 3 1)) 5 2 (if (σ 5 2) + (t * (σ 4 2)) < σ 3 2 then (σ 5 2) + (t * (σ 4 2)) else σ 3 2)) 5 3 (if (σ 5 3) + (t * (σ 4 3)) < σ 3 3 then (σ 5 3) + (t * (σ 4 3)) else σ 3 3)) τ) (kc' := 0) (ks' := 0) rfl ⟨trivial, trivial, trivial⟩ ?_
  refine R_icmp ck_7_14 (fun _ => ?_) (fun c => absurd (show (4 : Int32) ≤ 4 from by decide) c)
  refine R_ret ck_7_53 rfl ?_
  exact hp
set_option maxRecDepth 20000 in
theorem x_68 {d : Nat} {σ : Nat → Nat → Int32} {τ : Nat → Nat → Int64} {x1 : Int32} {n : Nat} (hn : σ 1 4 = nI n) (hn2 : n ≤ 100000) {Post : Option Value → Sto → Prop} (hs : ∀ t : Nat, 1 ≤ t → t ≤ 1000 → n + t ≤ 100000 → x1 = nI t → Post (some (.int (c_goBy σ (nI t) 1 4))) (stt (c_goBy σ (nI t)) τ)) (hf : ¬ (rg x1 1 1000 ∧ ∀ t, x1 = nI t → n + t ≤ 100000) → Post (some (.int (-1))) (stt σ τ)) : Ex (d + 2) 68 [.ref 0, .int x1] (stt σ τ) 0 0 Post := by
  refine en_68 (Nat.le_of_ble_eq_true rfl) ?_
  show RU_68 (d + 1) (0, 0) Post 0 ([(0, .ref 0), (1, .int x1)]) ([]) (stt σ τ) 0 0
  refine R_seg sg_68_0 sk_68_0 (pc' := 5) (lv' := [(0, .ref 0), (1, .int x1)]) (st' := [.int 1000, .int 1, .int x1]) (S' := stt σ τ) (kc' := 0) (ks' := 0) rfl ⟨trivial, trivial, trivial, trivial⟩ ?_
  refine R_stat ck_68_5 (by decide) [.int x1, .int 1, .int 1000] 0 0 (r := []) rfl rfl (Nat.le_of_ble_eq_true rfl) (Nat.le_refl _) (Nat.le_refl _) ?_
  refine xn_57 (d := d) 1 1000 (by omega) (by omega) (fun t l_t u_t e_t => ?_) (fun n_t => ?_)
  · subst e_t
    show RU_68 (d + 1) (0, 0) Post 8 ([(0, .ref 0), (1, .int (nI t))]) ([.int 1]) (stt σ τ) 0 0
    refine R_if ck_68_8 (fun c => absurd c (show ¬ (1 : Int32) = 0 from by decide)) (fun _ => ?_)
    refine R_seg sg_68_11 sk_68_11 (pc' := 22) (lv' := [(0, .ref 0), (1, .int (nI t))]) (st' := [.int 100000, .int ((σ 1 4) + (nI t))]) (S' := stt σ τ) (kc' := 0) (ks' := 0) rfl ⟨trivial, rfl, rfl, trivial, trivial, trivial, trivial⟩ ?_
    rw [hn]
    rw [nI_add]
    refine R_icmp ck_68_22 (fun (c_22 : (nI (n + t)) ≤ 100000) => ?_) (fun (c_22 : ¬ (nI (n + t)) ≤ 100000) => ?_)
    · have c_22 : (n + t) ≤ 100000 := (nI_leI (a := (n + t)) (b := 100000) (by omega) (by omega)).mp c_22
      refine R_seg sg_68_27 sk_68_27 (pc' := 32) (lv' := [(0, .ref 0), (1, .int (nI t))]) (st' := [.int (nI t), .ref 1]) (S' := stt σ τ) (kc' := 0) (ks' := 0) rfl ⟨trivial, rfl, trivial, trivial⟩ ?_
      refine R_virt ck_68_32 1 [.int (nI t)] 0 0 (r := []) rfl rfl rfl (Nat.le_of_ble_eq_true rfl) (Nat.le_refl _) (Nat.le_refl _) ?_
      refine x_7 (d := d) ?_
      show RU_68 (d + 1) (0, 0) Post 35 ([(0, .ref 0), (1, .int (nI t))]) ([]) (stt (c_goBy σ (nI t)) τ) 0 0
      refine R_seg sg_68_35 sk_68_35 (pc' := 42) (lv' := [(0, .ref 0), (1, .int (nI t))]) (st' := [.int ((c_goBy σ (nI t)) 1 4)]) (S' := stt (c_goBy σ (nI t)) τ) (kc' := 0) (ks' := 0) rfl ⟨trivial, rfl, rfl, trivial⟩ ?_
      refine R_iret ck_68_42 rfl rfl ?_
      exact hs t (by omega) (by omega) (by omega) rfl
    · have c_22 : 100000 < (n + t) := Nat.not_le.mp (fun q => c_22 ((nI_leI (a := (n + t)) (b := 100000) (by omega) (by omega)).mpr q))
      refine R_seg sg_68_25 sk_68_25 (pc' := 26) (lv' := [(0, .ref 0), (1, .int (nI t))]) (st' := [.int (-1)]) (S' := stt σ τ) (kc' := 0) (ks' := 0) rfl ⟨trivial, trivial⟩ ?_
      refine R_iret ck_68_26 rfl rfl ?_
      first | exact hf (fun q => n_t q.1) | (refine hf (fun q => ?_); have q2 := q.2 t rfl; omega)
  · show RU_68 (d + 1) (0, 0) Post 8 ([(0, .ref 0), (1, .int x1)]) ([.int 0]) (stt σ τ) 0 0
    refine R_if ck_68_8 (fun _ => ?_) (fun c => absurd (show (0 : Int32) = 0 from by decide) c)
    refine R_seg sg_68_25 sk_68_25 (pc' := 26) (lv' := [(0, .ref 0), (1, .int x1)]) (st' := [.int (-1)]) (S' := stt σ τ) (kc' := 0) (ks' := 0) rfl ⟨trivial, trivial⟩ ?_
    refine R_iret ck_68_26 rfl rfl ?_
    first | exact hf (fun q => n_t q.1) | (refine hf (fun q => ?_); have q2 := q.2 t rfl; omega)
def c_word (σ : Nat → Nat → Int32) (n : Nat) (w : Int32) : Nat → Nat → Int32 := up2 (up2 (up2 (up2 (up2 (up2 (up2 (up2 σ 31 n ((w.toUInt32 >>> ((24 : Int32).toUInt32 &&& Int32.toUInt32 31)).toInt32 &&& 255)) 30 1 (nI (n + 1))) 31 (n + 1) ((w.toUInt32 >>> ((16 : Int32).toUInt32 &&& Int32.toUInt32 31)).toInt32 &&& 255)) 30 1 (nI (n + 2))) 31 (n + 2) ((w.toUInt32 >>> ((8 : Int32).toUInt32 &&& Int32.toUInt32 31)).toInt32 &&& 255)) 30 1 (nI (n + 3))) 31 (n + 3) ((w.toUInt32 >>> ((0 : Int32).toUInt32 &&& Int32.toUInt32 31)).toInt32 &&& 255)) 30 1 (nI (n + 4))
set_option maxRecDepth 20000 in
theorem x_44 {d : Nat} {σ : Nat → Nat → Int32} {τ : Nat → Nat → Int64} {w : Int32} {n : Nat} (hn : σ 30 1 = nI n) (hn2 : n + 4 ≤ 200) {Post : Option Value → Sto → Prop} (hp : Post none (stt (c_word σ n w) τ)) : Ex (d + 1) 44 [.ref 30, .int w] (stt σ τ) 0 0 Post := by
  refine en_44 (Nat.le_of_ble_eq_true rfl) ?_
  show RU_44 d (0, 0) Post 0 ([(0, .ref 30), (1, .int w)]) ([]) (stt σ τ) 0 0
  refine R_seg sg_44_0 sk_44_0 (pc' := 3) (lv' := [(2, .int 24), (0, .ref 30), (1, .int w)]) (st' := []) (S' := stt σ τ) (kc' := 0) (ks' := 0) rfl ⟨trivial, (by decide), trivial⟩ ?_
  refine R_seg sg_44_3 sk_44_3 (pc' := 4) (lv' := [(2, .int 24), (0, .ref 30), (1, .int w)]) (st' := [.int 24]) (S' := stt σ τ) (kc' := 0) (ks' := 0) rfl ⟨trivial, trivial⟩ ?_
  refine R_if ck_44_4 (fun c => absurd c (show ¬ (24 : Int32) < 0 from by decide)) (fun _ => ?_)
  refine R_seg sg_44_7 sk_44_7 (pc' := 14) (lv' := [(2, .int 24), (0, .ref 30), (1, .int w)]) (st' := [.int 200, .int (σ 30 1)]) (S' := stt σ τ) (kc' := 0) (ks' := 0) rfl ⟨trivial, rfl, trivial, trivial⟩ ?_
  rw [hn]
  refine R_icmp ck_44_14 (fun (c_14 : 200 ≤ (nI n)) => ?_) (fun (c_14 : ¬ 200 ≤ (nI n)) => ?_)
  · have c_14 : 200 ≤ n := (nI_leI (a := 200) (b := n) (by omega) (by omega)).mp c_14
    omega
  · have c_14 : n < 200 := Nat.not_le.mp (fun q => c_14 ((nI_leI (a := 200) (b := n) (by omega) (by omega)).mpr q))
    refine R_seg sg_44_17 sk_44_17 (pc' := 32) (lv' := [(2, .int 24), (0, .ref 30), (1, .int w)]) (st' := [.int (((w.toUInt32 >>> ((24 : Int32).toUInt32 &&& Int32.toUInt32 31)).toInt32) &&& 255), .int (σ 30 1), .ref 31]) (S' := stt σ τ) (kc' := 0) (ks' := 0) rfl ⟨trivial, rfl, trivial, rfl, trivial, trivial, trivial, trivial, trivial, trivial⟩ ?_
    rw [hn]
    refine R_iast ca_44_32 (j := n) rfl rfl (by omega) ?_
    refine R_seg sg_44_33 sk_44_33 (pc' := 46) (lv' := [(2, .int 16), (0, .ref 30), (1, .int w)]) (st' := []) (S' := stt (up2 (up2 σ 31 n (((w.toUInt32 >>> ((24 : Int32).toUInt32 &&& Int32.toUInt32 31)).toInt32) &&& 255)) 30 1 ((σ 30 1) + 1)) τ) (kc' := 0) (ks' := 0) rfl ⟨trivial, rfl, rfl, trivial, trivial, ⟨rfl, ⟨rfl, rfl⟩⟩, (by decide), trivial⟩ ?_
    refine R_goto ck_44_46 ?_
    refine R_seg sg_44_3 sk_44_3 (pc' := 4) (lv' := [(2, .int 16), (0, .ref 30), (1, .int w)]) (st' := [.int 16]) (S' := stt (up2 (up2 σ 31 n (((w.toUInt32 >>> ((24 : Int32).toUInt32 &&& Int32.toUInt32 31)).toInt32) &&& 255)) 30 1 ((σ 30 1) + 1)) τ) (kc' := 0) (ks' := 0) rfl ⟨trivial, trivial⟩ ?_
    refine R_if ck_44_4 (fun c => absurd c (show ¬ (16 : Int32) < 0 from by decide)) (fun _ => ?_)
    refine R_seg sg_44_7 sk_44_7 (pc' := 14) (lv' := [(2, .int 16), (0, .ref 30), (1, .int w)]) (st' := [.int 200, .int ((σ 30 1) + 1)]) (S' := stt (up2 (up2 σ 31 n (((w.toUInt32 >>> ((24 : Int32).toUInt32 &&& Int32.toUInt32 31)).toInt32) &&& 255)) 30 1 ((σ 30 1) + 1)) τ) (kc' := 0) (ks' := 0) rfl ⟨trivial, rfl, trivial, trivial⟩ ?_
    rw [hn]
    rw [show (nI n) + 1 = nI (n + 1) from nI_1 n]
    refine R_icmp ck_44_14 (fun (c_14 : 200 ≤ (nI (n + 1))) => ?_) (fun (c_14 : ¬ 200 ≤ (nI (n + 1))) => ?_)
    · have c_14 : 200 ≤ (n + 1) := (nI_leI (a := 200) (b := (n + 1)) (by omega) (by omega)).mp c_14
      omega
    · have c_14 : (n + 1) < 200 := Nat.not_le.mp (fun q => c_14 ((nI_leI (a := 200) (b := (n + 1)) (by omega) (by omega)).mpr q))
      refine R_seg sg_44_17 sk_44_17 (pc' := 32) (lv' := [(2, .int 16), (0, .ref 30), (1, .int w)]) (st' := [.int (((w.toUInt32 >>> ((16 : Int32).toUInt32 &&& Int32.toUInt32 31)).toInt32) &&& 255), .int (nI (n + 1)), .ref 31]) (S' := stt (up2 (up2 σ 31 n (((w.toUInt32 >>> ((24 : Int32).toUInt32 &&& Int32.toUInt32 31)).toInt32) &&& 255)) 30 1 (nI (n + 1))) τ) (kc' := 0) (ks' := 0) rfl ⟨trivial, rfl, trivial, rfl, trivial, trivial, trivial, trivial, trivial, trivial⟩ ?_
      refine R_iast ca_44_32 (j := n + 1) rfl rfl (by omega) ?_
      refine R_seg sg_44_33 sk_44_33 (pc' := 46) (lv' := [(2, .int 8), (0, .ref 30), (1, .int w)]) (st' := []) (S' := stt (up2 (up2 (up2 (up2 σ 31 n (((w.toUInt32 >>> ((24 : Int32).toUInt32 &&& Int32.toUInt32 31)).toInt32) &&& 255)) 30 1 (nI (n + 1))) 31 (n + 1) (((w.toUInt32 >>> ((16 : Int32).toUInt32 &&& Int32.toUInt32 31)).toInt32) &&& 255)) 30 1 ((nI (n + 1)) + 1)) τ) (kc' := 0) (ks' := 0) rfl ⟨trivial, rfl, rfl, trivial, trivial, ⟨rfl, ⟨rfl, rfl⟩⟩, (by decide), trivial⟩ ?_
      refine R_goto ck_44_46 ?_
      refine R_seg sg_44_3 sk_44_3 (pc' := 4) (lv' := [(2, .int 8), (0, .ref 30), (1, .int w)]) (st' := [.int 8]) (S' := stt (up2 (up2 (up2 (up2 σ 31 n (((w.toUInt32 >>> ((24 : Int32).toUInt32 &&& Int32.toUInt32 31)).toInt32) &&& 255)) 30 1 (nI (n + 1))) 31 (n + 1) (((w.toUInt32 >>> ((16 : Int32).toUInt32 &&& Int32.toUInt32 31)).toInt32) &&& 255)) 30 1 ((nI (n + 1)) + 1)) τ) (kc' := 0) (ks' := 0) rfl ⟨trivial, trivial⟩ ?_
      refine R_if ck_44_4 (fun c => absurd c (show ¬ (8 : Int32) < 0 from by decide)) (fun _ => ?_)
      refine R_seg sg_44_7 sk_44_7 (pc' := 14) (lv' := [(2, .int 8), (0, .ref 30), (1, .int w)]) (st' := [.int 200, .int ((nI (n + 1)) + 1)]) (S' := stt (up2 (up2 (up2 (up2 σ 31 n (((w.toUInt32 >>> ((24 : Int32).toUInt32 &&& Int32.toUInt32 31)).toInt32) &&& 255)) 30 1 (nI (n + 1))) 31 (n + 1) (((w.toUInt32 >>> ((16 : Int32).toUInt32 &&& Int32.toUInt32 31)).toInt32) &&& 255)) 30 1 ((nI (n + 1)) + 1)) τ) (kc' := 0) (ks' := 0) rfl ⟨trivial, rfl, trivial, trivial⟩ ?_
      rw [show (nI (n + 1)) + 1 = nI (n + 2) from nI_1 (n + 1)]
      refine R_icmp ck_44_14 (fun (c_14 : 200 ≤ (nI (n + 2))) => ?_) (fun (c_14 : ¬ 200 ≤ (nI (n + 2))) => ?_)
      · have c_14 : 200 ≤ (n + 2) := (nI_leI (a := 200) (b := (n + 2)) (by omega) (by omega)).mp c_14
        omega
      · have c_14 : (n + 2) < 200 := Nat.not_le.mp (fun q => c_14 ((nI_leI (a := 200) (b := (n + 2)) (by omega) (by omega)).mpr q))
        refine R_seg sg_44_17 sk_44_17 (pc' := 32) (lv' := [(2, .int 8), (0, .ref 30), (1, .int w)]) (st' := [.int (((w.toUInt32 >>> ((8 : Int32).toUInt32 &&& Int32.toUInt32 31)).toInt32) &&& 255), .int (nI (n + 2)), .ref 31]) (S' := stt (up2 (up2 (up2 (up2 σ 31 n (((w.toUInt32 >>> ((24 : Int32).toUInt32 &&& Int32.toUInt32 31)).toInt32) &&& 255)) 30 1 (nI (n + 1))) 31 (n + 1) (((w.toUInt32 >>> ((16 : Int32).toUInt32 &&& Int32.toUInt32 31)).toInt32) &&& 255)) 30 1 (nI (n + 2))) τ) (kc' := 0) (ks' := 0) rfl ⟨trivial, rfl, trivial, rfl, trivial, trivial, trivial, trivial, trivial, trivial⟩ ?_
        refine R_iast ca_44_32 (j := n + 2) rfl rfl (by omega) ?_
        refine R_seg sg_44_33 sk_44_33 (pc' := 46) (lv' := [(2, .int 0), (0, .ref 30), (1, .int w)]) (st' := []) (S' := stt (up2 (up2 (up2 (up2 (up2 (up2 σ 31 n (((w.toUInt32 >>> ((24 : Int32).toUInt32 &&& Int32.toUInt32 31)).toInt32) &&& 255)) 30 1 (nI (n + 1))) 31 (n + 1) (((w.toUInt32 >>> ((16 : Int32).toUInt32 &&& Int32.toUInt32 31)).toInt32) &&& 255)) 30 1 (nI (n + 2))) 31 (n + 2) (((w.toUInt32 >>> ((8 : Int32).toUInt32 &&& Int32.toUInt32 31)).toInt32) &&& 255)) 30 1 ((nI (n + 2)) + 1)) τ) (kc' := 0) (ks' := 0) rfl ⟨trivial, rfl, rfl, trivial, trivial, ⟨rfl, ⟨rfl, rfl⟩⟩, (by decide), trivial⟩ ?_
        refine R_goto ck_44_46 ?_
        refine R_seg sg_44_3 sk_44_3 (pc' := 4) (lv' := [(2, .int 0), (0, .ref 30), (1, .int w)]) (st' := [.int 0]) (S' := stt (up2 (up2 (up2 (up2 (up2 (up2 σ 31 n (((w.toUInt32 >>> ((24 : Int32).toUInt32 &&& Int32.toUInt32 31)).toInt32) &&& 255)) 30 1 (nI (n + 1))) 31 (n + 1) (((w.toUInt32 >>> ((16 : Int32).toUInt32 &&& Int32.toUInt32 31)).toInt32) &&& 255)) 30 1 (nI (n + 2))) 31 (n + 2) (((w.toUInt32 >>> ((8 : Int32).toUInt32 &&& Int32.toUInt32 31)).toInt32) &&& 255)) 30 1 ((nI (n + 2)) + 1)) τ) (kc' := 0) (ks' := 0) rfl ⟨trivial, trivial⟩ ?_
        refine R_if ck_44_4 (fun c => absurd c (show ¬ (0 : Int32) < 0 from by decide)) (fun _ => ?_)
        refine R_seg sg_44_7 sk_44_7 (pc' := 14) (lv' := [(2, .int 0), (0, .ref 30), (1, .int w)]) (st' := [.int 200, .int ((nI (n + 2)) + 1)]) (S' := stt (up2 (up2 (up2 (up2 (up2 (up2 σ 31 n (((w.toUInt32 >>> ((24 : Int32).toUInt32 &&& Int32.toUInt32 31)).toInt32) &&& 255)) 30 1 (nI (n + 1))) 31 (n + 1) (((w.toUInt32 >>> ((16 : Int32).toUInt32 &&& Int32.toUInt32 31)).toInt32) &&& 255)) 30 1 (nI (n + 2))) 31 (n + 2) (((w.toUInt32 >>> ((8 : Int32).toUInt32 &&& Int32.toUInt32 31)).toInt32) &&& 255)) 30 1 ((nI (n + 2)) + 1)) τ) (kc' := 0) (ks' := 0) rfl ⟨trivial, rfl, trivial, trivial⟩ ?_
        rw [show (nI (n + 2)) + 1 = nI (n + 3) from nI_1 (n + 2)]
        refine R_icmp ck_44_14 (fun (c_14 : 200 ≤ (nI (n + 3))) => ?_) (fun (c_14 : ¬ 200 ≤ (nI (n + 3))) => ?_)
        · have c_14 : 200 ≤ (n + 3) := (nI_leI (a := 200) (b := (n + 3)) (by omega) (by omega)).mp c_14
          omega
        · have c_14 : (n + 3) < 200 := Nat.not_le.mp (fun q => c_14 ((nI_leI (a := 200) (b := (n + 3)) (by omega) (by omega)).mpr q))
          refine R_seg sg_44_17 sk_44_17 (pc' := 32) (lv' := [(2, .int 0), (0, .ref 30), (1, .int w)]) (st' := [.int (((w.toUInt32 >>> ((0 : Int32).toUInt32 &&& Int32.toUInt32 31)).toInt32) &&& 255), .int (nI (n + 3)), .ref 31]) (S' := stt (up2 (up2 (up2 (up2 (up2 (up2 σ 31 n (((w.toUInt32 >>> ((24 : Int32).toUInt32 &&& Int32.toUInt32 31)).toInt32) &&& 255)) 30 1 (nI (n + 1))) 31 (n + 1) (((w.toUInt32 >>> ((16 : Int32).toUInt32 &&& Int32.toUInt32 31)).toInt32) &&& 255)) 30 1 (nI (n + 2))) 31 (n + 2) (((w.toUInt32 >>> ((8 : Int32).toUInt32 &&& Int32.toUInt32 31)).toInt32) &&& 255)) 30 1 (nI (n + 3))) τ) (kc' := 0) (ks' := 0) rfl ⟨trivial, rfl, trivial, rfl, trivial, trivial, trivial, trivial, trivial, trivial⟩ ?_
          refine R_iast ca_44_32 (j := n + 3) rfl rfl (by omega) ?_
          refine R_seg sg_44_33 sk_44_33 (pc' := 46) (lv' := [(2, .int (-8)), (0, .ref 30), (1, .int w)]) (st' := []) (S' := stt (up2 (up2 (up2 (up2 (up2 (up2 (up2 (up2 σ 31 n (((w.toUInt32 >>> ((24 : Int32).toUInt32 &&& Int32.toUInt32 31)).toInt32) &&& 255)) 30 1 (nI (n + 1))) 31 (n + 1) (((w.toUInt32 >>> ((16 : Int32).toUInt32 &&& Int32.toUInt32 31)).toInt32) &&& 255)) 30 1 (nI (n + 2))) 31 (n + 2) (((w.toUInt32 >>> ((8 : Int32).toUInt32 &&& Int32.toUInt32 31)).toInt32) &&& 255)) 30 1 (nI (n + 3))) 31 (n + 3) (((w.toUInt32 >>> ((0 : Int32).toUInt32 &&& Int32.toUInt32 31)).toInt32) &&& 255)) 30 1 ((nI (n + 3)) + 1)) τ) (kc' := 0) (ks' := 0) rfl ⟨trivial, rfl, rfl, trivial, trivial, ⟨rfl, ⟨rfl, rfl⟩⟩, (by decide), trivial⟩ ?_
          refine R_goto ck_44_46 ?_
          refine R_seg sg_44_3 sk_44_3 (pc' := 4) (lv' := [(2, .int (-8)), (0, .ref 30), (1, .int w)]) (st' := [.int (-8)]) (S' := stt (up2 (up2 (up2 (up2 (up2 (up2 (up2 (up2 σ 31 n (((w.toUInt32 >>> ((24 : Int32).toUInt32 &&& Int32.toUInt32 31)).toInt32) &&& 255)) 30 1 (nI (n + 1))) 31 (n + 1) (((w.toUInt32 >>> ((16 : Int32).toUInt32 &&& Int32.toUInt32 31)).toInt32) &&& 255)) 30 1 (nI (n + 2))) 31 (n + 2) (((w.toUInt32 >>> ((8 : Int32).toUInt32 &&& Int32.toUInt32 31)).toInt32) &&& 255)) 30 1 (nI (n + 3))) 31 (n + 3) (((w.toUInt32 >>> ((0 : Int32).toUInt32 &&& Int32.toUInt32 31)).toInt32) &&& 255)) 30 1 ((nI (n + 3)) + 1)) τ) (kc' := 0) (ks' := 0) rfl ⟨trivial, trivial⟩ ?_
          refine R_if ck_44_4 (fun _ => ?_) (fun c => absurd (show (-8 : Int32) < 0 from by decide) c)
          refine R_ret ck_44_49 rfl ?_
          rw [show (nI (n + 3)) + 1 = nI (n + 4) from nI_1 (n + 3)]
          exact hp
end
section
/-! ===== AnswerDoor: more plain methods ===== -/
def c_feed (σ : Nat → Nat → Int32) (n : Nat) (x1 x2 x3 x4 x5 : Int32) : Nat → Nat → Int32 := c_word (c_word (c_word (c_word (c_word σ n x1) (n + 4) x2) (n + 8) x3) (n + 12) x4) (n + 16) x5
set_option maxRecDepth 20000 in
theorem x_69 {d : Nat} {σ : Nat → Nat → Int32} {τ : Nat → Nat → Int64} {x1 x2 x3 x4 x5 : Int32} {n : Nat} (hn : σ 30 1 = nI n) (hn2 : n ≤ 200) {Post : Option Value → Sto → Prop} (hs : n ≤ 180 → Post (some (.int (nI (n + 20)))) (stt (c_feed σ n x1 x2 x3 x4 x5) τ)) (hf : ¬ n ≤ 180 → Post (some (.int (-1))) (stt σ τ)) : Ex (d + 2) 69 [.ref 0, .int x1, .int x2, .int x3, .int x4, .int x5] (stt σ τ) 0 0 Post := by
  refine en_69 (Nat.le_of_ble_eq_true rfl) ?_
  show RU_69 (d + 1) (0, 0) Post 0 ([(0, .ref 0), (1, .int x1), (2, .int x2), (3, .int x3), (4, .int x4), (5, .int x5)]) ([]) (stt σ τ) 0 0
  refine R_seg sg_69_0 sk_69_0 (pc' := 10) (lv' := [(0, .ref 0), (1, .int x1), (2, .int x2), (3, .int x3), (4, .int x4), (5, .int x5)]) (st' := [.int 180, .int (σ 30 1)]) (S' := stt σ τ) (kc' := 0) (ks' := 0) rfl ⟨trivial, rfl, rfl, trivial, trivial⟩ ?_
  rw [hn]
  refine R_icmp ck_69_10 (fun (c_10 : (nI n) ≤ 180) => ?_) (fun (c_10 : ¬ (nI n) ≤ 180) => ?_)
  · have c_10 : n ≤ 180 := (nI_leI (a := n) (b := 180) (by omega) (by omega)).mp c_10
    refine R_seg sg_69_15 sk_69_15 (pc' := 20) (lv' := [(0, .ref 0), (1, .int x1), (2, .int x2), (3, .int x3), (4, .int x4), (5, .int x5)]) (st' := [.int x1, .ref 30]) (S' := stt σ τ) (kc' := 0) (ks' := 0) rfl ⟨trivial, rfl, trivial, trivial⟩ ?_
    refine R_virt ck_69_20 30 [.int x1] 0 0 (r := []) rfl rfl rfl (Nat.le_of_ble_eq_true rfl) (Nat.le_refl _) (Nat.le_refl _) ?_
    refine x_44 (d := d) (n := n) hn (by omega) ?_
    show RU_69 (d + 1) (0, 0) Post 23 ([(0, .ref 0), (1, .int x1), (2, .int x2), (3, .int x3), (4, .int x4), (5, .int x5)]) ([]) (stt (c_word σ n x1) τ) 0 0
    refine R_seg sg_69_23 sk_69_23 (pc' := 28) (lv' := [(0, .ref 0), (1, .int x1), (2, .int x2), (3, .int x3), (4, .int x4), (5, .int x5)]) (st' := [.int x2, .ref 30]) (S' := stt (c_word σ n x1) τ) (kc' := 0) (ks' := 0) rfl ⟨trivial, rfl, trivial, trivial⟩ ?_
    refine R_virt ck_69_28 30 [.int x2] 0 0 (r := []) rfl rfl rfl (Nat.le_of_ble_eq_true rfl) (Nat.le_refl _) (Nat.le_refl _) ?_
    refine x_44 (d := d) (n := n + 4) rfl (by omega) ?_
    show RU_69 (d + 1) (0, 0) Post 31 ([(0, .ref 0), (1, .int x1), (2, .int x2), (3, .int x3), (4, .int x4), (5, .int x5)]) ([]) (stt (c_word (c_word σ n x1) (n + 4) x2) τ) 0 0
    refine R_seg sg_69_31 sk_69_31 (pc' := 36) (lv' := [(0, .ref 0), (1, .int x1), (2, .int x2), (3, .int x3), (4, .int x4), (5, .int x5)]) (st' := [.int x3, .ref 30]) (S' := stt (c_word (c_word σ n x1) (n + 4) x2) τ) (kc' := 0) (ks' := 0) rfl ⟨trivial, rfl, trivial, trivial⟩ ?_
    refine R_virt ck_69_36 30 [.int x3] 0 0 (r := []) rfl rfl rfl (Nat.le_of_ble_eq_true rfl) (Nat.le_refl _) (Nat.le_refl _) ?_
    refine x_44 (d := d) (n := n + 8) rfl (by omega) ?_
    show RU_69 (d + 1) (0, 0) Post 39 ([(0, .ref 0), (1, .int x1), (2, .int x2), (3, .int x3), (4, .int x4), (5, .int x5)]) ([]) (stt (c_word (c_word (c_word σ n x1) (n + 4) x2) (n + 8) x3) τ) 0 0
    refine R_seg sg_69_39 sk_69_39 (pc' := 45) (lv' := [(0, .ref 0), (1, .int x1), (2, .int x2), (3, .int x3), (4, .int x4), (5, .int x5)]) (st' := [.int x4, .ref 30]) (S' := stt (c_word (c_word (c_word σ n x1) (n + 4) x2) (n + 8) x3) τ) (kc' := 0) (ks' := 0) rfl ⟨trivial, rfl, trivial, trivial⟩ ?_
    refine R_virt ck_69_45 30 [.int x4] 0 0 (r := []) rfl rfl rfl (Nat.le_of_ble_eq_true rfl) (Nat.le_refl _) (Nat.le_refl _) ?_
    refine x_44 (d := d) (n := n + 12) rfl (by omega) ?_
    show RU_69 (d + 1) (0, 0) Post 48 ([(0, .ref 0), (1, .int x1), (2, .int x2), (3, .int x3), (4, .int x4), (5, .int x5)]) ([]) (stt (c_word (c_word (c_word (c_word σ n x1) (n + 4) x2) (n + 8) x3) (n + 12) x4) τ) 0 0
    refine R_seg sg_69_48 sk_69_48 (pc' := 54) (lv' := [(0, .ref 0), (1, .int x1), (2, .int x2), (3, .int x3), (4, .int x4), (5, .int x5)]) (st' := [.int x5, .ref 30]) (S' := stt (c_word (c_word (c_word (c_word σ n x1) (n + 4) x2) (n + 8) x3) (n + 12) x4) τ) (kc' := 0) (ks' := 0) rfl ⟨trivial, rfl, trivial, trivial⟩ ?_
    refine R_virt ck_69_54 30 [.int x5] 0 0 (r := []) rfl rfl rfl (Nat.le_of_ble_eq_true rfl) (Nat.le_refl _) (Nat.le_refl _) ?_
    refine x_44 (d := d) (n := n + 16) rfl (by omega) ?_
    show RU_69 (d + 1) (0, 0) Post 57 ([(0, .ref 0), (1, .int x1), (2, .int x2), (3, .int x3), (4, .int x4), (5, .int x5)]) ([]) (stt (c_word (c_word (c_word (c_word (c_word σ n x1) (n + 4) x2) (n + 8) x3) (n + 12) x4) (n + 16) x5) τ) 0 0
    refine R_seg sg_69_57 sk_69_57 (pc' := 64) (lv' := [(0, .ref 0), (1, .int x1), (2, .int x2), (3, .int x3), (4, .int x4), (5, .int x5)]) (st' := [.int ((c_word (c_word (c_word (c_word (c_word σ n x1) (n + 4) x2) (n + 8) x3) (n + 12) x4) (n + 16) x5) 30 1)]) (S' := stt (c_word (c_word (c_word (c_word (c_word σ n x1) (n + 4) x2) (n + 8) x3) (n + 12) x4) (n + 16) x5) τ) (kc' := 0) (ks' := 0) rfl ⟨trivial, rfl, rfl, trivial⟩ ?_
    refine R_iret ck_69_64 rfl rfl ?_
    exact hs (by omega)
  · have c_10 : 180 < n := Nat.not_le.mp (fun q => c_10 ((nI_leI (a := n) (b := 180) (by omega) (by omega)).mpr q))
    refine R_seg sg_69_13 sk_69_13 (pc' := 14) (lv' := [(0, .ref 0), (1, .int x1), (2, .int x2), (3, .int x3), (4, .int x4), (5, .int x5)]) (st' := [.int (-1)]) (S' := stt σ τ) (kc' := 0) (ks' := 0) rfl ⟨trivial, trivial⟩ ?_
    refine R_iret ck_69_14 rfl rfl ?_
    exact hf (by omega)
set_option maxRecDepth 20000 in
theorem x_70 {d : Nat} {σ : Nat → Nat → Int32} {τ : Nat → Nat → Int64} {x1 : Int32} {n : Nat} (hn : σ 30 1 = nI n) (hn2 : n ≤ 200) {Post : Option Value → Sto → Prop} (hs : ∀ j : Nat, j ≤ n → x1 = nI j → Post (some (.int (nI j))) (stt (up2 σ 30 1 (nI j)) τ)) (hf : ¬ rg x1 0 n → Post (some (.int (-1))) (stt σ τ)) : Ex (d + 2) 70 [.ref 0, .int x1] (stt σ τ) 0 0 Post := by
  refine en_70 (Nat.le_of_ble_eq_true rfl) ?_
  show RU_70 (d + 1) (0, 0) Post 0 ([(0, .ref 0), (1, .int x1)]) ([]) (stt σ τ) 0 0
  refine R_seg sg_70_0 sk_70_0 (pc' := 9) (lv' := [(0, .ref 0), (1, .int x1)]) (st' := [.int (σ 30 1), .int 0, .int x1]) (S' := stt σ τ) (kc' := 0) (ks' := 0) rfl ⟨trivial, trivial, trivial, rfl, rfl, trivial⟩ ?_
  rw [hn]
  refine R_stat ck_70_9 (by decide) [.int x1, .int 0, .int (nI n)] 0 0 (r := []) rfl rfl (Nat.le_of_ble_eq_true rfl) (Nat.le_refl _) (Nat.le_refl _) ?_
  refine xn_57 (d := d) 0 n (by omega) (by omega) (fun j l_j u_j e_j => ?_) (fun n_j => ?_)
  · subst e_j
    show RU_70 (d + 1) (0, 0) Post 12 ([(0, .ref 0), (1, .int (nI j))]) ([.int 1]) (stt σ τ) 0 0
    refine R_if ck_70_12 (fun _ => ?_) (fun c => absurd (show ¬ (1 : Int32) = 0 from by decide) c)
    refine R_seg sg_70_17 sk_70_17 (pc' := 26) (lv' := [(0, .ref 0), (1, .int (nI j))]) (st' := [.int (nI j)]) (S' := stt (up2 σ 30 1 (nI j)) τ) (kc' := 0) (ks' := 0) rfl ⟨trivial, rfl, trivial, ⟨rfl, ⟨rfl, rfl⟩⟩, trivial, trivial⟩ ?_
    refine R_iret ck_70_26 rfl rfl ?_
    exact hs j (by omega) rfl
  · show RU_70 (d + 1) (0, 0) Post 12 ([(0, .ref 0), (1, .int x1)]) ([.int 0]) (stt σ τ) 0 0
    refine R_if ck_70_12 (fun c => absurd c (show ¬ ¬ (0 : Int32) = 0 from by decide)) (fun _ => ?_)
    refine R_seg sg_70_15 sk_70_15 (pc' := 16) (lv' := [(0, .ref 0), (1, .int x1)]) (st' := [.int (-1)]) (S' := stt σ τ) (kc' := 0) (ks' := 0) rfl ⟨trivial, trivial⟩ ?_
    refine R_iret ck_70_16 rfl rfl ?_
    exact hf n_j
set_option maxRecDepth 20000 in
theorem x_73 {d : Nat} {σ : Nat → Nat → Int32} {τ : Nat → Nat → Int64} {Post : Option Value → Sto → Prop} (hp : Post (some (.int (σ 0 9))) (stt σ τ)) : Ex (d + 1) 73 [.ref 0] (stt σ τ) 0 0 Post := by
  refine en_73 (Nat.le_of_ble_eq_true rfl) ?_
  show RU_73 d (0, 0) Post 0 ([(0, .ref 0)]) ([]) (stt σ τ) 0 0
  refine R_seg sg_73_0 sk_73_0 (pc' := 4) (lv' := [(0, .ref 0)]) (st' := [.int (σ 0 9)]) (S' := stt σ τ) (kc' := 0) (ks' := 0) rfl ⟨trivial, rfl, trivial⟩ ?_
  refine R_iret ck_73_4 rfl rfl ?_
  exact hp
set_option maxRecDepth 20000 in
theorem x_74 {d : Nat} {σ : Nat → Nat → Int32} {τ : Nat → Nat → Int64} {x1 : Int32} {n : Nat} (hn : σ 55 1 = nI n) (hn2 : n ≤ 3500) {Post : Option Value → Sto → Prop} (hs : ∀ j : Nat, j < n → x1 = nI j → Post (some (.int (σ 56 j))) (stt σ τ)) (hf : ¬ (∃ j : Nat, j < n ∧ x1 = nI j) → Post (some (.int (-1))) (stt σ τ)) : Ex (d + 2) 74 [.ref 0, .int x1] (stt σ τ) 0 0 Post := by
  refine en_74 (Nat.le_of_ble_eq_true rfl) ?_
  show RU_74 (d + 1) (0, 0) Post 0 ([(0, .ref 0), (1, .int x1)]) ([]) (stt σ τ) 0 0
  refine R_seg sg_74_0 sk_74_0 (pc' := 11) (lv' := [(0, .ref 0), (1, .int x1)]) (st' := [.int ((σ 55 1) - 1), .int 0, .int x1]) (S' := stt σ τ) (kc' := 0) (ks' := 0) rfl ⟨trivial, trivial, trivial, rfl, rfl, trivial, trivial, trivial⟩ ?_
  rw [hn]
  refine R_stat ck_74_11 (by decide) [.int x1, .int 0, .int ((nI n) - 1)] 0 0 (r := []) rfl rfl (Nat.le_of_ble_eq_true rfl) (Nat.le_refl _) (Nat.le_refl _) ?_
  refine xm_57 (d := d) n (by omega) (fun j u_j e_j => ?_) (fun n_j => ?_)
  · subst e_j
    show RU_74 (d + 1) (0, 0) Post 14 ([(0, .ref 0), (1, .int (nI j))]) ([.int 1]) (stt σ τ) 0 0
    refine R_if ck_74_14 (fun c => absurd c (show ¬ (1 : Int32) = 0 from by decide)) (fun _ => ?_)
    refine R_seg sg_74_17 sk_74_17 (pc' := 25) (lv' := [(0, .ref 0), (1, .int (nI j))]) (st' := [.int (nI j), .ref 56]) (S' := stt σ τ) (kc' := 0) (ks' := 0) rfl ⟨trivial, rfl, rfl, trivial, trivial⟩ ?_
    refine R_iald ca_74_25 (j := j) rfl rfl (by omega) ?_
    refine R_goto ck_74_26 ?_
    refine R_iret ck_74_30 rfl rfl ?_
    exact hs j (by omega) rfl
  · show RU_74 (d + 1) (0, 0) Post 14 ([(0, .ref 0), (1, .int x1)]) ([.int 0]) (stt σ τ) 0 0
    refine R_if ck_74_14 (fun _ => ?_) (fun c => absurd (show (0 : Int32) = 0 from by decide) c)
    refine R_seg sg_74_29 sk_74_29 (pc' := 30) (lv' := [(0, .ref 0), (1, .int x1)]) (st' := [.int (-1)]) (S' := stt σ τ) (kc' := 0) (ks' := 0) rfl ⟨trivial, trivial⟩ ?_
    refine R_iret ck_74_30 rfl rfl ?_
    exact hf n_j
set_option maxRecDepth 20000 in
theorem x_5 {d : Nat} {σ : Nat → Nat → Int32} {τ : Nat → Nat → Int64} {x : Int32} {k z s : Nat} (hk : k < 192) (hz : σ 46 k = nI z) (hs : σ 48 k = nI s) (hzs : s + z ≤ 192) {Post : Option Value → Sto → Prop} (h1 : ∀ j : Nat, j < z → x = nI j → Post (some (.int (σ 49 (s + j)))) (stt σ τ)) (h0 : ¬ (∃ j : Nat, j < z ∧ x = nI j) → Post (some (.int (-1))) (stt σ τ)) : Ex (d + 2) 5 [.ref 42, .int (nI k), .int x] (stt σ τ) 0 0 Post := by
  refine en_5 (Nat.le_of_ble_eq_true rfl) ?_
  show RU_5 (d + 1) (0, 0) Post 0 ([(0, .ref 42), (1, .int (nI k)), (2, .int x)]) ([]) (stt σ τ) 0 0
  refine R_seg sg_5_0 sk_5_0 (pc' := 7) (lv' := [(0, .ref 42), (1, .int (nI k)), (2, .int x)]) (st' := [.int (nI k), .ref 46, .int 0, .int x]) (S' := stt σ τ) (kc' := 0) (ks' := 0) rfl ⟨trivial, trivial, trivial, rfl, trivial, trivial⟩ ?_
  refine R_iald ca_5_7 (j := k) rfl rfl (by omega) ?_
  show RU_5 (d + 1) (0, 0) Post 8 ([(0, .ref 42), (1, .int (nI k)), (2, .int x)]) ([.int (σ 46 k), .int 0, .int x]) (stt σ τ) 0 0
  rw [hz]
  refine R_seg sg_5_8 sk_5_8 (pc' := 10) (lv' := [(0, .ref 42), (1, .int (nI k)), (2, .int x)]) (st' := [.int ((nI z) - 1), .int 0, .int x]) (S' := stt σ τ) (kc' := 0) (ks' := 0) rfl ⟨trivial, trivial, trivial⟩ ?_
  refine R_stat ck_5_10 (by decide) [.int x, .int 0, .int ((nI z) - 1)] 0 0 (r := []) rfl rfl (Nat.le_of_ble_eq_true rfl) (Nat.le_refl _) (Nat.le_refl _) ?_
  refine xm_57 (d := d) z (by omega) (fun j u_j e_j => ?_) (fun n_j => ?_)
  · subst e_j
    show RU_5 (d + 1) (0, 0) Post 13 ([(0, .ref 42), (1, .int (nI k)), (2, .int (nI j))]) ([.int 1]) (stt σ τ) 0 0
    refine R_if ck_5_13 (fun c => absurd c (show ¬ (1 : Int32) = 0 from by decide)) (fun _ => ?_)
    refine R_seg sg_5_16 sk_5_16 (pc' := 25) (lv' := [(0, .ref 42), (1, .int (nI k)), (2, .int (nI j))]) (st' := [.int (nI k), .ref 48, .ref 49]) (S' := stt σ τ) (kc' := 0) (ks' := 0) rfl ⟨trivial, rfl, trivial, rfl, trivial, trivial⟩ ?_
    refine R_iald ca_5_25 (j := k) rfl rfl (by omega) ?_
    show RU_5 (d + 1) (0, 0) Post 26 ([(0, .ref 42), (1, .int (nI k)), (2, .int (nI j))]) ([.int (σ 48 k), .ref 49]) (stt σ τ) 0 0
    rw [hs]
    refine R_seg sg_5_26 sk_5_26 (pc' := 28) (lv' := [(0, .ref 42), (1, .int (nI k)), (2, .int (nI j))]) (st' := [.int ((nI s) + (nI j)), .ref 49]) (S' := stt σ τ) (kc' := 0) (ks' := 0) rfl ⟨trivial, trivial, trivial⟩ ?_
    refine R_iald ca_5_28 (j := s + j) rfl (by simp only [nl_0, nl_1, nl_2, nl_3, nl_4, nl_5, nl_6, nl_8, nl_20, nl_31, nl_32, pk_mul, nI_add]) (by omega) ?_
    refine R_goto ck_5_29 ?_
    refine R_iret ck_5_33 rfl rfl ?_
    exact h1 j (by omega) rfl
  · show RU_5 (d + 1) (0, 0) Post 13 ([(0, .ref 42), (1, .int (nI k)), (2, .int x)]) ([.int 0]) (stt σ τ) 0 0
    refine R_if ck_5_13 (fun _ => ?_) (fun c => absurd (show (0 : Int32) = 0 from by decide) c)
    refine R_seg sg_5_32 sk_5_32 (pc' := 33) (lv' := [(0, .ref 42), (1, .int (nI k)), (2, .int x)]) (st' := [.int (-1)]) (S' := stt σ τ) (kc' := 0) (ks' := 0) rfl ⟨trivial, trivial⟩ ?_
    refine R_iret ck_5_33 rfl rfl ?_
    exact h0 n_j
theorem sub10 (j : Nat) : nI (j + 10) - 10 = nI j := by rw [nk_10, pk_sub (Nat.le_add_left 10 j), Nat.add_sub_cancel]
set_option maxRecDepth 20000 in
theorem x_75 {d : Nat} {σ : Nat → Nat → Int32} {τ : Nat → Nat → Int64} {x1 x2 : Int32} {n : Nat} (hn : σ 42 5 = nI n) (hn2 : n ≤ 192) (hw : ∀ k, k < n → ∃ z s : Nat, σ 46 k = nI z ∧ σ 48 k = nI s ∧ s + z ≤ 192) {Post : Option Value → Sto → Prop} (hf : ¬ (∃ j : Nat, j < n ∧ x1 = nI j) → Post (some (.int (-1))) (stt σ τ)) (h0 : ∀ k : Nat, k < n → x1 = nI k → x2 = 0 → Post (some (.int (σ 43 k))) (stt σ τ)) (h1 : ∀ k : Nat, k < n → x1 = nI k → x2 = 1 → Post (some (.int (σ 44 k))) (stt σ τ)) (h2 : ∀ k : Nat, k < n → x1 = nI k → x2 = 2 → Post (some (.int (σ 45 k))) (stt σ τ)) (h3 : ∀ k : Nat, k < n → x1 = nI k → x2 = 3 → Post (some (.int (σ 46 k))) (stt σ τ)) (h4 : ∀ k : Nat, k < n → x1 = nI k → x2 = 4 → Post (some (.int (σ 47 k))) (stt σ τ)) (hk : ∀ k z s j : Nat, k < n → j < z → σ 46 k = nI z → σ 48 k = nI s → x1 = nI k → x2 = nI (j + 10) → Post (some (.int (σ 49 (s + j)))) (stt σ τ)) (hd : ∀ k z s : Nat, k < n → σ 46 k = nI z → σ 48 k = nI s → x1 = nI k → (∀ j, j < z → ¬ x2 = nI (j + 10)) → (x2.toInt < 0 ∨ 4 < x2.toInt) → Post (some (.int (-1))) (stt σ τ)) : Ex (d + 3) 75 [.ref 0, .int x1, .int x2] (stt σ τ) 0 0 Post := by
  refine en_75 (Nat.le_of_ble_eq_true rfl) ?_
  show RU_75 (d + 2) (0, 0) Post 0 ([(0, .ref 0), (1, .int x1), (2, .int x2)]) ([]) (stt σ τ) 0 0
  refine R_seg sg_75_0 sk_75_0 (pc' := 11) (lv' := [(0, .ref 0), (1, .int x1), (2, .int x2)]) (st' := [.int ((σ 42 5) - 1), .int 0, .int x1]) (S' := stt σ τ) (kc' := 0) (ks' := 0) rfl ⟨trivial, trivial, trivial, rfl, rfl, trivial, trivial, trivial⟩ ?_
  rw [hn]
  refine R_stat ck_75_11 (by decide) [.int x1, .int 0, .int ((nI n) - 1)] 0 0 (r := []) rfl rfl (Nat.le_of_ble_eq_true rfl) (Nat.le_refl _) (Nat.le_refl _) ?_
  refine xm_57 (d := d + 1) n (by omega) (fun k u_k e_k => ?_) (fun n_k => ?_)
  · subst e_k
    show RU_75 (d + 2) (0, 0) Post 14 ([(0, .ref 0), (1, .int (nI k)), (2, .int x2)]) ([.int 1]) (stt σ τ) 0 0
    refine R_if ck_75_14 (fun _ => ?_) (fun c => absurd (show ¬ (1 : Int32) = 0 from by decide) c)
    refine R_seg sg_75_19 sk_75_19 (pc' := 20) (lv' := [(0, .ref 0), (1, .int (nI k)), (2, .int x2)]) (st' := [.int x2]) (S' := stt σ τ) (kc' := 0) (ks' := 0) rfl ⟨trivial, trivial⟩ ?_
    by_cases w_0 : x2 = 0
    · rw [w_0]
      refine R_tsw ck_75_20 56 rfl ?_
      refine R_seg sg_75_56 sk_75_56 (pc' := 64) (lv' := [(0, .ref 0), (1, .int (nI k)), (2, .int 0)]) (st' := [.int (nI k), .ref 43]) (S' := stt σ τ) (kc' := 0) (ks' := 0) rfl ⟨trivial, rfl, rfl, trivial, trivial⟩ ?_
      refine R_iald ca_75_64 (j := k) rfl rfl (by omega) ?_
      refine R_iret ck_75_65 rfl rfl ?_
      exact h0 k (by omega) rfl w_0
    by_cases w_1 : x2 = 1
    · rw [w_1]
      refine R_tsw ck_75_20 66 rfl ?_
      refine R_seg sg_75_66 sk_75_66 (pc' := 74) (lv' := [(0, .ref 0), (1, .int (nI k)), (2, .int 1)]) (st' := [.int (nI k), .ref 44]) (S' := stt σ τ) (kc' := 0) (ks' := 0) rfl ⟨trivial, rfl, rfl, trivial, trivial⟩ ?_
      refine R_iald ca_75_74 (j := k) rfl rfl (by omega) ?_
      refine R_iret ck_75_75 rfl rfl ?_
      exact h1 k (by omega) rfl w_1
    by_cases w_2 : x2 = 2
    · rw [w_2]
      refine R_tsw ck_75_20 76 rfl ?_
      refine R_seg sg_75_76 sk_75_76 (pc' := 84) (lv' := [(0, .ref 0), (1, .int (nI k)), (2, .int 2)]) (st' := [.int (nI k), .ref 45]) (S' := stt σ τ) (kc' := 0) (ks' := 0) rfl ⟨trivial, rfl, rfl, trivial, trivial⟩ ?_
      refine R_iald ca_75_84 (j := k) rfl rfl (by omega) ?_
      refine R_iret ck_75_85 rfl rfl ?_
      exact h2 k (by omega) rfl w_2
    by_cases w_3 : x2 = 3
    · rw [w_3]
      refine R_tsw ck_75_20 86 rfl ?_
      refine R_seg sg_75_86 sk_75_86 (pc' := 94) (lv' := [(0, .ref 0), (1, .int (nI k)), (2, .int 3)]) (st' := [.int (nI k), .ref 46]) (S' := stt σ τ) (kc' := 0) (ks' := 0) rfl ⟨trivial, rfl, rfl, trivial, trivial⟩ ?_
      refine R_iald ca_75_94 (j := k) rfl rfl (by omega) ?_
      refine R_iret ck_75_95 rfl rfl ?_
      exact h3 k (by omega) rfl w_3
    by_cases w_4 : x2 = 4
    · rw [w_4]
      refine R_tsw ck_75_20 96 rfl ?_
      refine R_seg sg_75_96 sk_75_96 (pc' := 104) (lv' := [(0, .ref 0), (1, .int (nI k)), (2, .int 4)]) (st' := [.int (nI k), .ref 47]) (S' := stt σ τ) (kc' := 0) (ks' := 0) rfl ⟨trivial, rfl, rfl, trivial, trivial⟩ ?_
      refine R_iald ca_75_104 (j := k) rfl rfl (by omega) ?_
      refine R_iret ck_75_105 rfl rfl ?_
      exact h4 k (by omega) rfl w_4
    have w_o : x2.toInt < 0 ∨ 4 < x2.toInt := sw_out (n := 4) (by decide) (fun j hj => by rcases (show j = 0 ∨ j = 1 ∨ j = 2 ∨ j = 3 ∨ j = 4 by omega) with rfl | rfl | rfl | rfl | rfl <;> assumption)
    refine R_tsw ck_75_20 106 (by simp only [swT]; rw [if_pos w_o]; rfl) ?_
    refine R_seg sg_75_106 sk_75_106 (pc' := 109) (lv' := [(0, .ref 0), (1, .int (nI k)), (2, .int x2)]) (st' := [.int 10, .int x2]) (S' := stt σ τ) (kc' := 0) (ks' := 0) rfl ⟨trivial, trivial, trivial⟩ ?_
    refine R_icmp ck_75_109 (fun (c_109 : 10 ≤ x2) => ?_) (fun (c_109 : ¬ 10 ≤ x2) => ?_)
    · obtain ⟨z, s, hz, hs, hzs⟩ := hw k (by omega)
      refine R_seg sg_75_116 sk_75_116 (pc' := 125) (lv' := [(0, .ref 0), (1, .int (nI k)), (2, .int x2)]) (st' := [.int (x2 - 10), .int (nI k), .ref 42]) (S' := stt σ τ) (kc' := 0) (ks' := 0) rfl ⟨trivial, rfl, trivial, trivial, trivial, trivial, trivial⟩ ?_
      refine R_virt ck_75_125 42 [.int (nI k), .int (x2 - 10)] 0 0 (r := []) rfl rfl rfl (Nat.le_of_ble_eq_true rfl) (Nat.le_refl _) (Nat.le_refl _) ?_
      refine x_5 (d := d) (by omega) hz hs hzs (fun j u_j e_j => ?_) (fun n_j => ?_)
      · show RU_75 (d + 2) (0, 0) Post 128 ([(0, .ref 0), (1, .int (nI k)), (2, .int x2)]) ([.int (σ 49 (s + j))]) (stt σ τ) 0 0
        refine R_iret ck_75_128 rfl rfl ?_
        exact hk k z s j (by omega) (by omega) hz hs rfl (by rw [show x2 = x2 - 10 + 10 from (Int32.sub_add_cancel x2 10).symm, e_j, nk_10, nI_add])
      · show RU_75 (d + 2) (0, 0) Post 128 ([(0, .ref 0), (1, .int (nI k)), (2, .int x2)]) ([.int (-1)]) (stt σ τ) 0 0
        refine R_iret ck_75_128 rfl rfl ?_
        first | exact hd k z s (by omega) hz hs rfl (fun j q1 q2 => n_j ⟨j, q1, by rw [q2]; exact sub10 j⟩) w_o | (obtain ⟨z, s, hz, hs, hzs⟩ := hw k (by omega); exact hd k z s (by omega) hz hs rfl (fun j q1 q2 => by rw [q2] at c_109; exact c_109 (nI_le (a := 10) (b := j + 10) (by omega) (by omega))) w_o)
    · refine R_seg sg_75_112 sk_75_112 (pc' := 113) (lv' := [(0, .ref 0), (1, .int (nI k)), (2, .int x2)]) (st' := [.int (-1)]) (S' := stt σ τ) (kc' := 0) (ks' := 0) rfl ⟨trivial, trivial⟩ ?_
      refine R_goto ck_75_113 ?_
      refine R_iret ck_75_128 rfl rfl ?_
      first | exact hd k z s (by omega) hz hs rfl (fun j q1 q2 => n_j ⟨j, q1, by rw [q2]; exact sub10 j⟩) w_o | (obtain ⟨z, s, hz, hs, hzs⟩ := hw k (by omega); exact hd k z s (by omega) hz hs rfl (fun j q1 q2 => by rw [q2] at c_109; exact c_109 (nI_le (a := 10) (b := j + 10) (by omega) (by omega))) w_o)
  · show RU_75 (d + 2) (0, 0) Post 14 ([(0, .ref 0), (1, .int x1), (2, .int x2)]) ([.int 0]) (stt σ τ) 0 0
    refine R_if ck_75_14 (fun c => absurd c (show ¬ ¬ (0 : Int32) = 0 from by decide)) (fun _ => ?_)
    refine R_seg sg_75_17 sk_75_17 (pc' := 18) (lv' := [(0, .ref 0), (1, .int x1), (2, .int x2)]) (st' := [.int (-1)]) (S' := stt σ τ) (kc' := 0) (ks' := 0) rfl ⟨trivial, trivial⟩ ?_
    refine R_iret ck_75_18 rfl rfl ?_
    exact hf n_k
set_option maxRecDepth 20000 in
theorem x_10 {d : Nat} {σ : Nat → Nat → Int32} {τ : Nat → Nat → Int64} {k : Nat} {x : Int32} (hk : kd0[k]? = some (2, 9)) {Post : Option Value → Sto → Prop} (h1 : σ k 5 = 0 → ¬ σ k 7 ≤ x → Post (some (.int 1)) (stt σ τ)) (h0 : ¬ (σ k 5 = 0 ∧ ¬ σ k 7 ≤ x) → Post (some (.int 0)) (stt σ τ)) : Ex (d + 1) 10 [.ref k, .int x] (stt σ τ) 0 0 Post := by
  refine en_10 (Nat.le_of_ble_eq_true rfl) ?_
  show RU_10 d (0, 0) Post 0 ([(0, .ref k), (1, .int x)]) ([]) (stt σ τ) 0 0
  refine R_seg sg_10_0 sk_10_0 (pc' := 4) (lv' := [(0, .ref k), (1, .int x)]) (st' := [.int (σ k 5)]) (S' := stt σ τ) (kc' := 0) (ks' := 0) rfl ⟨trivial, hk, trivial⟩ ?_
  refine R_if ck_10_4 (fun (c_4 : ¬ (σ k 5) = 0) => ?_) (fun (c_4 : ¬ ¬ (σ k 5) = 0) => ?_)
  · refine R_seg sg_10_19 sk_10_19 (pc' := 20) (lv' := [(0, .ref k), (1, .int x)]) (st' := [.int 0]) (S' := stt σ τ) (kc' := 0) (ks' := 0) rfl ⟨trivial, trivial⟩ ?_
    refine R_iret ck_10_20 rfl rfl ?_
    first | exact h0 (fun q => c_4 q.1) | exact h0 (fun q => absurd c_12 q.2)
  · refine R_seg sg_10_7 sk_10_7 (pc' := 12) (lv' := [(0, .ref k), (1, .int x)]) (st' := [.int (σ k 7), .int x]) (S' := stt σ τ) (kc' := 0) (ks' := 0) rfl ⟨trivial, trivial, hk, trivial⟩ ?_
    refine R_icmp ck_10_12 (fun (c_12 : (σ k 7) ≤ x) => ?_) (fun (c_12 : ¬ (σ k 7) ≤ x) => ?_)
    · refine R_seg sg_10_19 sk_10_19 (pc' := 20) (lv' := [(0, .ref k), (1, .int x)]) (st' := [.int 0]) (S' := stt σ τ) (kc' := 0) (ks' := 0) rfl ⟨trivial, trivial⟩ ?_
      refine R_iret ck_10_20 rfl rfl ?_
      first | exact h0 (fun q => c_4 q.1) | exact h0 (fun q => absurd c_12 q.2)
    · refine R_seg sg_10_15 sk_10_15 (pc' := 16) (lv' := [(0, .ref k), (1, .int x)]) (st' := [.int 1]) (S' := stt σ τ) (kc' := 0) (ks' := 0) rfl ⟨trivial, trivial⟩ ?_
      refine R_goto ck_10_16 ?_
      refine R_iret ck_10_20 rfl rfl ?_
      exact h1 (Classical.not_not.mp (by assumption)) (by assumption)
set_option maxRecDepth 20000 in
theorem x_76 {d : Nat} {σ : Nat → Nat → Int32} {τ : Nat → Nat → Int64} {x1 x2 : Int32} {Post : Option Value → Sto → Prop} (hf : ¬ rg x1 0 4 → Post (some (.int (-1))) (stt σ τ)) (h0 : ∀ h : Nat, h < 5 → x1 = nI h → x2 = 0 → ¬ σ (11 + h) 5 = 0 → Post (some (.int 0)) (stt σ τ)) (h01 : ∀ h : Nat, h < 5 → x1 = nI h → x2 = 0 → σ (11 + h) 5 = 0 → ¬ σ (11 + h) 7 ≤ σ 1 4 → Post (some (.int 1)) (stt σ τ)) (h02 : ∀ h : Nat, h < 5 → x1 = nI h → x2 = 0 → σ (11 + h) 5 = 0 → ¬ ¬ σ (11 + h) 7 ≤ σ 1 4 → Post (some (.int 2)) (stt σ τ)) (h1 : ∀ h : Nat, h < 5 → x1 = nI h → x2 = 1 → Post (some (.int (σ (11 + h) 6))) (stt σ τ)) (h2 : ∀ h : Nat, h < 5 → x1 = nI h → x2 = 2 → σ (11 + h) 5 = 0 → Post (some (.int (σ (11 + h) 7))) (stt σ τ)) (h2n : ∀ h : Nat, h < 5 → x1 = nI h → x2 = 2 → ¬ σ (11 + h) 5 = 0 → Post (some (.int (-1))) (stt σ τ)) (hd : (x2.toInt < 0 ∨ 2 < x2.toInt) → Post (some (.int (-1))) (stt σ τ)) : Ex (d + 2) 76 [.ref 0, .int x1, .int x2] (stt σ τ) 0 0 Post := by
  refine en_76 (Nat.le_of_ble_eq_true rfl) ?_
  show RU_76 (d + 1) (0, 0) Post 0 ([(0, .ref 0), (1, .int x1), (2, .int x2)]) ([]) (stt σ τ) 0 0
  refine R_seg sg_76_0 sk_76_0 (pc' := 3) (lv' := [(0, .ref 0), (1, .int x1), (2, .int x2)]) (st' := [.int 4, .int 0, .int x1]) (S' := stt σ τ) (kc' := 0) (ks' := 0) rfl ⟨trivial, trivial, trivial, trivial⟩ ?_
  refine R_stat ck_76_3 (by decide) [.int x1, .int 0, .int 4] 0 0 (r := []) rfl rfl (Nat.le_of_ble_eq_true rfl) (Nat.le_refl _) (Nat.le_refl _) ?_
  refine xn_57 (d := d) 0 4 (by omega) (by omega) (fun h l_h u_h e_h => ?_) (fun n_h => ?_)
  · subst e_h
    show RU_76 (d + 1) (0, 0) Post 6 ([(0, .ref 0), (1, .int (nI h)), (2, .int x2)]) ([.int 1]) (stt σ τ) 0 0
    refine R_if ck_76_6 (fun _ => ?_) (fun c => absurd (show ¬ (1 : Int32) = 0 from by decide) c)
    refine R_seg sg_76_11 sk_76_11 (pc' := 19) (lv' := [(0, .ref 0), (1, .int (nI h)), (2, .int x2)]) (st' := [.int (nI h), .ref 7]) (S' := stt σ τ) (kc' := 0) (ks' := 0) rfl ⟨trivial, rfl, rfl, trivial, trivial⟩ ?_
    refine R_aald ca_76_19 (j := h) (k' := 11 + h) rfl rfl (by omega) (rh_each (by omega)) ?_
    refine R_seg sg_76_20 sk_76_20 (pc' := 22) (lv' := [(3, .ref (11 + h)), (0, .ref 0), (1, .int (nI h)), (2, .int x2)]) (st' := [.int x2]) (S' := stt σ τ) (kc' := 0) (ks' := 0) rfl ⟨(by decide), trivial, trivial⟩ ?_
    by_cases w_0 : x2 = 0
    · rw [w_0]
      refine R_tsw ck_76_22 48 rfl ?_
      refine R_seg sg_76_48 sk_76_48 (pc' := 52) (lv' := [(3, .ref (11 + h)), (0, .ref 0), (1, .int (nI h)), (2, .int 0)]) (st' := [.int (σ (11 + h) 5)]) (S' := stt σ τ) (kc' := 0) (ks' := 0) rfl ⟨trivial, (kd_help (by omega)), trivial⟩ ?_
      refine R_if ck_76_52 (fun (c_52 : (σ (11 + h) 5) = 0) => ?_) (fun (c_52 : ¬ (σ (11 + h) 5) = 0) => ?_)
      · refine R_seg sg_76_57 sk_76_57 (pc' := 65) (lv' := [(3, .ref (11 + h)), (0, .ref 0), (1, .int (nI h)), (2, .int 0)]) (st' := [.int (σ 1 4), .ref (11 + h)]) (S' := stt σ τ) (kc' := 0) (ks' := 0) rfl ⟨trivial, trivial, rfl, rfl, trivial⟩ ?_
        refine R_virt ck_76_65 (11 + h) [.int (σ 1 4)] 0 0 (r := []) rfl rfl (kd_help (by omega)) (Nat.le_of_ble_eq_true rfl) (Nat.le_refl _) (Nat.le_refl _) ?_
        refine x_10 (d := d) (kd_help (by omega)) (fun o_1 o_2 => ?_) (fun o_n => ?_)
        · show RU_76 (d + 1) (0, 0) Post 68 ([(3, .ref (11 + h)), (0, .ref 0), (1, .int (nI h)), (2, .int 0)]) ([.int 1]) (stt σ τ) 0 0
          refine R_if ck_76_68 (fun c => absurd c (show ¬ (1 : Int32) = 0 from by decide)) (fun _ => ?_)
          refine R_seg sg_76_71 sk_76_71 (pc' := 72) (lv' := [(3, .ref (11 + h)), (0, .ref 0), (1, .int (nI h)), (2, .int 0)]) (st' := [.int 1]) (S' := stt σ τ) (kc' := 0) (ks' := 0) rfl ⟨trivial, trivial⟩ ?_
          refine R_goto ck_76_72 ?_
          refine R_iret ck_76_76 rfl rfl ?_
          exact h01 h (by omega) rfl w_0 o_1 o_2
        · show RU_76 (d + 1) (0, 0) Post 68 ([(3, .ref (11 + h)), (0, .ref 0), (1, .int (nI h)), (2, .int 0)]) ([.int 0]) (stt σ τ) 0 0
          refine R_if ck_76_68 (fun _ => ?_) (fun c => absurd (show (0 : Int32) = 0 from by decide) c)
          refine R_seg sg_76_75 sk_76_75 (pc' := 76) (lv' := [(3, .ref (11 + h)), (0, .ref 0), (1, .int (nI h)), (2, .int 0)]) (st' := [.int 2]) (S' := stt σ τ) (kc' := 0) (ks' := 0) rfl ⟨trivial, trivial⟩ ?_
          refine R_iret ck_76_76 rfl rfl ?_
          exact h02 h (by omega) rfl w_0 (by assumption) (fun q => o_n ⟨by assumption, q⟩)
      · refine R_seg sg_76_55 sk_76_55 (pc' := 56) (lv' := [(3, .ref (11 + h)), (0, .ref 0), (1, .int (nI h)), (2, .int 0)]) (st' := [.int 0]) (S' := stt σ τ) (kc' := 0) (ks' := 0) rfl ⟨trivial, trivial⟩ ?_
        refine R_iret ck_76_56 rfl rfl ?_
        exact h0 h (by omega) rfl w_0 (by assumption)
    by_cases w_1 : x2 = 1
    · rw [w_1]
      refine R_tsw ck_76_22 77 rfl ?_
      refine R_seg sg_76_77 sk_76_77 (pc' := 81) (lv' := [(3, .ref (11 + h)), (0, .ref 0), (1, .int (nI h)), (2, .int 1)]) (st' := [.int (σ (11 + h) 6)]) (S' := stt σ τ) (kc' := 0) (ks' := 0) rfl ⟨trivial, (kd_help (by omega)), trivial⟩ ?_
      refine R_iret ck_76_81 rfl rfl ?_
      exact h1 h (by omega) rfl w_1
    by_cases w_2 : x2 = 2
    · rw [w_2]
      refine R_tsw ck_76_22 82 rfl ?_
      refine R_seg sg_76_82 sk_76_82 (pc' := 86) (lv' := [(3, .ref (11 + h)), (0, .ref 0), (1, .int (nI h)), (2, .int 2)]) (st' := [.int (σ (11 + h) 5)]) (S' := stt σ τ) (kc' := 0) (ks' := 0) rfl ⟨trivial, (kd_help (by omega)), trivial⟩ ?_
      refine R_if ck_76_86 (fun (c_86 : (σ (11 + h) 5) = 0) => ?_) (fun (c_86 : ¬ (σ (11 + h) 5) = 0) => ?_)
      · refine R_seg sg_76_93 sk_76_93 (pc' := 97) (lv' := [(3, .ref (11 + h)), (0, .ref 0), (1, .int (nI h)), (2, .int 2)]) (st' := [.int (σ (11 + h) 7)]) (S' := stt σ τ) (kc' := 0) (ks' := 0) rfl ⟨trivial, (kd_help (by omega)), trivial⟩ ?_
        refine R_iret ck_76_97 rfl rfl ?_
        exact h2 h (by omega) rfl w_2 (by assumption)
      · refine R_seg sg_76_89 sk_76_89 (pc' := 90) (lv' := [(3, .ref (11 + h)), (0, .ref 0), (1, .int (nI h)), (2, .int 2)]) (st' := [.int (-1)]) (S' := stt σ τ) (kc' := 0) (ks' := 0) rfl ⟨trivial, trivial⟩ ?_
        refine R_goto ck_76_90 ?_
        refine R_iret ck_76_97 rfl rfl ?_
        exact h2n h (by omega) rfl w_2 (by assumption)
    have w_o : x2.toInt < 0 ∨ 2 < x2.toInt := sw_out (n := 2) (by decide) (fun j hj => by rcases (show j = 0 ∨ j = 1 ∨ j = 2 by omega) with rfl | rfl | rfl <;> assumption)
    refine R_tsw ck_76_22 98 (by simp only [swT]; rw [if_pos w_o]; rfl) ?_
    refine R_seg sg_76_98 sk_76_98 (pc' := 99) (lv' := [(3, .ref (11 + h)), (0, .ref 0), (1, .int (nI h)), (2, .int x2)]) (st' := [.int (-1)]) (S' := stt σ τ) (kc' := 0) (ks' := 0) rfl ⟨trivial, trivial⟩ ?_
    refine R_iret ck_76_99 rfl rfl ?_
    exact hd w_o
  · show RU_76 (d + 1) (0, 0) Post 6 ([(0, .ref 0), (1, .int x1), (2, .int x2)]) ([.int 0]) (stt σ τ) 0 0
    refine R_if ck_76_6 (fun c => absurd c (show ¬ ¬ (0 : Int32) = 0 from by decide)) (fun _ => ?_)
    refine R_seg sg_76_9 sk_76_9 (pc' := 10) (lv' := [(0, .ref 0), (1, .int x1), (2, .int x2)]) (st' := [.int (-1)]) (S' := stt σ τ) (kc' := 0) (ks' := 0) rfl ⟨trivial, trivial⟩ ?_
    refine R_iret ck_76_10 rfl rfl ?_
    exact hf n_h
set_option maxRecDepth 20000 in
theorem x_77 {d : Nat} {σ : Nat → Nat → Int32} {τ : Nat → Nat → Int64} {x1 x2 : Int32} {Post : Option Value → Sto → Prop} (hf : ¬ (rg x1 0 5 ∧ rg x2 0 31) → Post (some (.int (-1))) (stt σ τ)) (h1 : ∀ t k : Nat, t < 6 → k < 32 → x1 = nI t → x2 = nI k → ¬ σ 25 (t * 32 + k) ≤ σ 1 4 → Post (some (.int (σ 25 (t * 32 + k)))) (stt σ τ)) (h0 : ∀ t k : Nat, t < 6 → k < 32 → x1 = nI t → x2 = nI k → σ 25 (t * 32 + k) ≤ σ 1 4 → Post (some (.int (-1))) (stt σ τ)) : Ex (d + 3) 77 [.ref 0, .int x1, .int x2] (stt σ τ) 0 0 Post := by
  refine en_77 (Nat.le_of_ble_eq_true rfl) ?_
  show RU_77 (d + 2) (0, 0) Post 0 ([(0, .ref 0), (1, .int x1), (2, .int x2)]) ([]) (stt σ τ) 0 0
  refine R_seg sg_77_0 sk_77_0 (pc' := 2) (lv' := [(0, .ref 0), (1, .int x1), (2, .int x2)]) (st' := [.int x2, .int x1]) (S' := stt σ τ) (kc' := 0) (ks' := 0) rfl ⟨trivial, trivial, trivial⟩ ?_
  refine R_stat ck_77_2 (by decide) [.int x1, .int x2] 0 0 (r := []) rfl rfl (Nat.le_of_ble_eq_true rfl) (Nat.le_refl _) (Nat.le_refl _) ?_
  refine x_62 (d := d) (fun t k b_t b_k e_t e_k => ?_) (fun n_tk => ?_)
  · subst e_t; subst e_k
    show RU_77 (d + 2) (0, 0) Post 5 ([(0, .ref 0), (1, .int (nI t)), (2, .int (nI k))]) ([.int 1]) (stt σ τ) 0 0
    refine R_if ck_77_5 (fun _ => ?_) (fun c => absurd (show ¬ (1 : Int32) = 0 from by decide) c)
    refine R_seg sg_77_10 sk_77_10 (pc' := 25) (lv' := [(3, .int (((nI t) * 32) + (nI k))), (0, .ref 0), (1, .int (nI t)), (2, .int (nI k))]) (st' := [.int (((nI t) * 32) + (nI k)), .ref 25]) (S' := stt σ τ) (kc' := 0) (ks' := 0) rfl ⟨trivial, trivial, trivial, trivial, trivial, (by decide), trivial, rfl, rfl, trivial, trivial⟩ ?_
    refine R_iald ca_77_25 (j := (t * 32) + k) rfl (by simp only [nl_0, nl_1, nl_2, nl_3, nl_4, nl_5, nl_6, nl_8, nl_20, nl_31, nl_32, pk_mul, nI_add]) (by omega) ?_
    refine R_seg sg_77_26 sk_77_26 (pc' := 33) (lv' := [(3, .int (((nI t) * 32) + (nI k))), (0, .ref 0), (1, .int (nI t)), (2, .int (nI k))]) (st' := [.int (σ 1 4), .int (σ 25 ((t * 32) + k))]) (S' := stt σ τ) (kc' := 0) (ks' := 0) rfl ⟨trivial, rfl, rfl, trivial⟩ ?_
    refine R_icmp ck_77_33 (fun (c_33 : (σ 25 ((t * 32) + k)) ≤ (σ 1 4)) => ?_) (fun (c_33 : ¬ (σ 25 ((t * 32) + k)) ≤ (σ 1 4)) => ?_)
    · refine R_seg sg_77_48 sk_77_48 (pc' := 49) (lv' := [(3, .int (((nI t) * 32) + (nI k))), (0, .ref 0), (1, .int (nI t)), (2, .int (nI k))]) (st' := [.int (-1)]) (S' := stt σ τ) (kc' := 0) (ks' := 0) rfl ⟨trivial, trivial⟩ ?_
      refine R_iret ck_77_49 rfl rfl ?_
      exact h0 t k (by omega) (by omega) rfl rfl (by assumption)
    · refine R_seg sg_77_36 sk_77_36 (pc' := 44) (lv' := [(3, .int (((nI t) * 32) + (nI k))), (0, .ref 0), (1, .int (nI t)), (2, .int (nI k))]) (st' := [.int (((nI t) * 32) + (nI k)), .ref 25]) (S' := stt σ τ) (kc' := 0) (ks' := 0) rfl ⟨trivial, rfl, rfl, trivial, trivial⟩ ?_
      refine R_iald ca_77_44 (j := (t * 32) + k) rfl (by simp only [nl_0, nl_1, nl_2, nl_3, nl_4, nl_5, nl_6, nl_8, nl_20, nl_31, nl_32, pk_mul, nI_add]) (by omega) ?_
      refine R_goto ck_77_45 ?_
      refine R_iret ck_77_49 rfl rfl ?_
      exact h1 t k (by omega) (by omega) rfl rfl (by assumption)
  · show RU_77 (d + 2) (0, 0) Post 5 ([(0, .ref 0), (1, .int x1), (2, .int x2)]) ([.int 0]) (stt σ τ) 0 0
    refine R_if ck_77_5 (fun c => absurd c (show ¬ ¬ (0 : Int32) = 0 from by decide)) (fun _ => ?_)
    refine R_seg sg_77_8 sk_77_8 (pc' := 9) (lv' := [(0, .ref 0), (1, .int x1), (2, .int x2)]) (st' := [.int (-1)]) (S' := stt σ τ) (kc' := 0) (ks' := 0) rfl ⟨trivial, trivial⟩ ?_
    refine R_iret ck_77_9 rfl rfl ?_
    exact hf n_tk
set_option maxRecDepth 20000 in
theorem l_37 {d : Nat} {σ : Nat → Nat → Int32} {τ : Nat → Nat → Int64} {Post : Option Value → Sto → Prop} (hp : Post (some (.int (nI (cntP (fun j => rg (σ 51 j) 1 5) 192)))) (stt σ τ)) : ∀ (n : Nat) (i : Nat), i ≤ 192 → 192 - i < n → RU_37 (d + 1) (0, 0) Post 4 [(2, .int (nI i)), (1, .int (nI (cntP (fun j => rg (σ 51 j) 1 5) i))), (0, .ref 50)] [] (stt σ τ) 0 0 := by
  intro n
  induction n with
  | zero => intro i h1 h2; exact absurd h2 (by omega)
  | succ n ih =>
    intro i h1 h2
    have hcl := cntP_le (fun j => rg (σ 51 j) 1 5) i
    refine R_seg sg_37_4 sk_37_4 (pc' := 8) (lv' := [(2, .int (nI i)), (1, .int (nI (cntP (fun j => rg (σ 51 j) 1 5) i))), (0, .ref 50)]) (st' := [.int 192, .int (nI i)]) (S' := stt σ τ) (kc' := 0) (ks' := 0) rfl ⟨trivial, trivial, trivial⟩ ?_
    refine R_icmp ck_37_8 (fun (c_8 : 192 ≤ (nI i)) => ?_) (fun (c_8 : ¬ 192 ≤ (nI i)) => ?_)
    · have c_8 : 192 ≤ i := (nI_leI (a := 192) (b := i) (by omega) (by omega)).mp c_8
      refine R_seg sg_37_34 sk_37_34 (pc' := 35) (lv' := [(2, .int (nI i)), (1, .int (nI (cntP (fun j => rg (σ 51 j) 1 5) i))), (0, .ref 50)]) (st' := [.int (nI (cntP (fun j => rg (σ 51 j) 1 5) i))]) (S' := stt σ τ) (kc' := 0) (ks' := 0) rfl ⟨trivial, trivial⟩ ?_
      refine R_iret ck_37_35 rfl rfl ?_
      have e : i = 192 := by omega
      subst e
      exact hp
    · have c_8 : i < 192 := Nat.not_le.mp (fun q => c_8 ((nI_leI (a := 192) (b := i) (by omega) (by omega)).mpr q))
      refine R_seg sg_37_11 sk_37_11 (pc' := 16) (lv' := [(2, .int (nI i)), (1, .int (nI (cntP (fun j => rg (σ 51 j) 1 5) i))), (0, .ref 50)]) (st' := [.int (nI i), .ref 51]) (S' := stt σ τ) (kc' := 0) (ks' := 0) rfl ⟨trivial, rfl, trivial, trivial⟩ ?_
      refine R_iald ca_37_16 (j := i) rfl rfl (by omega) ?_
      refine R_seg sg_37_17 sk_37_17 (pc' := 19) (lv' := [(2, .int (nI i)), (1, .int (nI (cntP (fun j => rg (σ 51 j) 1 5) i))), (0, .ref 50)]) (st' := [.int 5, .int 1, .int (σ 51 i)]) (S' := stt σ τ) (kc' := 0) (ks' := 0) rfl ⟨trivial, trivial, trivial⟩ ?_
      refine R_stat ck_37_19 (by decide) [.int (σ 51 i), .int 1, .int 5] 0 0 (r := []) rfl rfl (Nat.le_of_ble_eq_true rfl) (Nat.le_refl _) (Nat.le_refl _) ?_
      refine xn_57 (d := d) 1 5 (by decide) (by decide) (fun j l_j u_j e_j => ?_) (fun n_j => ?_)
      · show RU_37 (d + 1) (0, 0) Post 22 ([(2, .int (nI i)), (1, .int (nI (cntP (fun j => rg (σ 51 j) 1 5) i))), (0, .ref 50)]) ([.int 1]) (stt σ τ) 0 0
        refine R_if ck_37_22 (fun c => absurd c (show ¬ (1 : Int32) = 0 from by decide)) (fun _ => ?_)
        refine R_seg sg_37_25 sk_37_25 (pc' := 28) (lv' := [(1, .int ((nI (cntP (fun j => rg (σ 51 j) 1 5) i)) + 1)), (2, .int (nI i)), (0, .ref 50)]) (st' := []) (S' := stt σ τ) (kc' := 0) (ks' := 0) rfl ⟨(by decide), trivial⟩ ?_
        refine R_seg sg_37_28 sk_37_28 (pc' := 31) (lv' := [(2, .int ((nI i) + 1)), (1, .int ((nI (cntP (fun j => rg (σ 51 j) 1 5) i)) + 1)), (0, .ref 50)]) (st' := []) (S' := stt σ τ) (kc' := 0) (ks' := 0) rfl ⟨(by decide), trivial⟩ ?_
        refine R_goto ck_37_31 ?_
        have e : cntP (fun j => rg (σ 51 j) 1 5) (i + 1) = cntP (fun j => rg (σ 51 j) 1 5) i + 1 := cntP_t ⟨j, l_j, u_j, e_j⟩
        rw [nI_1, nI_1, ← e]
        exact ih (i + 1) (by omega) (by omega)
      · show RU_37 (d + 1) (0, 0) Post 22 ([(2, .int (nI i)), (1, .int (nI (cntP (fun j => rg (σ 51 j) 1 5) i))), (0, .ref 50)]) ([.int 0]) (stt σ τ) 0 0
        refine R_if ck_37_22 (fun _ => ?_) (fun c => absurd (show (0 : Int32) = 0 from by decide) c)
        refine R_seg sg_37_28 sk_37_28 (pc' := 31) (lv' := [(2, .int ((nI i) + 1)), (1, .int (nI (cntP (fun j => rg (σ 51 j) 1 5) i))), (0, .ref 50)]) (st' := []) (S' := stt σ τ) (kc' := 0) (ks' := 0) rfl ⟨(by decide), trivial⟩ ?_
        refine R_goto ck_37_31 ?_
        have e : cntP (fun j => rg (σ 51 j) 1 5) (i + 1) = cntP (fun j => rg (σ 51 j) 1 5) i := cntP_f n_j
        rw [nI_1, ← e]
        exact ih (i + 1) (by omega) (by omega)
set_option maxRecDepth 20000 in
theorem x_37 {d : Nat} {σ : Nat → Nat → Int32} {τ : Nat → Nat → Int64} {Post : Option Value → Sto → Prop} (hp : Post (some (.int (nI (cntP (fun j => rg (σ 51 j) 1 5) 192)))) (stt σ τ)) : Ex (d + 2) 37 [.ref 50] (stt σ τ) 0 0 Post := by
  refine en_37 (Nat.le_of_ble_eq_true rfl) ?_
  show RU_37 (d + 1) (0, 0) Post 0 ([(0, .ref 50)]) ([]) (stt σ τ) 0 0
  refine R_seg sg_37_0 sk_37_0 (pc' := 4) (lv' := [(2, .int 0), (1, .int 0), (0, .ref 50)]) (st' := []) (S' := stt σ τ) (kc' := 0) (ks' := 0) rfl ⟨trivial, (by decide), trivial, (by decide), trivial⟩ ?_
  exact l_37 hp 193 0 (by omega) (by omega)
set_option maxRecDepth 20000 in
theorem x_78 {d : Nat} {σ : Nat → Nat → Int32} {τ : Nat → Nat → Int64} {x1 : Int32} {Post : Option Value → Sto → Prop} (h0 : x1 = 0 → Post (some (.int (σ 1 4))) (stt σ τ)) (h1 : x1 = 1 → Post (some (.int (σ 30 1))) (stt σ τ)) (h2 : x1 = 2 → Post (some (.int (σ 42 5))) (stt σ τ)) (h3 : x1 = 3 → Post (some (.int (σ 55 1))) (stt σ τ)) (h4 : x1 = 4 → Post (some (.int (σ 50 1))) (stt σ τ)) (h5 : x1 = 5 → Post (some (.int (nI (cntP (fun j => rg (σ 51 j) 1 5) 192)))) (stt σ τ)) (h6 : x1 = 6 → Post (some (.int (σ 6 1))) (stt σ τ)) (ha : ∀ a : Nat, 10 ≤ a → a ≤ 13 → x1 = nI a → Post (some (.int (σ 5 (a - 10)))) (stt σ τ)) (hd : ¬ rg x1 10 13 → (x1.toInt < 0 ∨ 6 < x1.toInt) → Post (some (.int (-1))) (stt σ τ)) : Ex (d + 3) 78 [.ref 0, .int x1] (stt σ τ) 0 0 Post := by
  refine en_78 (Nat.le_of_ble_eq_true rfl) ?_
  show RU_78 (d + 2) (0, 0) Post 0 ([(0, .ref 0), (1, .int x1)]) ([]) (stt σ τ) 0 0
  refine R_seg sg_78_0 sk_78_0 (pc' := 1) (lv' := [(0, .ref 0), (1, .int x1)]) (st' := [.int x1]) (S' := stt σ τ) (kc' := 0) (ks' := 0) rfl ⟨trivial, trivial⟩ ?_
  by_cases w_0 : x1 = 0
  · rw [w_0]
    refine R_tsw ck_78_1 44 rfl ?_
    refine R_seg sg_78_44 sk_78_44 (pc' := 51) (lv' := [(0, .ref 0), (1, .int 0)]) (st' := [.int (σ 1 4)]) (S' := stt σ τ) (kc' := 0) (ks' := 0) rfl ⟨trivial, rfl, rfl, trivial⟩ ?_
    refine R_iret ck_78_51 rfl rfl ?_
    exact h0 w_0
  by_cases w_1 : x1 = 1
  · rw [w_1]
    refine R_tsw ck_78_1 52 rfl ?_
    refine R_seg sg_78_52 sk_78_52 (pc' := 59) (lv' := [(0, .ref 0), (1, .int 1)]) (st' := [.int (σ 30 1)]) (S' := stt σ τ) (kc' := 0) (ks' := 0) rfl ⟨trivial, rfl, rfl, trivial⟩ ?_
    refine R_iret ck_78_59 rfl rfl ?_
    exact h1 w_1
  by_cases w_2 : x1 = 2
  · rw [w_2]
    refine R_tsw ck_78_1 60 rfl ?_
    refine R_seg sg_78_60 sk_78_60 (pc' := 67) (lv' := [(0, .ref 0), (1, .int 2)]) (st' := [.int (σ 42 5)]) (S' := stt σ τ) (kc' := 0) (ks' := 0) rfl ⟨trivial, rfl, rfl, trivial⟩ ?_
    refine R_iret ck_78_67 rfl rfl ?_
    exact h2 w_2
  by_cases w_3 : x1 = 3
  · rw [w_3]
    refine R_tsw ck_78_1 68 rfl ?_
    refine R_seg sg_78_68 sk_78_68 (pc' := 75) (lv' := [(0, .ref 0), (1, .int 3)]) (st' := [.int (σ 55 1)]) (S' := stt σ τ) (kc' := 0) (ks' := 0) rfl ⟨trivial, rfl, rfl, trivial⟩ ?_
    refine R_iret ck_78_75 rfl rfl ?_
    exact h3 w_3
  by_cases w_4 : x1 = 4
  · rw [w_4]
    refine R_tsw ck_78_1 76 rfl ?_
    refine R_seg sg_78_76 sk_78_76 (pc' := 83) (lv' := [(0, .ref 0), (1, .int 4)]) (st' := [.int (σ 50 1)]) (S' := stt σ τ) (kc' := 0) (ks' := 0) rfl ⟨trivial, rfl, rfl, trivial⟩ ?_
    refine R_iret ck_78_83 rfl rfl ?_
    exact h4 w_4
  by_cases w_5 : x1 = 5
  · rw [w_5]
    refine R_tsw ck_78_1 84 rfl ?_
    refine R_seg sg_78_84 sk_78_84 (pc' := 88) (lv' := [(0, .ref 0), (1, .int 5)]) (st' := [.ref 50]) (S' := stt σ τ) (kc' := 0) (ks' := 0) rfl ⟨trivial, rfl, trivial⟩ ?_
    refine R_virt ck_78_88 50 [] 0 0 (r := []) rfl rfl rfl (Nat.le_of_ble_eq_true rfl) (Nat.le_refl _) (Nat.le_refl _) ?_
    refine x_37 (d := d) ?_
    show RU_78 (d + 2) (0, 0) Post 91 ([(0, .ref 0), (1, .int 5)]) ([.int (nI (cntP (fun j => rg (σ 51 j) 1 5) 192))]) (stt σ τ) 0 0
    refine R_iret ck_78_91 rfl rfl ?_
    exact h5 w_5
  by_cases w_6 : x1 = 6
  · rw [w_6]
    refine R_tsw ck_78_1 92 rfl ?_
    refine R_seg sg_78_92 sk_78_92 (pc' := 99) (lv' := [(0, .ref 0), (1, .int 6)]) (st' := [.int (σ 6 1)]) (S' := stt σ τ) (kc' := 0) (ks' := 0) rfl ⟨trivial, rfl, rfl, trivial⟩ ?_
    refine R_iret ck_78_99 rfl rfl ?_
    exact h6 w_6
  have w_o : x1.toInt < 0 ∨ 6 < x1.toInt := sw_out (n := 6) (by decide) (fun j hj => by rcases (show j = 0 ∨ j = 1 ∨ j = 2 ∨ j = 3 ∨ j = 4 ∨ j = 5 ∨ j = 6 by omega) with rfl | rfl | rfl | rfl | rfl | rfl | rfl <;> assumption)
  refine R_tsw ck_78_1 100 (by simp only [swT]; rw [if_pos w_o]; rfl) ?_
  refine R_seg sg_78_100 sk_78_100 (pc' := 105) (lv' := [(0, .ref 0), (1, .int x1)]) (st' := [.int 13, .int 10, .int x1]) (S' := stt σ τ) (kc' := 0) (ks' := 0) rfl ⟨trivial, trivial, trivial, trivial⟩ ?_
  refine R_stat ck_78_105 (by decide) [.int x1, .int 10, .int 13] 0 0 (r := []) rfl rfl (Nat.le_of_ble_eq_true rfl) (Nat.le_refl _) (Nat.le_refl _) ?_
  refine xn_57 (d := d + 1) 10 13 (by omega) (by omega) (fun a l_a u_a e_a => ?_) (fun n_a => ?_)
  · subst e_a
    show RU_78 (d + 2) (0, 0) Post 108 ([(0, .ref 0), (1, .int (nI a))]) ([.int 1]) (stt σ τ) 0 0
    refine R_if ck_78_108 (fun c => absurd c (show ¬ (1 : Int32) = 0 from by decide)) (fun _ => ?_)
    refine R_seg sg_78_111 sk_78_111 (pc' := 122) (lv' := [(0, .ref 0), (1, .int (nI a))]) (st' := [.int ((nI a) - 10), .ref 5]) (S' := stt σ τ) (kc' := 0) (ks' := 0) rfl ⟨trivial, rfl, rfl, trivial, trivial, trivial, trivial⟩ ?_
    refine R_iald ca_78_122 (j := a - 10) rfl (by rw [nk_10, pk_sub (by omega)]) (by omega) ?_
    refine R_goto ck_78_123 ?_
    refine R_iret ck_78_127 rfl rfl ?_
    exact ha a (by omega) (by omega) rfl
  · show RU_78 (d + 2) (0, 0) Post 108 ([(0, .ref 0), (1, .int x1)]) ([.int 0]) (stt σ τ) 0 0
    refine R_if ck_78_108 (fun _ => ?_) (fun c => absurd (show (0 : Int32) = 0 from by decide) c)
    refine R_seg sg_78_126 sk_78_126 (pc' := 127) (lv' := [(0, .ref 0), (1, .int x1)]) (st' := [.int (-1)]) (S' := stt σ τ) (kc' := 0) (ks' := 0) rfl ⟨trivial, trivial⟩ ?_
    refine R_iret ck_78_127 rfl rfl ?_
    exact hd (fun q => n_a q) w_o
end
