section
-- ===== PART A: goes FIRST, ahead of the names: the tables' words, and 'selects' of the private methods out of them =====
/-- a private method of a class that the tables say can be made, by its rows of tables_1 -/
def lw_okq (q : MethodName × Nat) : Prop := (q.1.cls ≠ "java/lang/invoke/MethodHandle" ∧ q.1.cls ≠ "java/lang/invoke/VarHandle") ∧ Cond.instantiable q.1.cls q.2 ∈ tables_1 ∧ Cond.privateMethod q.1 ∈ tables_1 ∧ Cond.instanceMethod q.1 ∈ tables_1
theorem lw_p0 : lw_okq (⟨"AnswerDoor$Reader", "take", "(II)I"⟩, 8) := ⟨⟨by decide +kernel, by decide +kernel⟩, List.mem_of_getElem? (i := 263) (by decide +kernel), List.mem_of_getElem? (i := 535) (by decide +kernel), List.mem_of_getElem? (i := 536) (by decide +kernel)⟩
theorem lw_p1 : lw_okq (⟨"AnswerDoor$Reader", "openNode", "(I)I"⟩, 8) := ⟨⟨by decide +kernel, by decide +kernel⟩, List.mem_of_getElem? (i := 263) (by decide +kernel), List.mem_of_getElem? (i := 539) (by decide +kernel), List.mem_of_getElem? (i := 540) (by decide +kernel)⟩
theorem lw_p2 : lw_okq (⟨"AnswerDoor$Reader", "closeNode", "(I)I"⟩, 8) := ⟨⟨by decide +kernel, by decide +kernel⟩, List.mem_of_getElem? (i := 263) (by decide +kernel), List.mem_of_getElem? (i := 543) (by decide +kernel), List.mem_of_getElem? (i := 544) (by decide +kernel)⟩
theorem lw_p3 : lw_okq (⟨"AnswerDoor$Reader", "addField", "(II)I"⟩, 8) := ⟨⟨by decide +kernel, by decide +kernel⟩, List.mem_of_getElem? (i := 263) (by decide +kernel), List.mem_of_getElem? (i := 548) (by decide +kernel), List.mem_of_getElem? (i := 549) (by decide +kernel)⟩
theorem lw_p4 : lw_okq (⟨"AnswerDoor$Tree", "priceOf", "(ILAnswerDoor$Store;)J"⟩, 8) := ⟨⟨by decide +kernel, by decide +kernel⟩, List.mem_of_getElem? (i := 216) (by decide +kernel), List.mem_of_getElem? (i := 556) (by decide +kernel), List.mem_of_getElem? (i := 557) (by decide +kernel)⟩
theorem lw_p5 : lw_okq (⟨"AnswerDoor$Round", "clear", "()V"⟩, 12) := ⟨⟨by decide +kernel, by decide +kernel⟩, List.mem_of_getElem? (i := 344) (by decide +kernel), List.mem_of_getElem? (i := 572) (by decide +kernel), List.mem_of_getElem? (i := 573) (by decide +kernel)⟩
theorem lw_p6 : lw_okq (⟨"AnswerDoor$Round", "need", "(III)V"⟩, 12) := ⟨⟨by decide +kernel, by decide +kernel⟩, List.mem_of_getElem? (i := 344) (by decide +kernel), List.mem_of_getElem? (i := 581) (by decide +kernel), List.mem_of_getElem? (i := 582) (by decide +kernel)⟩
theorem lw_p7 : lw_okq (⟨"AnswerDoor$Round", "meet", "(I)V"⟩, 12) := ⟨⟨by decide +kernel, by decide +kernel⟩, List.mem_of_getElem? (i := 344) (by decide +kernel), List.mem_of_getElem? (i := 585) (by decide +kernel), List.mem_of_getElem? (i := 586) (by decide +kernel)⟩
theorem lw_p8 : lw_okq (⟨"AnswerDoor$Round", "follow", "(III)V"⟩, 12) := ⟨⟨by decide +kernel, by decide +kernel⟩, List.mem_of_getElem? (i := 344) (by decide +kernel), List.mem_of_getElem? (i := 589) (by decide +kernel), List.mem_of_getElem? (i := 590) (by decide +kernel)⟩
theorem lw_p9 : lw_okq (⟨"AnswerDoor$Round", "makeCalls", "()V"⟩, 12) := ⟨⟨by decide +kernel, by decide +kernel⟩, List.mem_of_getElem? (i := 344) (by decide +kernel), List.mem_of_getElem? (i := 606) (by decide +kernel), List.mem_of_getElem? (i := 607) (by decide +kernel)⟩
theorem lw_p10 : lw_okq (⟨"AnswerDoor$Round", "turnTo", "(I)V"⟩, 12) := ⟨⟨by decide +kernel, by decide +kernel⟩, List.mem_of_getElem? (i := 344) (by decide +kernel), List.mem_of_getElem? (i := 610) (by decide +kernel), List.mem_of_getElem? (i := 611) (by decide +kernel)⟩
theorem lw_p11 : lw_okq (⟨"AnswerDoor$Round", "refuseAll", "(I)V"⟩, 12) := ⟨⟨by decide +kernel, by decide +kernel⟩, List.mem_of_getElem? (i := 344) (by decide +kernel), List.mem_of_getElem? (i := 618) (by decide +kernel), List.mem_of_getElem? (i := 619) (by decide +kernel)⟩
theorem lw_p12 : lw_okq (⟨"AnswerDoor$Round", "makeCall", "(II)V"⟩, 12) := ⟨⟨by decide +kernel, by decide +kernel⟩, List.mem_of_getElem? (i := 344) (by decide +kernel), List.mem_of_getElem? (i := 622) (by decide +kernel), List.mem_of_getElem? (i := 623) (by decide +kernel)⟩
theorem lw_p13 : lw_okq (⟨"AnswerDoor$Round", "isDone", "()Z"⟩, 12) := ⟨⟨by decide +kernel, by decide +kernel⟩, List.mem_of_getElem? (i := 344) (by decide +kernel), List.mem_of_getElem? (i := 634) (by decide +kernel), List.mem_of_getElem? (i := 635) (by decide +kernel)⟩
theorem lw_p14 : lw_okq (⟨"AnswerDoor$Round", "bringBack", "()V"⟩, 12) := ⟨⟨by decide +kernel, by decide +kernel⟩, List.mem_of_getElem? (i := 344) (by decide +kernel), List.mem_of_getElem? (i := 639) (by decide +kernel), List.mem_of_getElem? (i := 640) (by decide +kernel)⟩
theorem lw_p15 : lw_okq (⟨"AnswerDoor$Round", "takeBack", "(I)V"⟩, 12) := ⟨⟨by decide +kernel, by decide +kernel⟩, List.mem_of_getElem? (i := 344) (by decide +kernel), List.mem_of_getElem? (i := 643) (by decide +kernel), List.mem_of_getElem? (i := 644) (by decide +kernel)⟩
def lw_privs_1 : List (MethodName × Nat) := [(⟨"AnswerDoor$Reader", "take", "(II)I"⟩, 8), (⟨"AnswerDoor$Reader", "openNode", "(I)I"⟩, 8), (⟨"AnswerDoor$Reader", "closeNode", "(I)I"⟩, 8), (⟨"AnswerDoor$Reader", "addField", "(II)I"⟩, 8), (⟨"AnswerDoor$Tree", "priceOf", "(ILAnswerDoor$Store;)J"⟩, 8), (⟨"AnswerDoor$Round", "clear", "()V"⟩, 12), (⟨"AnswerDoor$Round", "need", "(III)V"⟩, 12), (⟨"AnswerDoor$Round", "meet", "(I)V"⟩, 12), (⟨"AnswerDoor$Round", "follow", "(III)V"⟩, 12), (⟨"AnswerDoor$Round", "makeCalls", "()V"⟩, 12), (⟨"AnswerDoor$Round", "turnTo", "(I)V"⟩, 12), (⟨"AnswerDoor$Round", "refuseAll", "(I)V"⟩, 12), (⟨"AnswerDoor$Round", "makeCall", "(II)V"⟩, 12), (⟨"AnswerDoor$Round", "isDone", "()Z"⟩, 12), (⟨"AnswerDoor$Round", "bringBack", "()V"⟩, 12), (⟨"AnswerDoor$Round", "takeBack", "(I)V"⟩, 12)]
theorem lw_r1 : ∀ q ∈ lw_privs_1, lw_okq q := List.forall_mem_cons.mpr ⟨lw_p0, List.forall_mem_cons.mpr ⟨lw_p1, List.forall_mem_cons.mpr ⟨lw_p2, List.forall_mem_cons.mpr ⟨lw_p3, List.forall_mem_cons.mpr ⟨lw_p4, List.forall_mem_cons.mpr ⟨lw_p5, List.forall_mem_cons.mpr ⟨lw_p6, List.forall_mem_cons.mpr ⟨lw_p7, List.forall_mem_cons.mpr ⟨lw_p8, List.forall_mem_cons.mpr ⟨lw_p9, List.forall_mem_cons.mpr ⟨lw_p10, List.forall_mem_cons.mpr ⟨lw_p11, List.forall_mem_cons.mpr ⟨lw_p12, List.forall_mem_cons.mpr ⟨lw_p13, List.forall_mem_cons.mpr ⟨lw_p14, List.forall_mem_cons.mpr ⟨lw_p15, fun _ h => absurd h List.not_mem_nil⟩⟩⟩⟩⟩⟩⟩⟩⟩⟩⟩⟩⟩⟩⟩⟩
theorem lw_p16 : lw_okq (⟨"AnswerDoor$Round", "learn", "(I)V"⟩, 12) := ⟨⟨by decide +kernel, by decide +kernel⟩, List.mem_of_getElem? (i := 344) (by decide +kernel), List.mem_of_getElem? (i := 670) (by decide +kernel), List.mem_of_getElem? (i := 671) (by decide +kernel)⟩
theorem lw_p17 : lw_okq (⟨"AnswerDoor$Round", "forgetTheRest", "()V"⟩, 12) := ⟨⟨by decide +kernel, by decide +kernel⟩, List.mem_of_getElem? (i := 344) (by decide +kernel), List.mem_of_getElem? (i := 678) (by decide +kernel), List.mem_of_getElem? (i := 679) (by decide +kernel)⟩
theorem lw_p18 : lw_okq (⟨"AnswerDoor$Teller", "tellThing", "(III)Z"⟩, 6) := ⟨⟨by decide +kernel, by decide +kernel⟩, List.mem_of_getElem? (i := 389) (by decide +kernel), List.mem_of_getElem? (i := 687) (by decide +kernel), List.mem_of_getElem? (i := 688) (by decide +kernel)⟩
theorem lw_p19 : lw_okq (⟨"AnswerDoor$Teller", "tellNull", "(I)Z"⟩, 6) := ⟨⟨by decide +kernel, by decide +kernel⟩, List.mem_of_getElem? (i := 389) (by decide +kernel), List.mem_of_getElem? (i := 691) (by decide +kernel), List.mem_of_getElem? (i := 692) (by decide +kernel)⟩
theorem lw_p20 : lw_okq (⟨"AnswerDoor$Teller", "put", "(I)V"⟩, 6) := ⟨⟨by decide +kernel, by decide +kernel⟩, List.mem_of_getElem? (i := 389) (by decide +kernel), List.mem_of_getElem? (i := 695) (by decide +kernel), List.mem_of_getElem? (i := 696) (by decide +kernel)⟩
theorem lw_p21 : lw_okq (⟨"AnswerDoor$Teller", "tellField", "(III)Z"⟩, 6) := ⟨⟨by decide +kernel, by decide +kernel⟩, List.mem_of_getElem? (i := 389) (by decide +kernel), List.mem_of_getElem? (i := 699) (by decide +kernel), List.mem_of_getElem? (i := 700) (by decide +kernel)⟩
theorem lw_p22 : lw_okq (⟨"AnswerDoorModel", "goesOn", "(I)V"⟩, 62) := ⟨⟨by decide +kernel, by decide +kernel⟩, List.mem_of_getElem? (i := 741) (by decide +kernel), List.mem_of_getElem? (i := 985) (by decide +kernel), List.mem_of_getElem? (i := 986) (by decide +kernel)⟩
theorem lw_p23 : lw_okq (⟨"AnswerDoorModel", "put", "(I)V"⟩, 62) := ⟨⟨by decide +kernel, by decide +kernel⟩, List.mem_of_getElem? (i := 741) (by decide +kernel), List.mem_of_getElem? (i := 993) (by decide +kernel), List.mem_of_getElem? (i := 994) (by decide +kernel)⟩
theorem lw_p24 : lw_okq (⟨"AnswerDoorModel", "reads", "(I)V"⟩, 62) := ⟨⟨by decide +kernel, by decide +kernel⟩, List.mem_of_getElem? (i := 741) (by decide +kernel), List.mem_of_getElem? (i := 1005) (by decide +kernel), List.mem_of_getElem? (i := 1006) (by decide +kernel)⟩
theorem lw_p25 : lw_okq (⟨"AnswerDoorModel", "next", "()I"⟩, 62) := ⟨⟨by decide +kernel, by decide +kernel⟩, List.mem_of_getElem? (i := 741) (by decide +kernel), List.mem_of_getElem? (i := 1009) (by decide +kernel), List.mem_of_getElem? (i := 1010) (by decide +kernel)⟩
theorem lw_p26 : lw_okq (⟨"AnswerDoorModel", "fails", "(II)V"⟩, 62) := ⟨⟨by decide +kernel, by decide +kernel⟩, List.mem_of_getElem? (i := 741) (by decide +kernel), List.mem_of_getElem? (i := 1013) (by decide +kernel), List.mem_of_getElem? (i := 1014) (by decide +kernel)⟩
theorem lw_p27 : lw_okq (⟨"AnswerDoorModel", "begins", "(IJI)V"⟩, 62) := ⟨⟨by decide +kernel, by decide +kernel⟩, List.mem_of_getElem? (i := 741) (by decide +kernel), List.mem_of_getElem? (i := 1017) (by decide +kernel), List.mem_of_getElem? (i := 1018) (by decide +kernel)⟩
theorem lw_p28 : lw_okq (⟨"AnswerDoorModel", "prices", "(J)I"⟩, 62) := ⟨⟨by decide +kernel, by decide +kernel⟩, List.mem_of_getElem? (i := 741) (by decide +kernel), List.mem_of_getElem? (i := 1021) (by decide +kernel), List.mem_of_getElem? (i := 1022) (by decide +kernel)⟩
theorem lw_p29 : lw_okq (⟨"AnswerDoorModel", "needs", "(II)V"⟩, 62) := ⟨⟨by decide +kernel, by decide +kernel⟩, List.mem_of_getElem? (i := 741) (by decide +kernel), List.mem_of_getElem? (i := 1031) (by decide +kernel), List.mem_of_getElem? (i := 1032) (by decide +kernel)⟩
theorem lw_p30 : lw_okq (⟨"AnswerDoorModel", "nulls", "(II)V"⟩, 62) := ⟨⟨by decide +kernel, by decide +kernel⟩, List.mem_of_getElem? (i := 741) (by decide +kernel), List.mem_of_getElem? (i := 1035) (by decide +kernel), List.mem_of_getElem? (i := 1036) (by decide +kernel)⟩
theorem lw_p31 : lw_okq (⟨"AnswerDoorModel", "goesOn", "(II)V"⟩, 62) := ⟨⟨by decide +kernel, by decide +kernel⟩, List.mem_of_getElem? (i := 741) (by decide +kernel), List.mem_of_getElem? (i := 1039) (by decide +kernel), List.mem_of_getElem? (i := 1040) (by decide +kernel)⟩
def lw_privs_2 : List (MethodName × Nat) := [(⟨"AnswerDoor$Round", "learn", "(I)V"⟩, 12), (⟨"AnswerDoor$Round", "forgetTheRest", "()V"⟩, 12), (⟨"AnswerDoor$Teller", "tellThing", "(III)Z"⟩, 6), (⟨"AnswerDoor$Teller", "tellNull", "(I)Z"⟩, 6), (⟨"AnswerDoor$Teller", "put", "(I)V"⟩, 6), (⟨"AnswerDoor$Teller", "tellField", "(III)Z"⟩, 6), (⟨"AnswerDoorModel", "goesOn", "(I)V"⟩, 62), (⟨"AnswerDoorModel", "put", "(I)V"⟩, 62), (⟨"AnswerDoorModel", "reads", "(I)V"⟩, 62), (⟨"AnswerDoorModel", "next", "()I"⟩, 62), (⟨"AnswerDoorModel", "fails", "(II)V"⟩, 62), (⟨"AnswerDoorModel", "begins", "(IJI)V"⟩, 62), (⟨"AnswerDoorModel", "prices", "(J)I"⟩, 62), (⟨"AnswerDoorModel", "needs", "(II)V"⟩, 62), (⟨"AnswerDoorModel", "nulls", "(II)V"⟩, 62), (⟨"AnswerDoorModel", "goesOn", "(II)V"⟩, 62)]
theorem lw_r2 : ∀ q ∈ lw_privs_2, lw_okq q := List.forall_mem_cons.mpr ⟨lw_p16, List.forall_mem_cons.mpr ⟨lw_p17, List.forall_mem_cons.mpr ⟨lw_p18, List.forall_mem_cons.mpr ⟨lw_p19, List.forall_mem_cons.mpr ⟨lw_p20, List.forall_mem_cons.mpr ⟨lw_p21, List.forall_mem_cons.mpr ⟨lw_p22, List.forall_mem_cons.mpr ⟨lw_p23, List.forall_mem_cons.mpr ⟨lw_p24, List.forall_mem_cons.mpr ⟨lw_p25, List.forall_mem_cons.mpr ⟨lw_p26, List.forall_mem_cons.mpr ⟨lw_p27, List.forall_mem_cons.mpr ⟨lw_p28, List.forall_mem_cons.mpr ⟨lw_p29, List.forall_mem_cons.mpr ⟨lw_p30, List.forall_mem_cons.mpr ⟨lw_p31, fun _ h => absurd h List.not_mem_nil⟩⟩⟩⟩⟩⟩⟩⟩⟩⟩⟩⟩⟩⟩⟩⟩
theorem lw_p32 : lw_okq (⟨"AnswerDoorModel", "many", "(II)I"⟩, 62) := ⟨⟨by decide +kernel, by decide +kernel⟩, List.mem_of_getElem? (i := 741) (by decide +kernel), List.mem_of_getElem? (i := 1043) (by decide +kernel), List.mem_of_getElem? (i := 1044) (by decide +kernel)⟩
theorem lw_p33 : lw_okq (⟨"AnswerDoorModel", "rowKey", "(III)I"⟩, 62) := ⟨⟨by decide +kernel, by decide +kernel⟩, List.mem_of_getElem? (i := 741) (by decide +kernel), List.mem_of_getElem? (i := 1047) (by decide +kernel), List.mem_of_getElem? (i := 1048) (by decide +kernel)⟩
theorem lw_p34 : lw_okq (⟨"AnswerDoorModel", "comeBack", "()V"⟩, 62) := ⟨⟨by decide +kernel, by decide +kernel⟩, List.mem_of_getElem? (i := 741) (by decide +kernel), List.mem_of_getElem? (i := 1051) (by decide +kernel), List.mem_of_getElem? (i := 1052) (by decide +kernel)⟩
theorem lw_p35 : lw_okq (⟨"AnswerDoorModel", "comesBack", "(I)V"⟩, 62) := ⟨⟨by decide +kernel, by decide +kernel⟩, List.mem_of_getElem? (i := 741) (by decide +kernel), List.mem_of_getElem? (i := 1055) (by decide +kernel), List.mem_of_getElem? (i := 1056) (by decide +kernel)⟩
theorem lw_p36 : lw_okq (⟨"AnswerDoorModel", "isDown", "(II)Z"⟩, 62) := ⟨⟨by decide +kernel, by decide +kernel⟩, List.mem_of_getElem? (i := 741) (by decide +kernel), List.mem_of_getElem? (i := 1059) (by decide +kernel), List.mem_of_getElem? (i := 1060) (by decide +kernel)⟩
theorem lw_p37 : lw_okq (⟨"AnswerDoorModel", "opens", "(I)V"⟩, 62) := ⟨⟨by decide +kernel, by decide +kernel⟩, List.mem_of_getElem? (i := 741) (by decide +kernel), List.mem_of_getElem? (i := 1063) (by decide +kernel), List.mem_of_getElem? (i := 1064) (by decide +kernel)⟩
theorem lw_p38 : lw_okq (⟨"AnswerDoorModel", "makes", "(I)V"⟩, 62) := ⟨⟨by decide +kernel, by decide +kernel⟩, List.mem_of_getElem? (i := 741) (by decide +kernel), List.mem_of_getElem? (i := 1067) (by decide +kernel), List.mem_of_getElem? (i := 1068) (by decide +kernel)⟩
theorem lw_p39 : lw_okq (⟨"AnswerDoorModel", "first", "(I)I"⟩, 62) := ⟨⟨by decide +kernel, by decide +kernel⟩, List.mem_of_getElem? (i := 741) (by decide +kernel), List.mem_of_getElem? (i := 1071) (by decide +kernel), List.mem_of_getElem? (i := 1072) (by decide +kernel)⟩
theorem lw_p40 : lw_okq (⟨"AnswerDoorModel", "calls", "(II)V"⟩, 62) := ⟨⟨by decide +kernel, by decide +kernel⟩, List.mem_of_getElem? (i := 741) (by decide +kernel), List.mem_of_getElem? (i := 1075) (by decide +kernel), List.mem_of_getElem? (i := 1076) (by decide +kernel)⟩
theorem lw_p41 : lw_okq (⟨"AnswerDoorModel", "ends", "()V"⟩, 62) := ⟨⟨by decide +kernel, by decide +kernel⟩, List.mem_of_getElem? (i := 741) (by decide +kernel), List.mem_of_getElem? (i := 1079) (by decide +kernel), List.mem_of_getElem? (i := 1080) (by decide +kernel)⟩
theorem lw_p42 : lw_okq (⟨"AnswerDoorModel", "isOver", "()Z"⟩, 62) := ⟨⟨by decide +kernel, by decide +kernel⟩, List.mem_of_getElem? (i := 741) (by decide +kernel), List.mem_of_getElem? (i := 1083) (by decide +kernel), List.mem_of_getElem? (i := 1084) (by decide +kernel)⟩
theorem lw_p43 : lw_okq (⟨"AnswerDoorModel", "answers", "(II)V"⟩, 62) := ⟨⟨by decide +kernel, by decide +kernel⟩, List.mem_of_getElem? (i := 741) (by decide +kernel), List.mem_of_getElem? (i := 1087) (by decide +kernel), List.mem_of_getElem? (i := 1088) (by decide +kernel)⟩
theorem lw_p44 : lw_okq (⟨"AnswerDoorModel", "saysNull", "(I)V"⟩, 62) := ⟨⟨by decide +kernel, by decide +kernel⟩, List.mem_of_getElem? (i := 741) (by decide +kernel), List.mem_of_getElem? (i := 1091) (by decide +kernel), List.mem_of_getElem? (i := 1092) (by decide +kernel)⟩
theorem lw_p45 : lw_okq (⟨"AnswerDoorModel", "says", "(I)V"⟩, 62) := ⟨⟨by decide +kernel, by decide +kernel⟩, List.mem_of_getElem? (i := 741) (by decide +kernel), List.mem_of_getElem? (i := 1095) (by decide +kernel), List.mem_of_getElem? (i := 1096) (by decide +kernel)⟩
theorem lw_p46 : lw_okq (⟨"AnswerDoorModel", "isNull", "(II)Z"⟩, 62) := ⟨⟨by decide +kernel, by decide +kernel⟩, List.mem_of_getElem? (i := 741) (by decide +kernel), List.mem_of_getElem? (i := 1099) (by decide +kernel), List.mem_of_getElem? (i := 1100) (by decide +kernel)⟩
def lw_privs_3 : List (MethodName × Nat) := [(⟨"AnswerDoorModel", "many", "(II)I"⟩, 62), (⟨"AnswerDoorModel", "rowKey", "(III)I"⟩, 62), (⟨"AnswerDoorModel", "comeBack", "()V"⟩, 62), (⟨"AnswerDoorModel", "comesBack", "(I)V"⟩, 62), (⟨"AnswerDoorModel", "isDown", "(II)Z"⟩, 62), (⟨"AnswerDoorModel", "opens", "(I)V"⟩, 62), (⟨"AnswerDoorModel", "makes", "(I)V"⟩, 62), (⟨"AnswerDoorModel", "first", "(I)I"⟩, 62), (⟨"AnswerDoorModel", "calls", "(II)V"⟩, 62), (⟨"AnswerDoorModel", "ends", "()V"⟩, 62), (⟨"AnswerDoorModel", "isOver", "()Z"⟩, 62), (⟨"AnswerDoorModel", "answers", "(II)V"⟩, 62), (⟨"AnswerDoorModel", "saysNull", "(I)V"⟩, 62), (⟨"AnswerDoorModel", "says", "(I)V"⟩, 62), (⟨"AnswerDoorModel", "isNull", "(II)Z"⟩, 62)]
theorem lw_r3 : ∀ q ∈ lw_privs_3, lw_okq q := List.forall_mem_cons.mpr ⟨lw_p32, List.forall_mem_cons.mpr ⟨lw_p33, List.forall_mem_cons.mpr ⟨lw_p34, List.forall_mem_cons.mpr ⟨lw_p35, List.forall_mem_cons.mpr ⟨lw_p36, List.forall_mem_cons.mpr ⟨lw_p37, List.forall_mem_cons.mpr ⟨lw_p38, List.forall_mem_cons.mpr ⟨lw_p39, List.forall_mem_cons.mpr ⟨lw_p40, List.forall_mem_cons.mpr ⟨lw_p41, List.forall_mem_cons.mpr ⟨lw_p42, List.forall_mem_cons.mpr ⟨lw_p43, List.forall_mem_cons.mpr ⟨lw_p44, List.forall_mem_cons.mpr ⟨lw_p45, List.forall_mem_cons.mpr ⟨lw_p46, fun _ h => absurd h List.not_mem_nil⟩⟩⟩⟩⟩⟩⟩⟩⟩⟩⟩⟩⟩⟩⟩
def lw_privs : List (MethodName × Nat) := lw_privs_1 ++ (lw_privs_2 ++ (lw_privs_3))
def lw_tbl : List Cond := k2_sels lw_privs ++ tables_1
theorem lw_privs_ok : ∀ q ∈ lw_privs, lw_okq q := by
  show ∀ q ∈ lw_privs_1 ++ (lw_privs_2 ++ (lw_privs_3)), lw_okq q
  exact List.forall_mem_append.mpr ⟨lw_r1, List.forall_mem_append.mpr ⟨lw_r2, lw_r3⟩⟩

-- ===== names: classes by number, their fields, their methods =====
def RN : Nat → String := fun c => match c with
  | 0 => "AnswerDoor$Calls"
  | 1 => "AnswerDoor$Clock"
  | 2 => "AnswerDoor$Helper"
  | 3 => "AnswerDoor$Helpers"
  | 4 => "AnswerDoor$Reader"
  | 5 => "AnswerDoor$Round"
  | 6 => "AnswerDoor$Store"
  | 7 => "AnswerDoor$Tape"
  | 8 => "AnswerDoor$Teller"
  | 9 => "AnswerDoor$Tree"
  | 10 => "AnswerDoor"
  | 11 => "AnswerDoorModel"
  | 12 => "AnswerDoorLaw"
  | 13 => "java/lang/Math"
  | _ => "java/util/Arrays"
abbrev FD : Type := String × String × String × Bool
def fd_0 : List FD := [("AnswerDoor$Calls", "helperOf", "[I", true), ("AnswerDoor$Calls", "typeOf", "[I", true), ("AnswerDoor$Calls", "tick", "[I", true), ("AnswerDoor$Calls", "size", "[I", true), ("AnswerDoor$Calls", "fate", "[I", true), ("AnswerDoor$Calls", "made", "I", false), ("AnswerDoor$Calls", "firstOnWay", "I", false), ("AnswerDoor$Calls", "start", "[I", true), ("AnswerDoor$Calls", "keys", "[I", true), ("AnswerDoor$Calls", "keysInAll", "I", false)]
def fd_1 : List FD := [("AnswerDoor$Clock", "rights", "[I", true), ("AnswerDoor$Clock", "full", "[I", true), ("AnswerDoor$Clock", "fill", "[I", true), ("AnswerDoor$Clock", "has", "[I", true), ("AnswerDoor$Clock", "now", "I", false)]
def fd_2 : List FD := [("AnswerDoor$Helper", "delay", "I", false), ("AnswerDoor$Helper", "batch", "I", false), ("AnswerDoor$Helper", "rate", "I", false), ("AnswerDoor$Helper", "fails", "I", false), ("AnswerDoor$Helper", "wait", "I", false), ("AnswerDoor$Helper", "closed", "Z", false), ("AnswerDoor$Helper", "failed", "I", false), ("AnswerDoor$Helper", "openTo", "I", false), ("AnswerDoor$Helper", "tryCall", "I", false)]
def fd_3 : List FD := [("AnswerDoor$Helpers", "each", "[LAnswerDoor$Helper;", true), ("AnswerDoor$Helpers", "spells", "I", false), ("AnswerDoor$Helpers", "spellOf", "[I", true), ("AnswerDoor$Helpers", "spellFrom", "[I", true), ("AnswerDoor$Helpers", "spellTo", "[I", true)]
def fd_4 : List FD := [("AnswerDoor$Reader", "tree", "LAnswerDoor$Tree;", true), ("AnswerDoor$Reader", "store", "LAnswerDoor$Store;", true), ("AnswerDoor$Reader", "openNodes", "[I", true), ("AnswerDoor$Reader", "level", "I", false), ("AnswerDoor$Reader", "wants", "I", false), ("AnswerDoor$Reader", "nextType", "I", false), ("AnswerDoor$Reader", "nextTimes", "I", false), ("AnswerDoor$Reader", "nextSlot", "I", false)]
def fd_5 : List FD := [("AnswerDoor$Round", "fate", "[I", true), ("AnswerDoor$Round", "asked", "I", false), ("AnswerDoor$Round", "clock", "LAnswerDoor$Clock;", true), ("AnswerDoor$Round", "helpers", "LAnswerDoor$Helpers;", true), ("AnswerDoor$Round", "store", "LAnswerDoor$Store;", true), ("AnswerDoor$Round", "tree", "LAnswerDoor$Tree;", true), ("AnswerDoor$Round", "calls", "LAnswerDoor$Calls;", true), ("AnswerDoor$Round", "neededBy", "[I", true), ("AnswerDoor$Round", "queue", "[I", true), ("AnswerDoor$Round", "firstWaiting", "I", false), ("AnswerDoor$Round", "waiting", "[I", true), ("AnswerDoor$Round", "rights", "I", false)]
def fd_6 : List FD := [("AnswerDoor$Store", "helperOf", "[I", true), ("AnswerDoor$Store", "price", "[I", true), ("AnswerDoor$Store", "life", "[I", true), ("AnswerDoor$Store", "kind", "[I", true), ("AnswerDoor$Store", "leadsTo", "[I", true), ("AnswerDoor$Store", "most", "[I", true), ("AnswerDoor$Store", "must", "[Z", true), ("AnswerDoor$Store", "there", "[Z", true), ("AnswerDoor$Store", "keptTo", "[I", true), ("AnswerDoor$Store", "numbers", "[I", true), ("AnswerDoor$Store", "refs", "[I", true), ("AnswerDoor$Store", "rowSizes", "[I", true), ("AnswerDoor$Store", "rows", "[I", true)]
def fd_7 : List FD := [("AnswerDoor$Tape", "bytes", "[I", true), ("AnswerDoor$Tape", "length", "I", false)]
def fd_8 : List FD := [("AnswerDoor$Teller", "told", "[I", true), ("AnswerDoor$Teller", "length", "I", false), ("AnswerDoor$Teller", "store", "LAnswerDoor$Store;", true), ("AnswerDoor$Teller", "tree", "LAnswerDoor$Tree;", true), ("AnswerDoor$Teller", "fate", "[I", true), ("AnswerDoor$Teller", "hasNull", "Z", false)]
def fd_9 : List FD := [("AnswerDoor$Tree", "type", "[I", true), ("AnswerDoor$Tree", "place", "[I", true), ("AnswerDoor$Tree", "times", "[I", true), ("AnswerDoor$Tree", "level", "[I", true), ("AnswerDoor$Tree", "width", "[I", true), ("AnswerDoor$Tree", "fields", "[I", true), ("AnswerDoor$Tree", "children", "[I", true), ("AnswerDoor$Tree", "nodes", "I", false)]
def fd_10 : List FD := [("AnswerDoor", "clock", "LAnswerDoor$Clock;", true), ("AnswerDoor", "helpers", "LAnswerDoor$Helpers;", true), ("AnswerDoor", "store", "LAnswerDoor$Store;", true), ("AnswerDoor", "tape", "LAnswerDoor$Tape;", true), ("AnswerDoor", "tree", "LAnswerDoor$Tree;", true), ("AnswerDoor", "reader", "LAnswerDoor$Reader;", true), ("AnswerDoor", "calls", "LAnswerDoor$Calls;", true), ("AnswerDoor", "round", "LAnswerDoor$Round;", true), ("AnswerDoor", "teller", "LAnswerDoor$Teller;", true), ("AnswerDoor", "dearPlace", "I", false)]
def fd_11 : List FD := [("AnswerDoorModel", "thrown", "I", false), ("AnswerDoorModel", "now", "I", false), ("AnswerDoorModel", "delay", "[I", true), ("AnswerDoorModel", "batch", "[I", true), ("AnswerDoorModel", "rate", "[I", true), ("AnswerDoorModel", "fails", "[I", true), ("AnswerDoorModel", "wait", "[I", true), ("AnswerDoorModel", "failed", "[I", true), ("AnswerDoorModel", "behind", "[I", true), ("AnswerDoorModel", "tried", "[I", true), ("AnswerDoorModel", "spells", "I", false), ("AnswerDoorModel", "downHelper", "[I", true), ("AnswerDoorModel", "downFrom", "[I", true), ("AnswerDoorModel", "downTo", "[I", true), ("AnswerDoorModel", "helperOf", "[I", true), ("AnswerDoorModel", "price", "[I", true), ("AnswerDoorModel", "life", "[I", true), ("AnswerDoorModel", "kind", "[I", true), ("AnswerDoorModel", "of", "[I", true), ("AnswerDoorModel", "most", "[I", true), ("AnswerDoorModel", "must", "[Z", true), ("AnswerDoorModel", "isThere", "[Z", true), ("AnswerDoorModel", "number", "[I", true), ("AnswerDoorModel", "leads", "[I", true), ("AnswerDoorModel", "rows", "[I", true), ("AnswerDoorModel", "rowKeys", "[I", true), ("AnswerDoorModel", "until", "[I", true), ("AnswerDoorModel", "rights", "[I", true), ("AnswerDoorModel", "full", "[I", true), ("AnswerDoorModel", "fill", "[I", true), ("AnswerDoorModel", "bucket", "[I", true), ("AnswerDoorModel", "tape", "[B", true), ("AnswerDoorModel", "taped", "I", false), ("AnswerDoorModel", "at", "I", false), ("AnswerDoorModel", "fault", "I", false), ("AnswerDoorModel", "nodes", "I", false), ("AnswerDoorModel", "nodeType", "[I", true), ("AnswerDoorModel", "place", "[I", true), ("AnswerDoorModel", "wide", "[I", true), ("AnswerDoorModel", "digit", "[I", true), ("AnswerDoorModel", "child", "[I", true), ("AnswerDoorModel", "times", "[J", true), ("AnswerDoorModel", "open", "[I", true), ("AnswerDoorModel", "costs", "J", false), ("AnswerDoorModel", "state", "[I", true), ("AnswerDoorModel", "reason", "[I", true), ("AnswerDoorModel", "isNeeded", "[Z", true), ("AnswerDoorModel", "waits", "I", false), ("AnswerDoorModel", "queue", "[I", true), ("AnswerDoorModel", "asker", "I", false), ("AnswerDoorModel", "askedFor", "I", false), ("AnswerDoorModel", "calls", "I", false), ("AnswerDoorModel", "callHelper", "[I", true), ("AnswerDoorModel", "callType", "[I", true), ("AnswerDoorModel", "callTick", "[I", true), ("AnswerDoorModel", "callKeys", "[I", true), ("AnswerDoorModel", "callEnd", "[I", true), ("AnswerDoorModel", "callKey", "[I", true), ("AnswerDoorModel", "dear", "I", false), ("AnswerDoorModel", "numbers", "I", false), ("AnswerDoorModel", "hasNull", "Z", false), ("AnswerDoorModel", "answer", "[I", true)]
def FDs : List (List FD) := [fd_0, fd_1, fd_2, fd_3, fd_4, fd_5, fd_6, fd_7, fd_8, fd_9, fd_10, fd_11]
def TN (c k : Nat) : FD := (FDs.getD c []).getD k ("", "", "I", false)
def NNs : List Nat := [10, 5, 9, 5, 8, 12, 13, 2, 6, 8, 10, 62]
def NN (c : Nat) : Nat := NNs.getD c 0
-- what a field holds: 0 an int (boolean, byte too), 1 a long, 2 a reference
def TKs : List (List Nat) := [[2, 2, 2, 2, 2, 0, 0, 2, 2, 0], [2, 2, 2, 2, 0], [0, 0, 0, 0, 0, 0, 0, 0, 0], [2, 0, 2, 2, 2], [2, 2, 2, 0, 0, 0, 0, 0], [2, 0, 2, 2, 2, 2, 2, 2, 2, 0, 2, 0], [2, 2, 2, 2, 2, 2, 2, 2, 2, 2, 2, 2, 2], [2, 0], [2, 0, 2, 2, 2, 0], [2, 2, 2, 2, 2, 2, 2, 0], [2, 2, 2, 2, 2, 2, 2, 2, 2, 0], [0, 0, 2, 2, 2, 2, 2, 2, 2, 2, 0, 2, 2, 2, 2, 2, 2, 2, 2, 2, 2, 2, 2, 2, 2, 2, 2, 2, 2, 2, 2, 2, 0, 0, 0, 0, 2, 2, 2, 2, 2, 2, 2, 1, 2, 2, 2, 0, 2, 0, 0, 0, 2, 2, 2, 2, 2, 2, 0, 0, 0, 2]]
def tyK (c k : Nat) : Nat := (TKs.getD c []).getD k 0
def tyN (c k : Nat) : FieldType := (parseFieldDescriptor (TN c k).2.2.1).getD .int
def clsL : List vw_C := (List.range 12).map (fun c => (RN c, TN c, NN c))
theorem clsL_at {c : Nat} (h : c < 12) : clsL[c]? = some (RN c, TN c, NN c) := by
  unfold clsL
  rw [List.getElem?_map, List.getElem?_range h]
  rfl
theorem tyN_ok : ∀ c, c < 12 → ∀ k, k < NN c → parseFieldDescriptor (TN c k).2.2.1 = some (tyN c k) := by decide +kernel
theorem nmN : ∀ c, c < 12 → ∀ a, a < NN c → ∀ b, b < NN c → a ≠ b → (TN c a).2.1 ≠ (TN c b).2.1 := by decide +kernel
theorem inN : ∀ c, c < 12 → ∀ w ∈ u_ws (RN c) (TN c) (NN c), w ∈ lw_tbl := by decide +kernel
theorem tyK_ok : ∀ c, c < 12 → ∀ k, k < NN c → tyK c k = (match tyN c k with | .long => 1 | .object _ => 2 | .array _ => 2 | .float => 9 | .double => 9 | _ => 0) := by decide +kernel
end
section
abbrev Q4 : Type := Nat × Nat × Nat × Nat
-- (own class, index, class of the field, its number)
def FLT_0 : List Q4 := [(1, 9, 1, 0), (10, 171, 1, 0), (1, 15, 1, 1), (10, 174, 1, 1), (1, 18, 1, 2), (10, 177, 1, 2), (1, 21, 1, 3), (10, 180, 1, 3), (1, 29, 1, 4), (5, 129, 1, 4), (10, 189, 1, 4), (2, 9, 2, 0), (10, 94, 2, 0), (5, 145, 2, 0), (2, 15, 2, 1), (10, 99, 2, 1), (5, 208, 2, 1), (2, 18, 2, 2), (10, 102, 2, 2), (5, 205, 2, 2), (2, 21, 2, 3), (10, 105, 2, 3), (2, 24, 2, 4), (10, 108, 2, 4), (2, 27, 2, 5), (5, 201, 2, 5), (10, 243, 2, 5), (2, 31, 2, 6), (10, 250, 2, 6), (2, 34, 2, 7), (10, 253, 2, 7), (2, 37, 2, 8), (5, 214, 2, 8), (3, 11, 3, 0), (10, 90, 3, 0), (5, 138, 3, 0), (3, 28, 3, 1), (10, 115, 3, 1), (3, 17, 3, 2), (3, 21, 3, 3)]
def FLT_1 : List Q4 := [(3, 24, 3, 4), (6, 9, 6, 0), (10, 122, 6, 0), (5, 132, 6, 0), (6, 15, 6, 1), (9, 49, 6, 1), (10, 125, 6, 1), (6, 18, 6, 2), (10, 128, 6, 2), (6, 21, 6, 3), (8, 69, 6, 3), (10, 134, 6, 3), (4, 90, 6, 3), (6, 24, 6, 4), (10, 137, 6, 4), (4, 95, 6, 4), (6, 27, 6, 5), (10, 140, 6, 5), (4, 98, 6, 5), (6, 30, 6, 6), (8, 56, 6, 6), (10, 143, 6, 6), (6, 34, 6, 7), (10, 151, 6, 7), (5, 175, 6, 7), (6, 37, 6, 8), (10, 131, 6, 8), (5, 126, 6, 8), (6, 40, 6, 9), (8, 72, 6, 9), (10, 159, 6, 9), (6, 43, 6, 10), (10, 162, 6, 10), (6, 46, 6, 11), (10, 165, 6, 11), (6, 49, 6, 12), (10, 168, 6, 12), (7, 9, 7, 0), (4, 49, 7, 0), (7, 15, 7, 1)]
def FLT_2 : List Q4 := [(4, 44, 7, 1), (10, 196, 7, 1), (9, 9, 9, 0), (4, 70, 9, 0), (9, 15, 9, 1), (4, 76, 9, 1), (9, 18, 9, 2), (4, 73, 9, 2), (9, 21, 9, 3), (4, 82, 9, 3), (5, 188, 9, 3), (9, 24, 9, 4), (8, 48, 9, 4), (4, 79, 9, 4), (5, 105, 9, 4), (9, 27, 9, 5), (8, 62, 9, 5), (4, 87, 9, 5), (5, 110, 9, 5), (9, 30, 9, 6), (8, 78, 9, 6), (4, 84, 9, 6), (5, 119, 9, 6), (4, 23, 9, 7), (9, 33, 9, 7), (5, 185, 9, 7), (4, 15, 4, 0), (4, 19, 4, 1), (4, 9, 4, 2), (4, 29, 4, 3), (4, 32, 4, 4), (4, 35, 4, 5), (4, 38, 4, 6), (4, 41, 4, 7), (0, 9, 0, 0), (5, 144, 0, 0), (10, 229, 0, 0), (0, 15, 0, 1), (5, 169, 0, 1), (10, 230, 0, 1)]
def FLT_3 : List Q4 := [(0, 18, 0, 2), (5, 135, 0, 2), (10, 233, 0, 2), (0, 21, 0, 3), (5, 166, 0, 3), (10, 236, 0, 3), (0, 24, 0, 4), (5, 150, 0, 4), (10, 239, 0, 4), (0, 33, 0, 5), (5, 96, 0, 5), (10, 226, 0, 5), (0, 37, 0, 6), (5, 93, 0, 6), (0, 27, 0, 7), (0, 30, 0, 8), (0, 40, 0, 9), (5, 9, 5, 0), (10, 71, 5, 0), (5, 84, 5, 1), (10, 256, 5, 1), (5, 24, 5, 2), (5, 28, 5, 3), (5, 32, 5, 4), (5, 36, 5, 5), (5, 40, 5, 6), (5, 15, 5, 7), (5, 18, 5, 8), (5, 87, 5, 9), (5, 21, 5, 10), (5, 47, 5, 11), (8, 11, 8, 0), (10, 223, 8, 0), (8, 26, 8, 1), (10, 222, 8, 1), (8, 15, 8, 2), (8, 19, 8, 3), (8, 23, 8, 4), (8, 30, 8, 5), (10, 12, 10, 0)]
def FLT_4 : List Q4 := [(10, 19, 10, 1), (10, 26, 10, 2), (10, 33, 10, 3), (10, 40, 10, 4), (10, 49, 10, 5), (10, 56, 10, 6), (10, 65, 10, 7), (10, 78, 10, 8), (10, 82, 10, 9), (11, 176, 11, 1), (11, 9, 11, 2), (11, 13, 11, 3), (11, 16, 11, 4), (11, 19, 11, 5), (11, 22, 11, 6), (11, 25, 11, 7), (11, 28, 11, 8), (11, 31, 11, 9), (11, 166, 11, 10), (11, 34, 11, 11), (11, 37, 11, 12), (11, 40, 11, 13), (11, 43, 11, 14), (11, 46, 11, 15), (11, 49, 11, 16), (11, 52, 11, 17), (11, 55, 11, 18), (11, 58, 11, 19), (11, 61, 11, 20), (11, 65, 11, 21), (11, 68, 11, 22), (11, 71, 11, 23), (11, 74, 11, 24), (11, 77, 11, 25), (11, 80, 11, 26), (11, 83, 11, 27), (11, 86, 11, 28), (11, 89, 11, 29), (11, 92, 11, 30), (11, 95, 11, 31)]
def FLT_5 : List Q4 := [(11, 183, 11, 32), (11, 189, 11, 33), (11, 192, 11, 34), (11, 195, 11, 35), (11, 99, 11, 36), (11, 102, 11, 37), (11, 105, 11, 38), (11, 108, 11, 39), (11, 111, 11, 40), (11, 114, 11, 41), (11, 118, 11, 42), (11, 209, 11, 43), (11, 121, 11, 44), (11, 124, 11, 45), (11, 127, 11, 46), (11, 229, 11, 47), (11, 130, 11, 48), (11, 223, 11, 49), (11, 232, 11, 50), (11, 254, 11, 51), (11, 133, 11, 52), (11, 136, 11, 53), (11, 139, 11, 54), (11, 142, 11, 55), (11, 145, 11, 56), (11, 148, 11, 57), (11, 151, 11, 58), (11, 279, 11, 59), (11, 282, 11, 60), (11, 156, 11, 61)]
def FLT : List Q4 := FLT_0 ++ FLT_1 ++ FLT_2 ++ FLT_3 ++ FLT_4 ++ FLT_5
theorem in_fm {ws : List Jvm.Cond} {ps : List Nat} (h : ws = ps.filterMap (fun i => lw_tbl[i]?)) {w : Jvm.Cond} (hw : w ∈ ws) : w ∈ lw_tbl := by rw [h] at hw; obtain ⟨i, -, hi⟩ := List.mem_filterMap.mp hw; exact List.mem_of_getElem? hi
def flW (q : Q4) : Jvm.Cond := Jvm.Cond.fieldLink (RN q.1) q.2.1 (TN q.2.2.1 q.2.2.2).1 (TN q.2.2.1 q.2.2.2).2.1 (TN q.2.2.1 q.2.2.2).2.2.1
theorem FLT_w0 : FLT_0.map flW = ([79, 80, 81, 82, 83, 84, 85, 86, 87, 88, 89, 115, 116, 117, 118, 119, 120, 121, 122, 123, 124, 125, 126, 127, 128, 129, 130, 131, 132, 133, 134, 135, 136, 156, 157, 158, 159, 160, 161, 162] : List Nat).filterMap (fun i => lw_tbl[i]?) := by decide +kernel
theorem FLT_w1 : FLT_1.map flW = ([163, 182, 183, 184, 185, 186, 187, 188, 189, 190, 191, 192, 193, 194, 195, 196, 197, 198, 199, 200, 201, 202, 203, 204, 205, 206, 207, 208, 209, 210, 211, 212, 213, 214, 215, 216, 217, 252, 253, 254] : List Nat).filterMap (fun i => lw_tbl[i]?) := by decide +kernel
theorem FLT_w2 : FLT_2.map flW = ([255, 256, 268, 269, 270, 271, 272, 273, 274, 275, 276, 277, 278, 279, 280, 281, 282, 283, 284, 285, 286, 287, 288, 289, 290, 291, 315, 316, 317, 318, 319, 320, 321, 322, 346, 347, 348, 349, 350, 351] : List Nat).filterMap (fun i => lw_tbl[i]?) := by decide +kernel
theorem FLT_w3 : FLT_3.map flW = ([352, 353, 354, 355, 356, 357, 358, 359, 360, 361, 362, 363, 364, 365, 366, 367, 368, 396, 397, 398, 399, 400, 401, 402, 403, 404, 405, 406, 407, 408, 409, 441, 442, 443, 444, 445, 446, 447, 448, 462] : List Nat).filterMap (fun i => lw_tbl[i]?) := by decide +kernel
theorem FLT_w4 : FLT_4.map flW = ([463, 464, 465, 466, 467, 468, 469, 470, 471, 794, 795, 796, 797, 798, 799, 800, 801, 802, 803, 804, 805, 806, 807, 808, 809, 810, 811, 812, 813, 814, 815, 816, 817, 818, 819, 820, 821, 822, 823, 824] : List Nat).filterMap (fun i => lw_tbl[i]?) := by decide +kernel
theorem FLT_w5 : FLT_5.map flW = ([825, 826, 827, 828, 829, 830, 831, 832, 833, 834, 835, 836, 837, 838, 839, 840, 841, 842, 843, 844, 845, 846, 847, 848, 849, 850, 851, 852, 853, 854] : List Nat).filterMap (fun i => lw_tbl[i]?) := by decide +kernel
theorem FLT_ok : ∀ q ∈ FLT, Jvm.Cond.fieldLink (RN q.1) q.2.1 (TN q.2.2.1 q.2.2.2).1 (TN q.2.2.1 q.2.2.2).2.1 (TN q.2.2.1 q.2.2.2).2.2.1 ∈ lw_tbl := by
  intro q hq
  simp only [FLT, List.mem_append] at hq
  rcases hq with ((((h | h) | h) | h) | h) | h
  · exact in_fm FLT_w0 (List.mem_map.mpr ⟨q, h, rfl⟩)
  · exact in_fm FLT_w1 (List.mem_map.mpr ⟨q, h, rfl⟩)
  · exact in_fm FLT_w2 (List.mem_map.mpr ⟨q, h, rfl⟩)
  · exact in_fm FLT_w3 (List.mem_map.mpr ⟨q, h, rfl⟩)
  · exact in_fm FLT_w4 (List.mem_map.mpr ⟨q, h, rfl⟩)
  · exact in_fm FLT_w5 (List.mem_map.mpr ⟨q, h, rfl⟩)
theorem FLT_in : ∀ q ∈ FLT, q.2.2.1 < 12 ∧ q.2.2.2 < NN q.2.2.1 := by decide +kernel
-- a method: name, bytes, locals, what it returns, its class, how many arguments (the receiver counts)
abbrev MD : Type := MethodName × ByteArray × Nat × Option FieldType × Nat × Nat
def MTs_0 : List MD := [(⟨RN 0, "<init>", "()V"⟩, prog_2_method_1_code, 1, none, 0, 1), (⟨RN 0, "clear", "()V"⟩, prog_2_method_2_code, 1, none, 0, 1), (⟨RN 0, "begin", "(III)V"⟩, prog_2_method_3_code, 4, none, 0, 4), (⟨RN 0, "addKey", "(I)V"⟩, prog_2_method_4_code, 2, none, 0, 2), (⟨RN 0, "finish", "(II)V"⟩, prog_2_method_6_code, 3, none, 0, 3), (⟨RN 0, "keyAt", "(II)I"⟩, prog_2_method_5_code, 3, (some .int), 0, 3), (⟨RN 1, "<init>", "()V"⟩, prog_3_method_1_code, 1, none, 1, 1), (⟨RN 1, "goBy", "(I)V"⟩, prog_3_method_2_code, 3, none, 1, 2), (⟨RN 2, "<init>", "()V"⟩, prog_4_method_1_code, 1, none, 2, 1), (⟨RN 2, "close", "()V"⟩, prog_4_method_2_code, 1, none, 2, 1), (⟨RN 2, "isOpen", "(I)Z"⟩, prog_4_method_4_code, 2, (some .boolean), 2, 2), (⟨RN 2, "cameBack", "(IZI)V"⟩, prog_4_method_5_code, 5, none, 2, 4), (⟨RN 2, "open", "(I)V"⟩, prog_4_method_3_code, 2, none, 2, 2), (⟨RN 3, "<init>", "()V"⟩, prog_5_method_1_code, 2, none, 3, 1), (⟨RN 3, "addSpell", "(III)I"⟩, prog_5_method_2_code, 4, (some .int), 3, 4), (⟨RN 3, "isDown", "(II)Z"⟩, prog_5_method_3_code, 4, (some .boolean), 3, 3), (⟨RN 4, "<init>", "(LAnswerDoor$Tree;LAnswerDoor$Store;)V"⟩, prog_6_method_1_code, 3, none, 4, 3), (⟨RN 4, "read", "(LAnswerDoor$Tape;I)I"⟩, prog_6_method_2_code, 5, (some .int), 4, 3), (⟨RN 4, "take", "(II)I"⟩, prog_6_method_3_code, 4, (some .int), 4, 3), (⟨RN 4, "openNode", "(I)I"⟩, prog_6_method_4_code, 3, (some .int), 4, 2)]
def MTs_1 : List MD := [(⟨RN 4, "closeNode", "(I)I"⟩, prog_6_method_5_code, 2, (some .int), 4, 2), (⟨RN 4, "addField", "(II)I"⟩, prog_6_method_6_code, 6, (some .int), 4, 3), (⟨RN 5, "<init>", "(LAnswerDoor$Clock;LAnswerDoor$Helpers;LAnswerDoor$Store;LAnswerDoor$Tree;LAnswerDoor$Calls;)V"⟩, prog_7_method_1_code, 6, none, 5, 6), (⟨RN 5, "run", "(III)V"⟩, prog_7_method_2_code, 5, none, 5, 4), (⟨RN 5, "clear", "()V"⟩, prog_7_method_4_code, 1, none, 5, 1), (⟨RN 5, "need", "(III)V"⟩, prog_7_method_6_code, 5, none, 5, 4), (⟨RN 5, "meet", "(I)V"⟩, prog_7_method_8_code, 3, none, 5, 2), (⟨RN 5, "follow", "(III)V"⟩, prog_7_method_7_code, 8, none, 5, 4), (⟨RN 5, "makeCalls", "()V"⟩, prog_7_method_12_code, 2, none, 5, 1), (⟨RN 5, "turnTo", "(I)V"⟩, prog_7_method_13_code, 4, none, 5, 2), (⟨RN 5, "refuseAll", "(I)V"⟩, prog_7_method_14_code, 4, none, 5, 2), (⟨RN 5, "makeCall", "(II)V"⟩, prog_7_method_15_code, 8, none, 5, 3), (⟨RN 5, "isDone", "()Z"⟩, prog_7_method_5_code, 1, (some .boolean), 5, 1), (⟨RN 5, "bringBack", "()V"⟩, prog_7_method_9_code, 4, none, 5, 1), (⟨RN 5, "takeBack", "(I)V"⟩, prog_7_method_10_code, 6, none, 5, 2), (⟨RN 5, "learn", "(I)V"⟩, prog_7_method_11_code, 4, none, 5, 2), (⟨RN 5, "forgetTheRest", "()V"⟩, prog_7_method_16_code, 3, none, 5, 1), (⟨RN 5, "nulls", "()I"⟩, prog_7_method_3_code, 3, (some .int), 5, 1), (⟨RN 6, "<init>", "()V"⟩, prog_8_method_1_code, 1, none, 6, 1), (⟨RN 6, "links", "(II)I"⟩, prog_8_method_4_code, 5, (some .int), 6, 3)]
def MTs_2 : List MD := [(⟨RN 6, "fieldPlace", "(II)I"⟩, prog_8_method_3_code, 3, (some .int), 6, 3), (⟨RN 6, "linked", "(III)I"⟩, prog_8_method_5_code, 7, (some .int), 6, 4), (⟨RN 6, "keep", "(II)V"⟩, prog_8_method_2_code, 4, none, 6, 3), (⟨RN 7, "<init>", "()V"⟩, prog_9_method_1_code, 1, none, 7, 1), (⟨RN 7, "addWord", "(I)V"⟩, prog_9_method_2_code, 3, none, 7, 2), (⟨RN 8, "<init>", "(LAnswerDoor$Store;LAnswerDoor$Tree;[I)V"⟩, prog_10_method_1_code, 4, none, 8, 4), (⟨RN 8, "tell", "(I)Z"⟩, prog_10_method_2_code, 2, (some .boolean), 8, 2), (⟨RN 8, "tellThing", "(III)Z"⟩, prog_10_method_3_code, 8, (some .boolean), 8, 4), (⟨RN 8, "tellNull", "(I)Z"⟩, prog_10_method_5_code, 2, (some .boolean), 8, 2), (⟨RN 8, "put", "(I)V"⟩, prog_10_method_6_code, 2, none, 8, 2), (⟨RN 8, "tellField", "(III)Z"⟩, prog_10_method_4_code, 10, (some .boolean), 8, 4), (⟨RN 9, "<init>", "()V"⟩, prog_11_method_1_code, 1, none, 9, 1), (⟨RN 9, "priceInAll", "(LAnswerDoor$Store;)I"⟩, prog_11_method_2_code, 5, (some .int), 9, 2), (⟨RN 9, "priceOf", "(ILAnswerDoor$Store;)J"⟩, prog_11_method_4_code, 3, (some .long), 9, 3), (⟨RN 9, "placeAbove", "(ILAnswerDoor$Store;)I"⟩, prog_11_method_3_code, 6, (some .int), 9, 3), (⟨RN 10, "<init>", "()V"⟩, prog_1_method_1_code, 1, none, 10, 1), (⟨RN 10, "helper", "(IIIIII)Z"⟩, prog_1_method_2_code, 8, (some .boolean), 10, 7), (⟨RN 10, "within", "(III)Z"⟩, prog_1_method_22_code, 3, (some .boolean), 10, 3), (⟨RN 10, "down", "(III)I"⟩, prog_1_method_3_code, 4, (some .int), 10, 4), (⟨RN 10, "type", "(IIII)Z"⟩, prog_1_method_4_code, 6, (some .boolean), 10, 5)]
def MTs_3 : List MD := [(⟨RN 10, "field", "(IIIIIZ)Z"⟩, prog_1_method_5_code, 8, (some .boolean), 10, 7), (⟨RN 10, "thing", "(IIZ)Z"⟩, prog_1_method_6_code, 5, (some .boolean), 10, 4), (⟨RN 10, "isThing", "(II)Z"⟩, prog_1_method_23_code, 2, (some .boolean), 10, 2), (⟨RN 10, "number", "(IIII)Z"⟩, prog_1_method_7_code, 6, (some .boolean), 10, 5), (⟨RN 10, "isCell", "(III)Z"⟩, prog_1_method_24_code, 3, (some .boolean), 10, 3), (⟨RN 10, "key", "(IIII)Z"⟩, prog_1_method_8_code, 6, (some .boolean), 10, 5), (⟨RN 10, "row", "(IIIII)Z"⟩, prog_1_method_9_code, 7, (some .boolean), 10, 6), (⟨RN 10, "asker", "(IIII)Z"⟩, prog_1_method_10_code, 5, (some .boolean), 10, 5), (⟨RN 10, "pass", "(I)I"⟩, prog_1_method_11_code, 2, (some .int), 10, 2), (⟨RN 10, "feed", "(IIIII)I"⟩, prog_1_method_12_code, 6, (some .int), 10, 6), (⟨RN 10, "end", "(I)I"⟩, prog_1_method_13_code, 2, (some .int), 10, 2), (⟨RN 10, "ask", "(IIII)I"⟩, prog_1_method_14_code, 8, (some .int), 10, 5), (⟨RN 10, "cost", "(I)I"⟩, prog_1_method_15_code, 3, (some .int), 10, 2), (⟨RN 10, "dear", "()I"⟩, prog_1_method_16_code, 1, (some .int), 10, 1), (⟨RN 10, "answer", "(I)I"⟩, prog_1_method_17_code, 2, (some .int), 10, 2), (⟨RN 10, "call", "(II)I"⟩, prog_1_method_18_code, 3, (some .int), 10, 3), (⟨RN 10, "breaker", "(II)I"⟩, prog_1_method_19_code, 4, (some .int), 10, 3), (⟨RN 10, "kept", "(II)I"⟩, prog_1_method_20_code, 4, (some .int), 10, 3), (⟨RN 10, "count", "(I)I"⟩, prog_1_method_21_code, 2, (some .int), 10, 2), (⟨RN 11, "<init>", "()V"⟩, prog_13_method_1_code, 2, none, 11, 1)]
def MTs_4 : List MD := [(⟨RN 11, "helper", "(IIIIII)Z"⟩, prog_13_method_4_code, 7, (some .boolean), 11, 7), (⟨RN 11, "in", "(III)Z"⟩, prog_13_method_3_code, 3, (some .boolean), 11, 3), (⟨RN 11, "down", "(III)I"⟩, prog_13_method_5_code, 4, (some .int), 11, 4), (⟨RN 11, "type", "(IIII)Z"⟩, prog_13_method_7_code, 6, (some .boolean), 11, 5), (⟨RN 11, "field", "(IIIIIZ)Z"⟩, prog_13_method_8_code, 7, (some .boolean), 11, 7), (⟨RN 11, "thing", "(IIZ)Z"⟩, prog_13_method_10_code, 4, (some .boolean), 11, 4), (⟨RN 11, "isThing", "(II)Z"⟩, prog_13_method_9_code, 2, (some .boolean), 11, 2), (⟨RN 11, "number", "(IIII)Z"⟩, prog_13_method_11_code, 5, (some .boolean), 11, 5), (⟨RN 11, "key", "(IIII)Z"⟩, prog_13_method_12_code, 5, (some .boolean), 11, 5), (⟨RN 11, "row", "(IIIII)Z"⟩, prog_13_method_13_code, 6, (some .boolean), 11, 6), (⟨RN 11, "asker", "(IIII)Z"⟩, prog_13_method_14_code, 5, (some .boolean), 11, 5), (⟨RN 11, "pass", "(I)I"⟩, prog_13_method_16_code, 2, (some .int), 11, 2), (⟨RN 11, "goesOn", "(I)V"⟩, prog_13_method_15_code, 5, none, 11, 2), (⟨RN 11, "feed", "(IIIII)I"⟩, prog_13_method_17_code, 6, (some .int), 11, 6), (⟨RN 11, "put", "(I)V"⟩, prog_13_method_18_code, 3, none, 11, 2), (⟨RN 11, "end", "(I)I"⟩, prog_13_method_19_code, 2, (some .int), 11, 2), (⟨RN 11, "cost", "(I)I"⟩, prog_13_method_25_code, 2, (some .int), 11, 2), (⟨RN 11, "reads", "(I)V"⟩, prog_13_method_23_code, 7, none, 11, 2), (⟨RN 11, "next", "()I"⟩, prog_13_method_20_code, 1, (some .int), 11, 1), (⟨RN 11, "fails", "(II)V"⟩, prog_13_method_21_code, 3, none, 11, 3)]
def MTs_5 : List MD := [(⟨RN 11, "begins", "(IJI)V"⟩, prog_13_method_22_code, 5, none, 11, 4), (⟨RN 11, "prices", "(J)I"⟩, prog_13_method_24_code, 5, (some .int), 11, 2), (⟨RN 11, "ask", "(IIII)I"⟩, prog_13_method_39_code, 9, (some .int), 11, 5), (⟨RN 11, "needs", "(II)V"⟩, prog_13_method_27_code, 3, none, 11, 3), (⟨RN 11, "nulls", "(II)V"⟩, prog_13_method_26_code, 3, none, 11, 3), (⟨RN 11, "goesOn", "(II)V"⟩, prog_13_method_30_code, 8, none, 11, 3), (⟨RN 11, "many", "(II)I"⟩, prog_13_method_28_code, 5, (some .int), 11, 3), (⟨RN 11, "rowKey", "(III)I"⟩, prog_13_method_29_code, 4, (some .int), 11, 4), (⟨RN 11, "comeBack", "()V"⟩, prog_13_method_37_code, 3, none, 11, 1), (⟨RN 11, "comesBack", "(I)V"⟩, prog_13_method_32_code, 7, none, 11, 2), (⟨RN 11, "isDown", "(II)Z"⟩, prog_13_method_6_code, 5, (some .boolean), 11, 3), (⟨RN 11, "opens", "(I)V"⟩, prog_13_method_31_code, 2, none, 11, 2), (⟨RN 11, "makes", "(I)V"⟩, prog_13_method_35_code, 4, none, 11, 2), (⟨RN 11, "first", "(I)I"⟩, prog_13_method_33_code, 3, (some .int), 11, 2), (⟨RN 11, "calls", "(II)V"⟩, prog_13_method_34_code, 6, none, 11, 3), (⟨RN 11, "ends", "()V"⟩, prog_13_method_38_code, 2, none, 11, 1), (⟨RN 11, "isOver", "()Z"⟩, prog_13_method_36_code, 3, (some .boolean), 11, 1), (⟨RN 11, "answers", "(II)V"⟩, prog_13_method_43_code, 8, none, 11, 3), (⟨RN 11, "saysNull", "(I)V"⟩, prog_13_method_41_code, 2, none, 11, 2), (⟨RN 11, "says", "(I)V"⟩, prog_13_method_40_code, 2, none, 11, 2)]
def MTs_6 : List MD := [(⟨RN 11, "isNull", "(II)Z"⟩, prog_13_method_42_code, 9, (some .boolean), 11, 3), (⟨RN 11, "dear", "()I"⟩, prog_13_method_44_code, 1, (some .int), 11, 1), (⟨RN 11, "answer", "(I)I"⟩, prog_13_method_45_code, 2, (some .int), 11, 2), (⟨RN 11, "call", "(II)I"⟩, prog_13_method_46_code, 3, (some .int), 11, 3), (⟨RN 11, "breaker", "(II)I"⟩, prog_13_method_47_code, 3, (some .int), 11, 3), (⟨RN 11, "kept", "(II)I"⟩, prog_13_method_48_code, 3, (some .int), 11, 3), (⟨RN 11, "count", "(I)I"⟩, prog_13_method_49_code, 4, (some .int), 11, 2), (⟨RN 12, "law", "([I)Z"⟩, code, 4, (some .boolean), 12, 1), (⟨RN 13, "min", "(II)I"⟩, prog_14_method_69_code, 2, (some .int), 13, 2), (⟨RN 13, "min", "(JJ)J"⟩, prog_14_method_70_code, 4, (some .long), 13, 2), (⟨RN 14, "fill", "([II)V"⟩, prog_15_method_103_code, 4, none, 14, 2)]
def MTs : List MD := MTs_0 ++ MTs_1 ++ MTs_2 ++ MTs_3 ++ MTs_4 ++ MTs_5 ++ MTs_6
def MTc : List MD := MTs.filter (fun e => !(e.2.2.2.2.1 == 12))
def MTw : List Jvm.Cond := MTc.map (fun e => Jvm.Cond.code e.1 e.2.1 e.2.2.1 e.2.2.2.1)
set_option maxRecDepth 100000 in
theorem MTw_eq : MTw = ([344, 626, 675, 679, 701, 714, 74, 559, 113, 503, 663, 705, 710, 106, 512, 696, 313, 580, 584, 588, 592, 597, 394, 617, 621, 630, 634, 638, 655, 659, 667, 671, 683, 688, 692, 719, 727, 785, 179, 642, 646, 651, 723, 250, 568, 439, 732, 736, 740, 744, 748, 266, 601, 605, 613, 66, 496, 499, 507, 516, 520, 524, 527, 531, 534, 540, 544, 548, 555, 564, 572, 576, 755, 759, 763, 767, 772, 777, 781, 791, 985, 988, 992, 997, 1001, 1005, 1008, 1012, 1018, 1022, 1026, 1030, 1034, 1038, 1042, 1046, 1050, 1054, 1058, 1062, 1066, 1070, 1076, 1080, 1084, 1088, 1092, 1096, 1100, 1104, 1108, 1112, 1116, 1120, 1124, 1128, 1132, 1136, 1140, 1144, 1148, 1152, 1156, 1160, 1164, 1168, 1172, 551, 609, 78] : List Nat).filterMap (fun i => lw_tbl[i]?) := rfl
theorem MT_code {e : MD} (h : e ∈ MTs) (hn : e.2.2.2.2.1 ≠ 12) : Jvm.Cond.code e.1 e.2.1 e.2.2.1 e.2.2.2.1 ∈ lw_tbl := by
  have h1 : e ∈ MTc := List.mem_filter.mpr ⟨h, by simp [hn]⟩
  have h2 : Jvm.Cond.code e.1 e.2.1 e.2.2.1 e.2.2.2.1 ∈ MTw := List.mem_map.mpr ⟨e, h1, rfl⟩
  rw [MTw_eq] at h2
  obtain ⟨i, -, hi⟩ := List.mem_filterMap.mp h2
  exact List.mem_of_getElem? hi
theorem MT_cls : ∀ e ∈ MTs, e.1.cls = RN e.2.2.2.2.1 := by decide +kernel
theorem MT_nL : ∀ e ∈ MTs, e.2.2.1 ≤ 20 := by decide +kernel
theorem MT_own : ∀ e ∈ MTs, e.2.2.2.2.1 ≤ 14 := by decide +kernel
theorem RN_plain : ∀ c, c ≤ 14 → c ≠ 13 → plainName (RN c) = true ∧ RN c ≠ "java/lang/invoke/MethodHandle" ∧ RN c ≠ "java/lang/invoke/VarHandle" := by decide +kernel
theorem RN_init : ∀ c, c ≤ 14 → Jvm.Cond.initialized (RN c) ∈ lw_tbl := by decide +kernel
-- (own class, index, method): how a call is linked
def MLT_0 : List (Nat × Nat × Nat) := [(12, 9, 55), (10, 11, 6), (1, 24, 130), (10, 18, 13), (10, 25, 38), (6, 52, 130), (10, 46, 16), (10, 62, 22), (10, 75, 45), (12, 13, 56), (10, 86, 57), (10, 111, 9), (12, 18, 58), (10, 118, 14), (12, 23, 59), (12, 28, 60), (12, 33, 61), (10, 147, 62), (12, 38, 63), (10, 154, 64), (12, 42, 65), (12, 46, 66), (12, 51, 67), (12, 55, 68), (10, 192, 7), (12, 60, 69), (10, 199, 44), (12, 65, 70), (12, 69, 71), (10, 202, 17), (4, 52, 18), (4, 56, 19), (4, 60, 20), (4, 67, 21), (10, 206, 52), (9, 37, 53), (10, 210, 54), (10, 214, 23), (5, 44, 24), (5, 78, 130)]
def MLT_1 : List (Nat × Nat × Nat) := [(5, 90, 1), (5, 51, 25), (5, 99, 26), (5, 102, 27), (5, 113, 39), (6, 58, 40), (5, 122, 41), (5, 55, 28), (5, 191, 29), (5, 194, 10), (5, 198, 30), (5, 211, 31), (5, 217, 2), (5, 220, 3), (5, 58, 32), (5, 62, 7), (5, 68, 33), (5, 151, 34), (5, 154, 15), (5, 158, 4), (5, 162, 11), (2, 40, 9), (2, 43, 12), (5, 172, 5), (5, 179, 35), (5, 182, 42), (5, 71, 36), (5, 223, 12), (10, 218, 46), (8, 34, 47), (8, 40, 48), (8, 44, 49), (8, 53, 50), (8, 65, 40), (8, 75, 39), (8, 81, 41), (12, 74, 72), (12, 78, 73), (12, 83, 74), (12, 87, 75)]
def MLT_2 : List (Nat × Nat × Nat) := [(10, 240, 5), (12, 92, 76), (10, 247, 10), (12, 96, 77), (12, 100, 78), (10, 259, 37), (12, 12, 79), (12, 17, 80), (11, 162, 81), (12, 22, 82), (12, 27, 83), (12, 32, 84), (12, 37, 85), (11, 170, 86), (12, 41, 87), (12, 45, 88), (12, 50, 89), (12, 54, 90), (12, 59, 91), (11, 179, 92), (12, 64, 93), (11, 186, 94), (12, 68, 95), (12, 77, 96), (11, 213, 97), (11, 201, 98), (11, 198, 99), (11, 205, 100), (11, 216, 101), (12, 73, 102), (11, 237, 103), (11, 226, 104), (11, 235, 105), (11, 240, 106), (11, 244, 107), (11, 266, 108), (11, 263, 109), (11, 248, 110), (11, 251, 111), (11, 269, 112)]
def MLT_3 : List (Nat × Nat × Nat) := [(11, 257, 113), (11, 261, 114), (11, 272, 115), (11, 275, 116), (11, 286, 117), (11, 295, 118), (11, 289, 119), (11, 292, 120), (12, 82, 121), (12, 86, 122), (12, 91, 123), (12, 95, 124), (12, 99, 125), (12, 103, 126)]
def MLT : List (Nat × Nat × Nat) := MLT_0 ++ MLT_1 ++ MLT_2 ++ MLT_3
def MNT_0 : List (Nat × Nat × Nat) := [(3, 27, 8), (10, 32, 43), (10, 39, 51), (10, 55, 0), (4, 63, 57), (3, 32, 57), (0, 43, 57), (5, 74, 57)]
def MNT : List (Nat × Nat × Nat) := MNT_0
def MMT_0 : List (Nat × Nat × Nat) := [(10, 183, 0), (1, 33, 0), (9, 43, 1), (6, 62, 0)]
def MMT : List (Nat × Nat × Nat) := MMT_0
def OIT_0 : List (Nat × Nat) := [(10, 3), (1, 3), (3, 3), (2, 3), (6, 3), (7, 3), (9, 3), (4, 3), (0, 3), (5, 3), (8, 3), (11, 3)]
def OIT : List (Nat × Nat) := OIT_0
def CLT_0 : List (Nat × Nat × Nat) := [(12, 7, 10), (10, 9, 1), (10, 16, 3), (3, 9, 2), (10, 23, 6), (10, 30, 7), (10, 37, 9), (10, 44, 4), (10, 53, 0), (10, 60, 5), (10, 69, 8), (12, 10, 11)]
def CLT : List (Nat × Nat × Nat) := CLT_0
def KIT_0 : List (Nat × Nat × Int32) := [(10, 114, 100000), (10, 157, -99999), (10, 158, 99999), (11, 155, 60000), (11, 169, 100000), (11, 174, -99999), (11, 175, 99999), (11, 222, 2000000000)]
def KIT : List (Nat × Nat × Int32) := KIT_0
def KLT_0 : List (Nat × Nat × Int32) := [(9, 41, 2000000000), (11, 220, 2000000000)]
def KLT : List (Nat × Nat × Int32) := KLT_0
def mD : MD := (⟨"", "", ""⟩, code, 0, none, 0, 0)
def mt (m : Nat) : MD := MTs.getD m mD
theorem MLT_ok : ∀ q ∈ MLT, Jvm.Cond.methodLink (RN q.1) q.2.1 (mt q.2.2).1 ∈ lw_tbl := by decide +kernel
theorem MNT_ok : ∀ q ∈ MNT, Jvm.Cond.methodLinkNest (RN q.1) q.2.1 (mt q.2.2).1 "AnswerDoor" ∈ lw_tbl := by decide +kernel
theorem MMT_ok : ∀ q ∈ MMT, Jvm.Cond.methodLink (RN q.1) q.2.1 (if q.2.2 = 0 then Lib.Math.min.name else Lib.MathLoose.min_long.x) ∈ lw_tbl := by decide +kernel
theorem MM_st : Jvm.Cond.static Lib.Math.min.name ∈ lw_tbl ∧ Jvm.Cond.static Lib.MathLoose.min_long.x ∈ lw_tbl ∧ Jvm.Cond.initialized "java/lang/Math" ∈ lw_tbl := by decide +kernel
set_option maxRecDepth 100000 in
theorem MM_c0 : Jvm.Cond.code Lib.Math.min.name Lib.Math.min.code 2 (some .int) ∈ lw_tbl := List.mem_of_getElem? (i := 551) rfl
set_option maxRecDepth 100000 in
theorem MM_c1 : Jvm.Cond.code Lib.MathLoose.min_long.x Lib.MathLoose.min_long.code 4 (some .long) ∈ lw_tbl := List.mem_of_getElem? (i := 609) rfl
theorem OIT_ok : ∀ q ∈ OIT, Jvm.Cond.methodLink (RN q.1) q.2 objectInit ∈ lw_tbl := by decide +kernel
theorem CLT_ok : ∀ q ∈ CLT, Jvm.Cond.classLink (RN q.1) q.2.1 (RN q.2.2) ∈ lw_tbl ∧ q.2.2 < 12 := by decide +kernel
theorem KIT_ok : ∀ q ∈ KIT, Jvm.Cond.constant (RN q.1) q.2.1 q.2.2 ∈ lw_tbl := by decide +kernel
theorem KLT_ok : ∀ q ∈ KLT, Jvm.Cond.constantLong (RN q.1) q.2.1 q.2.2.toInt64 ∈ lw_tbl := by decide +kernel
theorem INS_ok : ∀ c, c < 12 → Jvm.Cond.instantiable (RN c) (NN c) ∈ lw_tbl := by decide +kernel
def SMs : List Nat := [57, 62, 64, 81, 86, 130]
def VMs : List Nat := [1, 2, 3, 4, 5, 7, 9, 10, 11, 12, 14, 15, 17, 18, 19, 20, 21, 23, 24, 25, 26, 27, 28, 29, 30, 31, 32, 33, 34, 35, 36, 37, 39, 40, 41, 42, 44, 46, 47, 48, 49, 50, 52, 53, 54, 56, 58, 59, 60, 61, 63, 65, 66, 67, 68, 69, 70, 71, 72, 73, 74, 75, 76, 77, 78, 80, 82, 83, 84, 85, 87, 88, 89, 90, 91, 92, 93, 94, 95, 96, 97, 98, 99, 100, 101, 102, 103, 104, 105, 106, 107, 108, 109, 110, 111, 112, 113, 114, 115, 116, 117, 118, 119, 120, 121, 122, 123, 124, 125, 126]
def IMs : List Nat := [0, 6, 8, 13, 16, 22, 38, 43, 45, 51, 55, 79]
theorem SM_ok : ∀ m ∈ SMs, Jvm.Cond.static (mt m).1 ∈ lw_tbl := by decide +kernel
theorem VM_w1 : VMs.map (fun m => Jvm.Cond.instanceMethod (mt m).1) = ([624, 673, 677, 699, 712, 557, 501, 661, 703, 708, 510, 694, 578, 583, 587, 591, 596, 615, 620, 629, 633, 637, 654, 658, 666, 670, 682, 687, 691, 718, 726, 783, 640, 644, 649, 721, 566, 730, 735, 739, 743, 747, 599, 604, 611, 494, 505, 514, 518, 522, 529, 538, 542, 546, 553, 562, 570, 574, 753, 757, 761, 765, 770, 775, 779, 983, 990, 995, 999, 1003, 1010, 1016, 1020, 1024, 1028, 1033, 1036, 1041, 1044, 1048, 1053, 1057, 1061, 1065, 1069, 1074, 1079, 1083, 1087, 1091, 1095, 1099, 1103, 1107, 1111, 1115, 1119, 1123, 1127, 1131, 1135, 1139, 1143, 1147, 1150, 1154, 1158, 1162, 1166, 1170] : List Nat).filterMap (fun i => lw_tbl[i]?) := by decide +kernel
theorem VM_w2 : VMs.map (fun m => Jvm.Cond.selects (RN (mt m).2.2.2.2.1) (mt m).1 (mt m).1) = ([625, 674, 678, 700, 713, 558, 502, 662, 704, 709, 511, 695, 579, 0, 1, 2, 3, 616, 5, 6, 7, 8, 9, 10, 11, 12, 13, 14, 15, 16, 17, 784, 641, 645, 650, 722, 567, 731, 18, 19, 20, 21, 600, 4, 612, 495, 506, 515, 519, 523, 530, 539, 543, 547, 554, 563, 571, 575, 754, 758, 762, 766, 771, 776, 780, 984, 991, 996, 1000, 1004, 1011, 1017, 1021, 1025, 1029, 22, 1037, 23, 1045, 1049, 24, 25, 26, 27, 28, 1075, 29, 30, 31, 32, 33, 34, 35, 36, 37, 38, 39, 40, 41, 42, 43, 44, 45, 46, 1151, 1155, 1159, 1163, 1167, 1171] : List Nat).filterMap (fun i => lw_tbl[i]?) := by decide +kernel
theorem VM_ok : ∀ m ∈ VMs, Jvm.Cond.instanceMethod (mt m).1 ∈ lw_tbl ∧ Jvm.Cond.selects (RN (mt m).2.2.2.2.1) (mt m).1 (mt m).1 ∈ lw_tbl := fun m h => ⟨in_fm VM_w1 (List.mem_map.mpr ⟨m, h, rfl⟩), in_fm VM_w2 (List.mem_map.mpr ⟨m, h, rfl⟩)⟩
theorem IM_ok : ∀ m ∈ IMs, Jvm.Cond.instanceMethod (mt m).1 ∈ lw_tbl ∧ (mt m).1.name = "<init>" ∧ (mt m).2.2.2.1 = none := by decide +kernel
theorem OI_ok : Jvm.Cond.instanceMethod objectInit ∈ lw_tbl := by decide +kernel
theorem SM_na : ∀ m ∈ SMs, (parseMethodDescriptor (mt m).1.desc).map (fun d => d.parameters.length) = some (mt m).2.2.2.2.2 := by decide +kernel
theorem VM_na : ∀ m ∈ VMs ++ IMs, (parseMethodDescriptor (mt m).1.desc).map (fun d => d.parameters.length) = some ((mt m).2.2.2.2.2 - 1) ∧ 0 < (mt m).2.2.2.2.2 := by decide +kernel
theorem OI_code : Jvm.Cond.code objectInit ⟨#[0xb1]⟩ 1 none ∈ lw_tbl := List.mem_of_getElem? (i := 69) rfl
theorem AR_ok : Jvm.Cond.arrayClass .byte ∈ lw_tbl ∧ Jvm.Cond.arrayClass .int ∈ lw_tbl ∧ Jvm.Cond.arrayClass .long ∈ lw_tbl ∧ Jvm.Cond.arrayClass .boolean ∈ lw_tbl ∧ Jvm.Cond.arrayOver (.object (RN 2)) ∈ lw_tbl := by decide +kernel
def GT : List Jvm.Cond := lw_tbl.filter goodWord
theorem GT_in {w : Jvm.Cond} (h : w ∈ lw_tbl) (hg : goodWord w = true) : w ∈ GT := List.mem_filter.mpr ⟨h, hg⟩
end
section
/-! ===== a small machine over a world of numbered cells: what it does, the bytecode does (part 04) ===== -/
/-- an instruction with what its links say: instruction, length, a, b, kind, a number -/
abbrev RI : Type := Instr × Nat × Nat × Nat × Nat × Int32
/-- the world: each cell's kind (0 to 11 an object of that class, 12 byte[], 13 int[], 14 long[], 15 boolean[], 16 Helper[]) and size; ints, longs, references by cell and place -/
abbrev Sto : Type := List (Nat × Nat) × (Nat → Nat → Int32) × (Nat → Nat → Int64) × (Nat → Nat → Option Nat)
def up2 {α : Type} (f : Nat → Nat → α) (k i : Nat) (v : α) : Nat → Nat → α := va_up f k (va_up (f k) i v)
abbrev CF : Type := Nat × List (Nat × Value) × List Value × Sto × Nat × Nat
def lget : List (Nat × Value) → Nat → Option Value
  | [], _ => none
  | (j, v) :: t, i => match Nat.beq j i with
    | true => some v
    | false => lget t i
def lput1 (lv : List (Nat × Value)) (i : Nat) (v : Value) : List (Nat × Value) := (i, v) :: lv.filter (fun q => !(q.1 == i) && !(q.1 + 1 == i && q.2.category == 2))
def lput2 (lv : List (Nat × Value)) (i : Nat) (v : Value) : List (Nat × Value) := (i, v) :: lv.filter (fun q => !(q.1 == i) && (!(q.1 == i + 1) && !(q.1 + 1 == i && q.2.category == 2)))
def cats (st : List Value) : Nat := (st.map fun v => v.category).sum
/-- the condition of a branch, as the kit's rows have it -/
def cmpC (c : Jvm.ClassFile.Cond) (x y : Int32) : Prop := match c with
  | .eq => x = y
  | .ne => ¬ x = y
  | .lt => x < y
  | .ge => y ≤ x
  | .gt => y < x
  | .le => x ≤ y
/-- where a switch goes -/
def swT (ins : Instr) (pc : Nat) (x : Int) : Option Int := match ins with
  | .tableswitch d lo hi offs => if x < lo ∨ hi < x then some ((pc : Int) + d) else (offs[(x - lo).toNat]?).map (fun o => (pc : Int) + o)
  | .lookupswitch d ps => some ((pc : Int) + Op.lookupswitch.offset ps.toList d x)
  | _ => none
def fvG (S : Sto) (kd k f : Nat) : Value := match kd with
  | 0 => .int (S.2.1 k f)
  | 1 => .long (S.2.2.1 k f)
  | _ => va_rf (S.2.2.2 k f)
def okO (S : Sto) (k c : Nat) : Prop := S.1[k]? = some (c, NN c)
def okA (S : Sto) (k c : Nat) (i : Int32) : Prop := ∃ n, S.1[k]? = some (c, n) ∧ vp_in i n
def zfit (c f : Nat) (x : Int32) : Prop := narrow (tyN c f) (.int x) = .int x ∧ fits (tyN c f) (.int x) = true
def setI (S : Sto) (k i : Nat) (x : Int32) : Sto := (S.1, up2 S.2.1 k i x, S.2.2.1, S.2.2.2)
def setL (S : Sto) (k i : Nat) (x : Int64) : Sto := (S.1, S.2.1, up2 S.2.2.1 k i x, S.2.2.2)
def setR (S : Sto) (k i : Nat) (x : Option Nat) : Sto := (S.1, S.2.1, S.2.2.1, up2 S.2.2.2 k i x)
/-- a new cell of kind c and size n -/
def newC (S : Sto) (c n : Nat) : Sto := (S.1 ++ [(c, n)], va_up S.2.1 S.1.length (fun _ => 0), va_up S.2.2.1 S.1.length (fun _ => 0), va_up S.2.2.2 S.1.length (fun _ => none))
/-- one instruction that goes on to the next: what comes, and what must hold for it -/
def sx (nL : Nat) (Z : Option (Nat × (Nat → Int32))) (cp : Nat × Nat) (q : RI) (pc : Nat) (lv : List (Nat × Value)) (st : List Value) (S : Sto) (kc ks : Nat) : Option (CF × Prop) :=
  let v := q.2.2.2.2.2
  let a := q.2.2.1
  let b := q.2.2.2.1
  match q.1 with
  | .iconst _ => some ((pc + 1, lv, .int v :: st, S, kc, ks), True)
  | .bipush _ => some ((pc + 2, lv, .int v :: st, S, kc, ks), True)
  | .sipush _ => some ((pc + 3, lv, .int v :: st, S, kc, ks), True)
  | .ldc _ => some ((pc + 2, lv, .int v :: st, S, kc, ks), True)
  | .lconst _ => some ((pc + 1, lv, .long v.toInt64 :: st, S, kc, ks), True)
  | .ldc2_w _ => some ((pc + 3, lv, .long v.toInt64 :: st, S, kc, ks), True)
  | .iload_n k => match lget lv k with
    | some (.int x) => some ((pc + 1, lv, .int x :: st, S, kc, ks), True)
    | _ => none
  | .iload k => match lget lv k with
    | some (.int x) => some ((pc + 2, lv, .int x :: st, S, kc, ks), True)
    | _ => none
  | .lload_n k => match lget lv k with
    | some (.long x) => some ((pc + 1, lv, .long x :: st, S, kc, ks), True)
    | _ => none
  | .aload_n k => match lget lv k with
    | some (.ref x) => some ((pc + 1, lv, .ref x :: st, S, kc, ks), True)
    | some (.retAddr x) => some ((pc + 1, lv, .retAddr x :: st, S, kc, ks), True)
    | _ => none
  | .aload k => match lget lv k with
    | some (.ref x) => some ((pc + 2, lv, .ref x :: st, S, kc, ks), True)
    | _ => none
  | .istore_n k => match st with
    | .int x :: r => some ((pc + 1, lput1 lv k (.int x), r, S, kc, ks), (k : Nat) < nL)
    | _ => none
  | .istore k => match st with
    | .int x :: r => some ((pc + 2, lput1 lv k (.int x), r, S, kc, ks), k < nL)
    | _ => none
  | .lstore_n k => match st with
    | .long x :: r => some ((pc + 1, lput2 lv k (.long x), r, S, kc, ks), (k : Nat) + 1 < nL)
    | _ => none
  | .astore_n k => match st with
    | .ref x :: r => some ((pc + 1, lput1 lv k (.ref x), r, S, kc, ks), (k : Nat) < nL)
    | _ => none
  | .astore k => match st with
    | .ref x :: r => some ((pc + 2, lput1 lv k (.ref x), r, S, kc, ks), k < nL)
    | _ => none
  | .iinc i _ => match lget lv i with
    | some (.int x) => some ((pc + 3, lput1 lv i (.int (x + v)), st, S, kc, ks), i < nL)
    | _ => none
  | .iadd => match st with
    | .int y :: .int x :: r => some ((pc + 1, lv, .int (x + y) :: r, S, kc, ks), True)
    | _ => none
  | .isub => match st with
    | .int y :: .int x :: r => some ((pc + 1, lv, .int (x - y) :: r, S, kc, ks), True)
    | _ => none
  | .imul => match st with
    | .int y :: .int x :: r => some ((pc + 1, lv, .int (x * y) :: r, S, kc, ks), True)
    | _ => none
  | .iand => match st with
    | .int y :: .int x :: r => some ((pc + 1, lv, .int (x &&& y) :: r, S, kc, ks), True)
    | _ => none
  | .ior => match st with
    | .int y :: .int x :: r => some ((pc + 1, lv, .int (x ||| y) :: r, S, kc, ks), True)
    | _ => none
  | .ishl => match st with
    | .int y :: .int x :: r => some ((pc + 1, lv, .int (x <<< (y &&& 31)) :: r, S, kc, ks), True)
    | _ => none
  | .ishr => match st with
    | .int y :: .int x :: r => some ((pc + 1, lv, .int (x >>> (y &&& 31)) :: r, S, kc, ks), True)
    | _ => none
  | .iushr => match st with
    | .int y :: .int x :: r => some ((pc + 1, lv, .int (x.toUInt32 >>> (y.toUInt32 &&& Int32.toUInt32 31)).toInt32 :: r, S, kc, ks), True)
    | _ => none
  | .idiv => match st with
    | .int y :: .int x :: r => some ((pc + 1, lv, .int (x / y) :: r, S, kc, ks), ¬ y = 0)
    | _ => none
  | .irem => match st with
    | .int y :: .int x :: r => some ((pc + 1, lv, .int (x - x / y * y) :: r, S, kc, ks), ¬ y = 0)
    | _ => none
  | .ladd => match st with
    | .long y :: .long x :: r => some ((pc + 1, lv, .long (x + y) :: r, S, kc, ks), True)
    | _ => none
  | .lmul => match st with
    | .long y :: .long x :: r => some ((pc + 1, lv, .long (x * y) :: r, S, kc, ks), True)
    | _ => none
  | .lcmp => match st with
    | .long y :: .long x :: r => some ((pc + 1, lv, .int (lg_cmp x y) :: r, S, kc, ks), True)
    | _ => none
  | .i2l => match st with
    | .int x :: r => some ((pc + 1, lv, .long x.toInt64 :: r, S, kc, ks), True)
    | _ => none
  | .l2i => match st with
    | .long x :: r => some ((pc + 1, lv, .int x.toInt32 :: r, S, kc, ks), True)
    | _ => none
  | .i2b => match st with
    | .int x :: r => some ((pc + 1, lv, .int x.toInt8.toInt32 :: r, S, kc, ks), True)
    | _ => none
  | .dup => match st with
    | x :: r => some ((pc + 1, lv, x :: x :: r, S, kc, ks), x.category = 1)
    | _ => none
  | .dup2 => match st with
    | x :: y :: r => some ((pc + 1, lv, x :: y :: x :: y :: r, S, kc, ks), x.category = 1 ∧ y.category = 1)
    | _ => none
  | .pop => match st with
    | x :: r => some ((pc + 1, lv, r, S, kc, ks), x.category = 1)
    | _ => none
  | .getfield _ => match st with
    | .ref k :: r => some ((pc + 3, lv, fvG S q.2.2.2.2.1 k b :: r, S, kc, ks), okO S k a)
    | _ => none
  | .putfield _ => match q.2.2.2.2.1, st with
    | 0, .int x :: .ref k :: r => some ((pc + 3, lv, r, setI S k b x, kc, ks), okO S k a ∧ zfit a b x)
    | 1, .long x :: .ref k :: r => some ((pc + 3, lv, r, setL S k b x, kc, ks), okO S k a)
    | 2, .ref x :: .ref k :: r => some ((pc + 3, lv, r, setR S k b (some x), kc, ks), okO S k a)
    | _, _ => none
  | .iaload => match a, st with
    | 0, .int i :: .ref k :: r => some ((pc + 1, lv, .int (S.2.1 k i.toNatClampNeg) :: r, S, kc, ks), okA S k 13 i)
    | 1, .int i :: .retAddr _ :: r => match Z with
      | some (n, xs) => some ((pc + 1, lv, .int (xs i.toNatClampNeg) :: r, S, kc, ks), vp_in i n)
      | none => none
    | _, _ => none
  | .baload => match st with
    | .int i :: .ref k :: r => some ((pc + 1, lv, .int (S.2.1 k i.toNatClampNeg) :: r, S, kc, ks), okA S k a i)
    | _ => none
  | .laload => match st with
    | .int i :: .ref k :: r => some ((pc + 1, lv, .long (S.2.2.1 k i.toNatClampNeg) :: r, S, kc, ks), okA S k 14 i)
    | _ => none
  | .aaload => match st with
    | .int i :: .ref k :: r => some ((pc + 1, lv, va_rf (S.2.2.2 k i.toNatClampNeg) :: r, S, kc, ks), okA S k 16 i)
    | _ => none
  | .iastore => match st with
    | .int x :: .int i :: .ref k :: r => some ((pc + 1, lv, r, setI S k i.toNatClampNeg x, kc, ks), okA S k 13 i)
    | _ => none
  | .bastore => match a, st with
    | 12, .int x :: .int i :: .ref k :: r => some ((pc + 1, lv, r, setI S k i.toNatClampNeg (vp_nar .byte x), kc, ks), okA S k 12 i)
    | 15, .int x :: .int i :: .ref k :: r => some ((pc + 1, lv, r, setI S k i.toNatClampNeg (vp_nar .boolean x), kc, ks), okA S k 15 i)
    | _, _ => none
  | .lastore => match st with
    | .long x :: .int i :: .ref k :: r => some ((pc + 1, lv, r, setL S k i.toNatClampNeg x, kc, ks), okA S k 14 i)
    | _ => none
  | .aastore => match st with
    | .ref x :: .int i :: .ref k :: r => some ((pc + 1, lv, r, setR S k i.toNatClampNeg (some x), kc, ks), okA S k 16 i ∧ okO S x 2)
    | _ => none
  | .arraylength => match a, st with
    | 0, .ref k :: r => match S.1[k]? with
      | some (c, n) => some ((pc + 1, lv, .int (Int32.ofNat n) :: r, S, kc, ks), c = 13)
      | none => none
    | 1, .retAddr _ :: r => match Z with
      | some (n, _) => some ((pc + 1, lv, .int (Int32.ofNat n) :: r, S, kc, ks), True)
      | none => none
    | _, _ => none
  | .new _ => some ((pc + 3, lv, .ref S.1.length :: st, newC S a (NN a), kc + 1, ks + NN a), kc + 1 ≤ cp.1 ∧ ks + NN a ≤ cp.2)
  | .newarray _ => match st with
    | .int n :: r => some ((pc + 2, lv, .ref S.1.length :: r, newC S a n.toNatClampNeg, kc + 1, ks + n.toNatClampNeg), ¬ n < 0 ∧ n.toNatClampNeg ≤ 60000000 ∧ kc + 1 ≤ cp.1 ∧ ks + n.toNatClampNeg ≤ cp.2)
    | _ => none
  | .anewarray _ => match st with
    | .int n :: r => some ((pc + 3, lv, .ref S.1.length :: r, newC S 16 n.toNatClampNeg, kc + 1, ks + n.toNatClampNeg), ¬ n < 0 ∧ n.toNatClampNeg ≤ 60000000 ∧ kc + 1 ≤ cp.1 ∧ ks + n.toNatClampNeg ≤ cp.2)
    | _ => none
  | .invokestatic _ => match b, st with
    | 2, .int y :: .int x :: r => some ((pc + 3, lv, .int (if y < x then y else x) :: r, S, kc, ks), cats r ≤ 8)
    | 3, .long y :: .long x :: r => some ((pc + 3, lv, .long (if y < x then y else x) :: r, S, kc, ks), cats r ≤ 8)
    | _, _ => none
  | .invokespecial _ => match b, st with
    | 4, .ref _ :: r => some ((pc + 3, lv, r, S, kc, ks), cats r ≤ 8)
    | _, _ => none
  | _ => none
/-- what the tables must say of an instruction (own: the class, ini: a constructor), and where a jump goes -/
def lnkB (own : Nat) (ini : Bool) (pc : Nat) (q : RI) : Bool :=
  let v := q.2.2.2.2.2
  let a := q.2.2.1
  let b := q.2.2.2.1
  let d := q.2.2.2.2.1
  match q.1 with
  | .iconst n => decide (Int32.ofInt n = v) && decide (q.2.1 = 1)
  | .bipush n => decide ((Int8.ofInt n).toInt32 = v) && decide (q.2.1 = 2)
  | .sipush n => decide ((Int16.ofInt n).toInt32 = v) && decide (q.2.1 = 3)
  | .lconst n => decide (Int64.ofNat (n : Nat) = v.toInt64) && decide (q.2.1 = 1)
  | .ldc i => decide ((own, i, v) ∈ KIT) && decide (q.2.1 = 2)
  | .ldc2_w i => decide ((own, i, v) ∈ KLT) && decide (q.2.1 = 3)
  | .iinc _ n => decide (Int32.ofInt n = v) && decide (q.2.1 = 3)
  | .getfield i => decide ((own, i, a, b) ∈ FLT) && decide (tyK a b = d) && decide (q.2.1 = 3)
  | .putfield i => decide ((own, i, a, b) ∈ FLT) && decide (tyK a b = d) && decide (q.2.1 = 3) && (!(TN a b).2.2.2 || (ini && decide (own = a)))
  | .baload => (decide (a = 12) || decide (a = 15)) && decide (q.2.1 = 1)
  | .if_icmp _ o => decide ((pc : Int) + o = (a : Int)) && decide (q.2.1 = 3)
  | .ifCond _ o => decide ((pc : Int) + o = (a : Int)) && decide (q.2.1 = 3)
  | .goto o => decide ((pc : Int) + o = (a : Int)) && decide (q.2.1 = 3)
  | .lookupswitch _ ps => (ps.toList.zip (ps.toList.drop 1)).all (fun (x, y) => x.1 < y.1)
  | .new i => decide ((own, i, a) ∈ CLT) && decide (q.2.1 = 3)
  | .newarray t => decide (q.2.1 = 2) && (match t with
    | .byte => decide (a = 12)
    | .int => decide (a = 13)
    | .long => decide (a = 14)
    | .boolean => decide (a = 15)
    | _ => false)
  | .anewarray i => decide ((own, i, 2) ∈ CLT) && decide (q.2.1 = 3)
  | .invokestatic i => decide (q.2.1 = 3) && (match b with
    | 0 => decide ((own, i, a) ∈ MLT) && decide (a ∈ SMs)
    | 1 => decide ((own, i, a) ∈ MNT) && decide (a ∈ SMs)
    | 2 => decide ((own, i, 0) ∈ MMT)
    | 3 => decide ((own, i, 1) ∈ MMT)
    | _ => false)
  | .invokevirtual i => decide (q.2.1 = 3) && decide ((own, i, a) ∈ MLT) && decide (a ∈ VMs) && decide (b = 0)
  | .invokespecial i => decide (q.2.1 = 3) && (match b with
    | 0 => decide ((own, i, a) ∈ MLT) && decide (a ∈ IMs)
    | 1 => decide ((own, i, a) ∈ MNT) && decide (a ∈ IMs)
    | 4 => decide ((own, i) ∈ OIT)
    | _ => false)
  | .iload _ => decide (q.2.1 = 2)
  | .aload _ => decide (q.2.1 = 2)
  | .istore _ => decide (q.2.1 = 2)
  | .astore _ => decide (q.2.1 = 2)
  | .tableswitch .. => true
  | _ => decide (q.2.1 = 1)
/-- what may be said of a method's run: from these arguments and this world it ends, within so many new cells and slots, with an answer and a world of which Post holds -/
abbrev EX : Type := Nat → List Value → Sto → Nat → Nat → (Option Value → Sto → Prop) → Prop
abbrev PP : Type := Nat → List (Nat × Value) → List Value → Sto → Nat → Nat → Prop
/-- one step of the machine, P being what holds behind it -/
def RuleI (E : EX) (nL : Nat) (rt : Option FieldType) (Z : Option (Nat × (Nat → Int32))) (cp : Nat × Nat) (Post : Option Value → Sto → Prop) (P : PP) (q : RI) (pc : Nat) (lv : List (Nat × Value)) (st : List Value) (S : Sto) (kc ks : Nat) : Prop :=
  match q.1 with
  | .if_icmp cd _ => ∃ x y r, st = .int y :: .int x :: r ∧ (cmpC cd x y → P q.2.2.1 lv r S kc ks) ∧ (¬ cmpC cd x y → P (pc + 3) lv r S kc ks)
  | .ifCond cd _ => ∃ x r, st = .int x :: r ∧ (cmpC cd x 0 → P q.2.2.1 lv r S kc ks) ∧ (¬ cmpC cd x 0 → P (pc + 3) lv r S kc ks)
  | .goto _ => P q.2.2.1 lv st S kc ks
  | .tableswitch d lo hi offs => ∃ (x : Int32) (r : List Value) (t : Nat), st = .int x :: r ∧ swT (.tableswitch d lo hi offs) pc x.toInt = some (t : Int) ∧ P t lv r S kc ks
  | .lookupswitch d ps => ∃ (x : Int32) (r : List Value) (t : Nat), st = .int x :: r ∧ swT (.lookupswitch d ps) pc x.toInt = some (t : Int) ∧ P t lv r S kc ks
  | .ireturn => ∃ v ty, st = [.int v] ∧ rt = some ty ∧ narrow ty (.int v) = .int v ∧ Post (some (.int v)) S
  | .lreturn => ∃ v, st = [.long v] ∧ rt = some .long ∧ Post (some (.long v)) S
  | .return_ => st = [] ∧ rt = none ∧ Post none S
  | .invokevirtual _ => ∃ k As rest mc ms, st = As.reverse ++ .ref k :: rest ∧ As.length + 1 = (mt q.2.2.1).2.2.2.2.2 ∧ okO S k (mt q.2.2.1).2.2.2.2.1 ∧ cats rest ≤ 8 ∧ kc + mc ≤ cp.1 ∧ ks + ms ≤ cp.2 ∧ E q.2.2.1 (.ref k :: As) S mc ms (fun r S1 => P (pc + 3) lv (r.toList ++ rest) S1 (kc + mc) (ks + ms))
  | i => (∃ (c' : CF) (O : Prop), sx nL Z cp q pc lv st S kc ks = some (c', O) ∧ O ∧ P c'.1 c'.2.1 c'.2.2.1 c'.2.2.2.1 c'.2.2.2.2.1 c'.2.2.2.2.2) ∨
      (match i with
        | .invokestatic _ => q.2.2.2.1 ≤ 1 ∧ ∃ As rest mc ms, st = As.reverse ++ rest ∧ As.length = (mt q.2.2.1).2.2.2.2.2 ∧ cats rest ≤ 8 ∧ kc + mc ≤ cp.1 ∧ ks + ms ≤ cp.2 ∧ E q.2.2.1 As S mc ms (fun r S1 => P (pc + 3) lv (r.toList ++ rest) S1 (kc + mc) (ks + ms))
        | .invokespecial _ => q.2.2.2.1 ≤ 1 ∧ ∃ k As rest mc ms, st = As.reverse ++ .ref k :: rest ∧ As.length + 1 = (mt q.2.2.1).2.2.2.2.2 ∧ cats rest ≤ 8 ∧ kc + mc ≤ cp.1 ∧ ks + ms ≤ cp.2 ∧ E q.2.2.1 (.ref k :: As) S mc ms (fun r S1 => P (pc + 3) lv (r.toList ++ rest) S1 (kc + mc) (ks + ms))
        | _ => False)
def Clo (E : EX) (cc : ByteArray) (own : Nat) (ini : Bool) (nL : Nat) (rt : Option FieldType) (Z : Option (Nat × (Nat → Int32))) (cp : Nat × Nat) (Post : Option Value → Sto → Prop) (P : PP) : Prop :=
  ∀ pc lv st S kc ks, (∃ q : RI, decode cc pc = .ok (q.1, q.2.1) ∧ lnkB own ini pc q = true ∧ RuleI E nL rt Z cp Post P q pc lv st S kc ks) → P pc lv st S kc ks
/-- from here the method's frame ends well -/
def Runs (E : EX) (cc : ByteArray) (own : Nat) (ini : Bool) (nL : Nat) (rt : Option FieldType) (Z : Option (Nat × (Nat → Int32))) (cp : Nat × Nat) (Post : Option Value → Sto → Prop) : PP :=
  fun pc lv st S kc ks => ∀ P : PP, Clo E cc own ini nL rt Z cp Post P → P pc lv st S kc ks
def isIni (m : Nat) : Bool := decide (m ∈ IMs)
/-- a call of method m, calls nested at most d deep in it -/
def Ex : Nat → EX
  | 0 => fun _ _ _ _ _ _ => False
  | d + 1 => fun m As S mc ms Post => m ∈ SMs ++ (VMs ++ IMs) ∧ cats As ≤ (mt m).2.2.1 ∧ Runs (Ex d) (mt m).2.1 (mt m).2.2.2.2.1 (isIni m) (mt m).2.2.1 (mt m).2.2.2.1 none (mc, ms) Post 0 (lv_args 0 As) [] S 0 0
/-! ===== what may be weakened ===== -/
theorem RuleI.mono {E : EX} {nL : Nat} {rt : Option FieldType} {Z : Option (Nat × (Nat → Int32))} {cp : Nat × Nat} {Post Post' : Option Value → Sto → Prop} {P P' : PP} {q : RI} {pc : Nat} {lv : List (Nat × Value)} {st : List Value} {S : Sto} {kc ks : Nat}
    (hE : ∀ m As S mc ms (A B : Option Value → Sto → Prop), (∀ r S', A r S' → B r S') → E m As S mc ms A → E m As S mc ms B) (hQ : ∀ r S', Post r S' → Post' r S') (hP : ∀ pc lv st S kc ks, P pc lv st S kc ks → P' pc lv st S kc ks)
    (h : RuleI E nL rt Z cp Post P q pc lv st S kc ks) : RuleI E nL rt Z cp Post' P' q pc lv st S kc ks := by
  obtain ⟨i, q2⟩ := q
  cases i
  case if_icmp cd o =>
    obtain ⟨x, y, r, h1, h2, h3⟩ := h
    exact ⟨x, y, r, h1, fun c => hP _ _ _ _ _ _ (h2 c), fun c => hP _ _ _ _ _ _ (h3 c)⟩
  case ifCond cd o =>
    obtain ⟨x, r, h1, h2, h3⟩ := h
    exact ⟨x, r, h1, fun c => hP _ _ _ _ _ _ (h2 c), fun c => hP _ _ _ _ _ _ (h3 c)⟩
  case goto o => exact hP _ _ _ _ _ _ h
  case tableswitch =>
    obtain ⟨x, r, t, h1, h2, h3⟩ := h
    exact ⟨x, r, t, h1, h2, hP _ _ _ _ _ _ h3⟩
  case lookupswitch =>
    obtain ⟨x, r, t, h1, h2, h3⟩ := h
    exact ⟨x, r, t, h1, h2, hP _ _ _ _ _ _ h3⟩
  case ireturn =>
    obtain ⟨v, ty, h1, h2, h3, h4⟩ := h
    exact ⟨v, ty, h1, h2, h3, hQ _ _ h4⟩
  case lreturn =>
    obtain ⟨v, h1, h2, h3⟩ := h
    exact ⟨v, h1, h2, hQ _ _ h3⟩
  case return_ => exact ⟨h.1, h.2.1, hQ _ _ h.2.2⟩
  case invokevirtual =>
    obtain ⟨k, As, rest, mc, ms, h1, h2, h3, h4, h5, h6, h7⟩ := h
    exact ⟨k, As, rest, mc, ms, h1, h2, h3, h4, h5, h6, hE _ _ _ _ _ _ _ (fun r S' => hP _ _ _ _ _ _) h7⟩
  case invokestatic =>
    rcases h with ⟨c', O, h1, h2, h3⟩ | h
    · exact Or.inl ⟨c', O, h1, h2, hP _ _ _ _ _ _ h3⟩
    · obtain ⟨h0, As, rest, mc, ms, h1, h2, h4, h5, h6, h7⟩ := h
      exact Or.inr ⟨h0, As, rest, mc, ms, h1, h2, h4, h5, h6, hE _ _ _ _ _ _ _ (fun r S' => hP _ _ _ _ _ _) h7⟩
  case invokespecial =>
    rcases h with ⟨c', O, h1, h2, h3⟩ | h
    · exact Or.inl ⟨c', O, h1, h2, hP _ _ _ _ _ _ h3⟩
    · obtain ⟨h0, k, As, rest, mc, ms, h1, h2, h4, h5, h6, h7⟩ := h
      exact Or.inr ⟨h0, k, As, rest, mc, ms, h1, h2, h4, h5, h6, hE _ _ _ _ _ _ _ (fun r S' => hP _ _ _ _ _ _) h7⟩
  all_goals
    rcases h with ⟨c', O, h1, h2, h3⟩ | h
    · exact Or.inl ⟨c', O, h1, h2, hP _ _ _ _ _ _ h3⟩
    · exact False.elim h
theorem Runs.mono {E : EX} {cc : ByteArray} {own : Nat} {ini : Bool} {nL : Nat} {rt : Option FieldType} {Z : Option (Nat × (Nat → Int32))} {cp : Nat × Nat} {Post Post' : Option Value → Sto → Prop}
    (hE : ∀ m As S mc ms (A B : Option Value → Sto → Prop), (∀ r S', A r S' → B r S') → E m As S mc ms A → E m As S mc ms B) (hQ : ∀ r S', Post r S' → Post' r S') {pc lv st S kc ks} (h : Runs E cc own ini nL rt Z cp Post pc lv st S kc ks) : Runs E cc own ini nL rt Z cp Post' pc lv st S kc ks := by
  intro P hP
  refine h P ?_
  intro pc lv st S kc ks hq
  obtain ⟨q, h1, h2, h3⟩ := hq
  exact hP _ _ _ _ _ _ ⟨q, h1, h2, h3.mono hE hQ (fun _ _ _ _ _ _ h => h)⟩
theorem Ex.mono : ∀ (d : Nat) (m : Nat) (As : List Value) (S : Sto) (mc ms : Nat) (A B : Option Value → Sto → Prop), (∀ r S', A r S' → B r S') → Ex d m As S mc ms A → Ex d m As S mc ms B
  | 0 => fun _ _ _ _ _ _ _ _ h => h
  | d + 1 => fun m As S mc ms A B hAB h => ⟨h.1, h.2.1, h.2.2.mono (Ex.mono d) hAB⟩
/-- a step -/
theorem Runs.step {d : Nat} {cc : ByteArray} {own : Nat} {ini : Bool} {nL : Nat} {rt : Option FieldType} {Z : Option (Nat × (Nat → Int32))} {cp : Nat × Nat} {Post : Option Value → Sto → Prop} {pc lv st S kc ks} (q : RI) (h1 : decode cc pc = .ok (q.1, q.2.1)) (h2 : lnkB own ini pc q = true)
    (h : RuleI (Ex d) nL rt Z cp Post (Runs (Ex d) cc own ini nL rt Z cp Post) q pc lv st S kc ks) : Runs (Ex d) cc own ini nL rt Z cp Post pc lv st S kc ks := by
  intro P hP
  exact hP _ _ _ _ _ _ ⟨q, h1, h2, h.mono (Ex.mono d) (fun _ _ h => h) (fun pc lv st S kc ks h => h P hP)⟩
end
section
/-! ===== the small machine's world in the heap: cell k lies at base + k ===== -/
def cv (base b : Nat) (v : Value) : Value := match v with
  | .ref k => .ref (base + k)
  | .retAddr _ => .ref b
  | v => v
def arrC (base : Nat) (S : Sto) (k c : Nat) : (Nat → Int32) ⊕ (Nat → Int64) ⊕ (Nat → UInt32) ⊕ (Nat → UInt64) ⊕ (Nat → Option Nat) :=
  if c = 14 then .inr (.inl (S.2.2.1 k)) else if c = 16 then .inr (.inr (.inr (.inr (fun i => (S.2.2.2 k i).map (base + ·))))) else .inl (S.2.1 k)
def cellOK (D : va_G) (cy : Nat → ClassId) (base b : Nat) (S : Sto) (k c n : Nat) (H : Heap) : Prop :=
  if c < 12 then n = NN c ∧ t_OB (base + k) (D.1 c) (NN c) (D.2 c) H (fun j => cv base b (fvG S (tyK c j) k j)) else H[base + k]? = some (vp_cell (cy c) (n, arrC base S k c))
def gW (D : va_G) (cy : Nat → ClassId) (base b : Nat) (S : Sto) (H : Heap) : Prop := H.size = base + S.1.length ∧ ∀ k c n, S.1[k]? = some (c, n) → cellOK D cy base b S k c n H
def tysOf (cy : Nat → ClassId) : List (ClassId × FieldType) := [(cy 12, .byte), (cy 13, .int), (cy 14, .long), (cy 15, .boolean), (cy 16, .object (RN 2))]
theorem cellOK.kept {D : va_G} {cy : Nat → ClassId} {base b : Nat} {S S' : Sto} {k c n : Nat} {H H' : Heap} (h : cellOK D cy base b S k c n H) (h1 : S'.2.1 k = S.2.1 k) (h2 : S'.2.2.1 k = S.2.2.1 k) (h3 : S'.2.2.2 k = S.2.2.2 k) (hq : H'[base + k]? = H[base + k]?) : cellOK D cy base b S' k c n H' := by
  unfold cellOK at h ⊢
  split at h
  · next hc =>
    rw [if_pos hc]
    refine ⟨h.1, (h.2.kept hq).to (fun j _ => ?_)⟩
    simp only [fvG, h1, h2, h3]
  · next hc =>
    rw [if_neg hc, hq, h]
    simp only [arrC, h1, h2, h3]
theorem gW.upd {D : va_G} {cy : Nat → ClassId} {base b : Nat} {S S' : Sto} {k : Nat} {H H' : Heap} (hG : gW D cy base b S H) (h1 : S'.1 = S.1) (ho : ∀ k', k' ≠ k → S'.2.1 k' = S.2.1 k' ∧ S'.2.2.1 k' = S.2.2.1 k' ∧ S'.2.2.2 k' = S.2.2.2 k') (z : H'.size = H.size) (oq : ∀ q : Nat, q ≠ base + k → H'[q]? = H[q]?)
    (hc : ∀ c n, S.1[k]? = some (c, n) → cellOK D cy base b S' k c n H') : gW D cy base b S' H' := by
  refine ⟨by rw [z, h1]; exact hG.1, fun k' c n hk => ?_⟩
  rw [h1] at hk
  by_cases e : k' = k
  · subst e
    exact hc c n hk
  · obtain ⟨o1, o2, o3⟩ := ho k' e
    exact (hG.2 k' c n hk).kept o1 o2 o3 (oq _ (by omega))
theorem gW.new {D : va_G} {cy : Nat → ClassId} {base b : Nat} {S : Sto} {c n : Nat} {H H' : Heap} (hG : gW D cy base b S H) (z : H'.size = H.size + 1) (oq : ∀ q : Nat, q < H.size → H'[q]? = H[q]?) (hc : cellOK D cy base b (newC S c n) S.1.length c n H') : gW D cy base b (newC S c n) H' := by
  refine ⟨by rw [z, hG.1]; simp [newC]; omega, fun k' c' n' hk => ?_⟩
  have hk : (S.1 ++ [(c, n)])[k']? = some (c', n') := hk
  by_cases e : k' < S.1.length
  · rw [List.getElem?_append_left e] at hk
    have hne : k' ≠ S.1.length := Nat.ne_of_lt e
    exact (hG.2 k' c' n' hk).kept (by simp [newC, va_up, hne]) (by simp [newC, va_up, hne]) (by simp [newC, va_up, hne]) (oq _ (by rw [hG.1]; omega))
  · rw [List.getElem?_append_right (by omega)] at hk
    have hz : k' - S.1.length < 1 := (List.getElem?_eq_some_iff.mp hk).1
    rw [show k' - S.1.length = 0 by omega] at hk
    cases hk
    rw [show k' = S.1.length by omega]
    exact hc
theorem inGT {c : Nat} (hc : c < 12) : ∀ w ∈ u_ws (RN c) (TN c) (NN c), w ∈ GT := by
  intro w hw
  refine GT_in (inN c hc w hw) ?_
  obtain ⟨k, -, rfl⟩ := List.mem_map.mp hw
  unfold u_lay
  split <;> rfl
theorem cat_cv (base b : Nat) (v : Value) : (cv base b v).category = (match v with | .retAddr _ => 1 | v => v.category) := by cases v <;> rfl
theorem cat_cv' (base b : Nat) (v : Value) : (cv base b v).category = v.category := by cases v <;> rfl
def cvp (base b : Nat) (q : Nat × Value) : Nat × Value := (q.1, cv base b q.2)
theorem lget_mem : ∀ {lv : List (Nat × Value)} {i : Nat} {v : Value}, lget lv i = some v → (i, v) ∈ lv
  | [], _, _, h => by cases h
  | (j, w) :: t, i, v, h => by
    unfold lget at h
    split at h
    · next e =>
      cases h
      rw [Nat.eq_of_beq_eq_true e]
      exact List.mem_cons_self
    · exact List.mem_cons_of_mem _ (lget_mem h)
theorem lget_at {base b nL : Nat} {ls : Array Slot} {lv : List (Nat × Value)} (hl : lv_has ls nL (lv.map (cvp base b))) {i : Nat} {v : Value} (h : lget lv i = some v) : ls[i]? = some (.val (cv base b v)) := hl.2.2 _ (List.mem_map.mpr ⟨_, lget_mem h, rfl⟩)
theorem lput1_map (base b : Nat) (lv : List (Nat × Value)) (i : Nat) (v : Value) : (i, cv base b v) :: (lv.map (cvp base b)).filter (fun q => !(q.1 == i) && !(q.1 + 1 == i && q.2.category == 2)) = (lput1 lv i v).map (cvp base b) := by
  unfold lput1
  rw [List.map_cons, List.filter_map]
  congr 2
  refine List.filter_congr fun q _ => ?_
  simp [cvp, cat_cv']
theorem lput2_map (base b : Nat) (lv : List (Nat × Value)) (i : Nat) (v : Value) : (i, cv base b v) :: (lv.map (cvp base b)).filter (fun q => !(q.1 == i) && (!(q.1 == i + 1) && !(q.1 + 1 == i && q.2.category == 2))) = (lput2 lv i v).map (cvp base b) := by
  unfold lput2
  rw [List.map_cons, List.filter_map]
  congr 2
  refine List.filter_congr fun q _ => ?_
  simp [cvp, cat_cv']
theorem cats_cv (base b : Nat) (st : List Value) : ((st.map (cv base b)).map fun v => v.category).sum = cats st := by
  unfold cats
  rw [List.map_map]
  congr 1
  refine List.map_congr_left fun v _ => ?_
  exact cat_cv' base b v
theorem va_P_one {D : va_G} {cl : List vw_C} {a : Nat} {x : va_E} {H : Heap} (h : va_at D cl (a, x) H) : va_P D cl [(a, x)] H := by
  intro k q hk
  have hz : k < 1 := (List.getElem?_eq_some_iff.mp hk).1
  rw [show k = 0 by omega] at hk
  cases hk
  exact h
theorem tyK1 {c f : Nat} (hc : c < 12) (hf : f < NN c) (h : tyK c f = 1) : tyN c f = .long := by
  have h1 := tyK_ok c hc f hf
  rw [h] at h1
  split at h1 <;> first | assumption | (exact absurd h1 (by decide))
theorem tyK2 {c f : Nat} (hc : c < 12) (hf : f < NN c) (h : tyK c f = 2) (a : Nat) : narrow (tyN c f) (.ref a) = .ref a ∧ fits (tyN c f) (.ref a) = true := by
  have h1 := tyK_ok c hc f hf
  rw [h] at h1
  split at h1
  · exact absurd h1 (by decide)
  · next e => rw [e]; exact ⟨rfl, rfl⟩
  · next e => rw [e]; exact ⟨rfl, rfl⟩
  · exact absurd h1 (by decide)
  · exact absurd h1 (by decide)
  · exact absurd h1 (by decide)
theorem tyK_def {c f : Nat} (hc : c < 12) (hf : f < NN c) (base b : Nat) (S : Sto) (k : Nat) (h1 : S.2.1 k f = 0) (h2 : S.2.2.1 k f = 0) (h3 : S.2.2.2 k f = none) : defaultValue (tyN c f) = cv base b (fvG S (tyK c f) k f) := by
  have h := tyK_ok c hc f hf
  rw [h]
  cases e : tyN c f <;> simp [fvG, h1, h2, h3, defaultValue, cv, va_rf]
  · rw [e] at h
    exact absurd h (by have : ∀ c, c < 12 → ∀ k, k < NN c → tyN c k ≠ .double := by decide +kernel
                       exact fun _ => this c hc f hf e)
  · rw [e] at h
    exact absurd h (by have : ∀ c, c < 12 → ∀ k, k < NN c → tyN c k ≠ .float := by decide +kernel
                       exact fun _ => this c hc f hf e)
section GROWS
variable {p : Program} {l : Launch} {e : Env} {R : Room} {s : State} {m : MethodId} {args : Array Value} {below : List Frame} {meth : Method} {c : Code} {H : Heap} {locs : List Loc} {cells slots : Nat} {Q : State → Prop}
variable {cc : ByteArray} {pc : Nat} {ls : Array Slot} {rest : List Value} {D : va_G} {cy : Nat → ClassId} {base b : Nat} {S : Sto} {own : Nat}
theorem g_get (hx : p.tables.exec = Jvm.exec) (hb : c.code = cc) (hts : ∀ w ∈ GT, w.before args s = true) (hown : s.vm.findClass (RN own) = some m.cls) (hK : va_K D clsL (tysOf cy) s) (hG : gW D cy base b S H) {k a f idx : Nat} (hk : okO S k a) (ha : (own, idx, a, f) ∈ FLT) (hdg : decode cc pc = .ok (.getfield idx, 3))
    (kk : W p l e R s m args below meth c H locs cells slots Q (F0 m (pc + 3) ls (cv base b (fvG S (tyK a f) k f) :: rest))) : W p l e R s m args below meth c H locs cells slots Q (F0 m pc ls (.ref (base + k) :: rest)) := by
  obtain ⟨ha1, hf⟩ := FLT_in _ ha
  have h := hG.2 k _ _ hk
  unfold cellOK at h
  rw [if_pos ha1] at h
  obtain ⟨-, cell, q1, q2, q3, q4⟩ := h
  obtain ⟨hS, hfc, kC, hkC, hkind⟩ := hK.1 a _ (clsL_at ha1)
  obtain ⟨cf, kf, fi, fd, hi, hsl⟩ := hS f hf
  refine W.getf hx hb hown (hts _ (GT_in (FLT_ok _ ha) rfl)) hi (u_facts hfc hkC (u_lays hts (inGT ha1) hf) hi).1 q1 (by rw [q3]; exact fun h => by cases h) (v := cv base b (fvG S (tyK a f) k f)) ?_ rfl rfl hdg kk
  rw [hsl]
  exact q4 f hf
theorem g_put (hx : p.tables.exec = Jvm.exec) (hb : c.code = cc) (hts : ∀ w ∈ GT, w.before args s = true) (hown : s.vm.findClass (RN own) = some m.cls) (hK : va_K D clsL (tysOf cy) s) (hG : gW D cy base b S H) (hS0 : va_S (fun q => base ≤ q) s.heap H locs) {k a f idx : Nat} (hk : okO S k a) (ha : (own, idx, a, f) ∈ FLT)
    (hfin : (TN a f).2.2.2 = false ∨ (meth.name = "<init>" ∧ own = a)) {v : Value} (hn : narrow (tyN a f) (cv base b v) = cv base b v) (hfit : fits (tyN a f) (cv base b v) = true) {S' : Sto} (h1 : S'.1 = S.1) (ho : ∀ k', k' ≠ k → S'.2.1 k' = S.2.1 k' ∧ S'.2.2.1 k' = S.2.2.1 k' ∧ S'.2.2.2 k' = S.2.2.2 k')
    (hv : ∀ j, j < NN a → fvG S' (tyK a j) k j = if j = f then v else fvG S (tyK a j) k j) (hdg : decode cc pc = .ok (.putfield idx, 3))
    (kk : ∀ (H1 : Heap) (locs1 : List Loc), gW D cy base b S' H1 → va_S (fun q => base ≤ q) s.heap H1 locs1 → W p l e R s m args below meth c H1 locs1 cells slots Q (F0 m (pc + 3) ls rest)) : W p l e R s m args below meth c H locs cells slots Q (F0 m pc ls (cv base b v :: .ref (base + k) :: rest)) := by
  obtain ⟨ha1, hf⟩ := FLT_in _ ha
  have h := hG.2 k _ _ hk
  unfold cellOK at h
  rw [if_pos ha1] at h
  obtain ⟨-, cell, q1, q2, q3, q4⟩ := h
  have hap := va_apart (D := D) (cl := clsL) (own := RN own) hts (inGT ha1) (tyN a) (tyN_ok a ha1) (nmN a ha1) hK (clsL_at ha1)
  obtain ⟨hS, hfc, kC, hkC, hkind⟩ := hK.1 a _ (clsL_at ha1)
  obtain ⟨cf, kf, fi, fd, hi, hsl⟩ := hS f hf
  have hlay := hts _ (inGT ha1 _ (u_in_lay hf))
  have hst := (u_facts hfc hkC (u_lays hts (inGT ha1) hf) hi).1
  have fin : ∀ (H' : Heap), H'[base + k]? = some (cell.setSlot fd.slot (cv base b v)) → H'.size = H.size → (∀ q, q ≠ base + k → H'[q]? = H[q]?) → W p l e R s m args below meth c H' (locs ++ [⟨base + k, fd.slot⟩]) cells slots Q (F0 m (pc + 3) ls rest) := by
    intro H' e1 e2 e3
    refine kk H' _ (hG.upd h1 ho e2 e3 (fun c' n' hc' => ?_)) (hS0.put e2 e3 (Nat.le_add_right _ _))
    cases hk.symm.trans hc'
    unfold cellOK
    rw [if_pos ha1]
    rw [hsl] at e1
    refine ⟨rfl, t_OB.to ⟨_, e1, q2, q3, t_set q4 hap hf (cv base b v)⟩ (fun j hj => ?_)⟩
    rw [hv j hj]
    by_cases ej : j = f
    · simp [updV, ej]
    · simp [updV, ej]
  by_cases hfi : (TN a f).2.2.2 = true
  · rcases hfin with q | ⟨hin, hoa⟩
    · rw [hfi] at q; cases q
    · subst hoa
      unfold u_lay at hlay
      rw [if_pos hfi] at hlay
      have hcf : m.cls = cf := by
        obtain ⟨_, _, c', _, _, _, -, -, hf', -, -, -, hown2, -⟩ := Cond.laysFinal_spec hlay
        have e1 : c' = cf := by have := hi.symm.trans hf'; simp at this; exact this.1.symm
        have hd : (TN own f).1 = RN own := (by decide +kernel : ∀ c, c < 12 → ∀ k, k < NN c → (TN c k).1 = RN c) own ha1 f hf
        rw [hd] at hown2
        rw [← e1]; exact Option.some.inj (hown.symm.trans hown2)
      have h6 := u_fits hfc hkC hkind (Or.inr hlay) hi (tyN_ok own ha1 f hf) hn hfit
      exact W.putFinK hx hb hown (hts _ (GT_in (FLT_ok _ ha) rfl)) hi hst hcf hin (by rw [q2]; exact h6) q1 q3 (by rw [hsl]; exact k2_hasslot (q4 f hf)) rfl rfl hdg fin
  · unfold u_lay at hlay
    rw [if_neg hfi] at hlay
    have h6 := u_store hfc hkC hkind hlay hi (tyN_ok a ha1 f hf) hn hfit
    exact W.putK hx hb (f := fd) ⟨hown, hts _ (GT_in (FLT_ok _ ha) rfl), ⟨_, _, _, hi⟩, hst⟩ (by rw [q2]; exact h6) q1 q3 (by rw [hsl]; exact k2_hasslot (q4 f hf)) rfl rfl hdg fin
end GROWS
end
section
/-! ===== arrays, new cells and calls over the small machine's world ===== -/
theorem up2_ne {α : Type} (f : Nat → Nat → α) (k i : Nat) (v : α) {k' : Nat} (h : k' ≠ k) : up2 f k i v k' = f k' := by simp [up2, va_up, h]
theorem up2_row {α : Type} (f : Nat → Nat → α) (k i : Nat) (v : α) : up2 f k i v k = va_up (f k) i v := by simp [up2, va_up]
theorem setI_ho (S : Sto) (k i : Nat) (x : Int32) : ∀ k', k' ≠ k → (setI S k i x).2.1 k' = S.2.1 k' ∧ (setI S k i x).2.2.1 k' = S.2.2.1 k' ∧ (setI S k i x).2.2.2 k' = S.2.2.2 k' := fun _ h => ⟨up2_ne _ _ _ _ h, rfl, rfl⟩
theorem setL_ho (S : Sto) (k i : Nat) (x : Int64) : ∀ k', k' ≠ k → (setL S k i x).2.1 k' = S.2.1 k' ∧ (setL S k i x).2.2.1 k' = S.2.2.1 k' ∧ (setL S k i x).2.2.2 k' = S.2.2.2 k' := fun _ h => ⟨rfl, up2_ne _ _ _ _ h, rfl⟩
theorem setR_ho (S : Sto) (k i : Nat) (x : Option Nat) : ∀ k', k' ≠ k → (setR S k i x).2.1 k' = S.2.1 k' ∧ (setR S k i x).2.2.1 k' = S.2.2.1 k' ∧ (setR S k i x).2.2.2 k' = S.2.2.2 k' := fun _ h => ⟨rfl, rfl, up2_ne _ _ _ _ h⟩
section GARR
variable {p : Program} {l : Launch} {e : Env} {R : Room} {s : State} {m : MethodId} {args : Array Value} {below : List Frame} {meth : Method} {c : Code} {H : Heap} {locs : List Loc} {cells slots : Nat} {Q : State → Prop}
variable {cc : ByteArray} {pc : Nat} {ls : Array Slot} {rest : List Value} {D : va_G} {cy : Nat → ClassId} {base b : Nat} {S : Sto} {own : Nat}
theorem g_at {k c n : Nat} (hG : gW D cy base b S H) (hk : S.1[k]? = some (c, n)) (hc : ¬ c < 12) : H[base + k]? = some (vp_cell (cy c) (n, arrC base S k c)) := by
  have h := hG.2 k _ _ hk
  unfold cellOK at h
  rwa [if_neg hc] at h
theorem g_iald (hx : p.tables.exec = Jvm.exec) (hb : c.code = cc) (hK : va_K D clsL (tysOf cy) s) (hG : gW D cy base b S H) {k : Nat} {i : Int32} (hk : okA S k 13 i) (hdg : decode cc pc = .ok (.iaload, 1))
    (kk : W p l e R s m args below meth c H locs cells slots Q (F0 m (pc + 1) ls (.int (S.2.1 k i.toNatClampNeg) :: rest))) : W p l e R s m args below meth c H locs cells slots Q (F0 m pc ls (.int i :: .ref (base + k) :: rest)) := by
  obtain ⟨n, h1, h2⟩ := hk
  exact va_iald hx hb hK (va_P_one (x := .inl (cy 13, n, .inl (S.2.1 k))) (g_at hG h1 (by decide))) 0 1 rfl rfl h2 hdg kk
theorem g_bald (hx : p.tables.exec = Jvm.exec) (hb : c.code = cc) (hK : va_K D clsL (tysOf cy) s) (hG : gW D cy base b S H) {k a : Nat} {i : Int32} (ha : a = 12 ∨ a = 15) (hk : okA S k a i) (hdg : decode cc pc = .ok (.baload, 1))
    (kk : W p l e R s m args below meth c H locs cells slots Q (F0 m (pc + 1) ls (.int (S.2.1 k i.toNatClampNeg) :: rest))) : W p l e R s m args below meth c H locs cells slots Q (F0 m pc ls (.int i :: .ref (base + k) :: rest)) := by
  obtain ⟨n, h1, h2⟩ := hk
  rcases ha with rfl | rfl
  · exact va_bald hx hb hK (va_P_one (x := .inl (cy 12, n, .inl (S.2.1 k))) (g_at hG h1 (by decide))) 0 0 rfl rfl h2 hdg kk
  · exact va_zald hx hb hK (va_P_one (x := .inl (cy 15, n, .inl (S.2.1 k))) (g_at hG h1 (by decide))) 0 3 rfl rfl h2 hdg kk
theorem g_lald (hx : p.tables.exec = Jvm.exec) (hb : c.code = cc) (hK : va_K D clsL (tysOf cy) s) (hG : gW D cy base b S H) {k : Nat} {i : Int32} (hk : okA S k 14 i) (hdg : decode cc pc = .ok (.laload, 1))
    (kk : W p l e R s m args below meth c H locs cells slots Q (F0 m (pc + 1) ls (.long (S.2.2.1 k i.toNatClampNeg) :: rest))) : W p l e R s m args below meth c H locs cells slots Q (F0 m pc ls (.int i :: .ref (base + k) :: rest)) := by
  obtain ⟨n, h1, h2⟩ := hk
  exact va_lald hx hb hK (va_P_one (x := .inl (cy 14, n, .inr (.inl (S.2.2.1 k)))) (g_at hG h1 (by decide))) 0 2 rfl rfl h2 hdg kk
theorem g_aald (hx : p.tables.exec = Jvm.exec) (hb : c.code = cc) (hK : va_K D clsL (tysOf cy) s) (hG : gW D cy base b S H) {k : Nat} {i : Int32} (hk : okA S k 16 i) (hdg : decode cc pc = .ok (.aaload, 1))
    (kk : W p l e R s m args below meth c H locs cells slots Q (F0 m (pc + 1) ls (cv base b (va_rf (S.2.2.2 k i.toNatClampNeg)) :: rest))) : W p l e R s m args below meth c H locs cells slots Q (F0 m pc ls (.int i :: .ref (base + k) :: rest)) := by
  obtain ⟨n, h1, h2⟩ := hk
  refine va_aldq hx hb hK (va_P_one (x := .inl (cy 16, n, .inr (.inr (.inr (.inr (fun i => (S.2.2.2 k i).map (base + ·))))))) (g_at hG h1 (by decide))) 0 4 rfl rfl h2 hdg ?_
  have e : va_rf ((S.2.2.2 k i.toNatClampNeg).map (base + ·)) = cv base b (va_rf (S.2.2.2 k i.toNatClampNeg)) := by
    cases S.2.2.2 k i.toNatClampNeg <;> rfl
  rw [← e] at kk
  exact kk
theorem g_alen (hx : p.tables.exec = Jvm.exec) (hb : c.code = cc) (hK : va_K D clsL (tysOf cy) s) (hG : gW D cy base b S H) {k n : Nat} (hk : S.1[k]? = some (13, n)) (hdg : decode cc pc = .ok (.arraylength, 1))
    (kk : W p l e R s m args below meth c H locs cells slots Q (F0 m (pc + 1) ls (.int (Int32.ofNat n) :: rest))) : W p l e R s m args below meth c H locs cells slots Q (F0 m pc ls (.ref (base + k) :: rest)) :=
  va_alen hx hb hK (va_P_one (x := .inl (cy 13, n, .inl (S.2.1 k))) (g_at hG hk (by decide))) 0 1 rfl rfl rfl hdg kk
theorem g_iast (hx : p.tables.exec = Jvm.exec) (hb : c.code = cc) (hK : va_K D clsL (tysOf cy) s) (hG : gW D cy base b S H) (hS0 : va_S (fun q => base ≤ q) s.heap H locs) {k : Nat} {i x : Int32} (hk : okA S k 13 i) (hdg : decode cc pc = .ok (.iastore, 1))
    (kk : ∀ (H1 : Heap) (locs1 : List Loc), gW D cy base b (setI S k i.toNatClampNeg x) H1 → va_S (fun q => base ≤ q) s.heap H1 locs1 → W p l e R s m args below meth c H1 locs1 cells slots Q (F0 m (pc + 1) ls rest)) : W p l e R s m args below meth c H locs cells slots Q (F0 m pc ls (.int x :: .int i :: .ref (base + k) :: rest)) := by
  obtain ⟨n, h1, h2⟩ := hk
  have h : H[base + k]? = some (vp_cell (cy 13) (n, .inl (S.2.1 k))) := g_at hG h1 (by decide)
  refine W.iast hx hb h ((hK.2 1 _ rfl).1 n (fun j => .int (S.2.1 k j))) (fun q => by cases q) (by show ¬ (i < 0 ∨ (arrV _ _ _).slots.size ≤ _); rw [arrV_size]; exact h2) rfl rfl hdg fun H1 e1 z oq => ?_
  refine kk H1 _ (hG.upd rfl (setI_ho S k _ x) z oq (fun c' n' hc' => ?_)) (hS0.put z oq (Nat.le_add_right _ _))
  cases h1.symm.trans hc'
  show H1[base + k]? = some (vp_cell (cy 13) (n, .inl (up2 S.2.1 k i.toNatClampNeg x k)))
  rw [e1, vp_cell_i, vp_cell_i, arrV_store, up2_row]
  congr 2
  funext q
  by_cases hq : q = i.toNatClampNeg
  · subst hq
    simp [updV, va_up]
  · simp [updV, va_up, hq]
theorem g_bast (hx : p.tables.exec = Jvm.exec) (hb : c.code = cc) (hK : va_K D clsL (tysOf cy) s) (hG : gW D cy base b S H) (hS0 : va_S (fun q => base ≤ q) s.heap H locs) {k : Nat} {i x : Int32} (hk : okA S k 12 i) (hdg : decode cc pc = .ok (.bastore, 1))
    (kk : ∀ (H1 : Heap) (locs1 : List Loc), gW D cy base b (setI S k i.toNatClampNeg (vp_nar .byte x)) H1 → va_S (fun q => base ≤ q) s.heap H1 locs1 → W p l e R s m args below meth c H1 locs1 cells slots Q (F0 m (pc + 1) ls rest)) : W p l e R s m args below meth c H locs cells slots Q (F0 m pc ls (.int x :: .int i :: .ref (base + k) :: rest)) := by
  obtain ⟨n, h1, h2⟩ := hk
  have h : H[base + k]? = some (vp_cell (cy 12) (n, .inl (S.2.1 k))) := g_at hG h1 (by decide)
  refine W.bast hx hb h ((hK.2 0 _ rfl).1 n (fun j => .int (S.2.1 k j))) (fun q => by cases q) (by show ¬ (i < 0 ∨ (arrV _ _ _).slots.size ≤ _); rw [arrV_size]; exact h2) rfl rfl hdg fun H1 e1 z oq => ?_
  refine kk H1 _ (hG.upd rfl (setI_ho S k _ _) z oq (fun c' n' hc' => ?_)) (hS0.put z oq (Nat.le_add_right _ _))
  cases h1.symm.trans hc'
  show H1[base + k]? = some (vp_cell (cy 12) (n, .inl (up2 S.2.1 k i.toNatClampNeg (vp_nar .byte x) k)))
  rw [e1, vp_cell_i, vp_cell_i, arrV_store, up2_row]
  congr 2
  funext q
  by_cases hq : q = i.toNatClampNeg
  · subst hq
    simp [updV, va_up, vp_nar]
    try rfl
  · simp [updV, va_up, hq]
theorem g_zast (hx : p.tables.exec = Jvm.exec) (hb : c.code = cc) (hK : va_K D clsL (tysOf cy) s) (hG : gW D cy base b S H) (hS0 : va_S (fun q => base ≤ q) s.heap H locs) {k : Nat} {i x : Int32} (hk : okA S k 15 i) (hdg : decode cc pc = .ok (.bastore, 1))
    (kk : ∀ (H1 : Heap) (locs1 : List Loc), gW D cy base b (setI S k i.toNatClampNeg (vp_nar .boolean x)) H1 → va_S (fun q => base ≤ q) s.heap H1 locs1 → W p l e R s m args below meth c H1 locs1 cells slots Q (F0 m (pc + 1) ls rest)) : W p l e R s m args below meth c H locs cells slots Q (F0 m pc ls (.int x :: .int i :: .ref (base + k) :: rest)) := by
  obtain ⟨n, h1, h2⟩ := hk
  have h : H[base + k]? = some (vp_cell (cy 15) (n, .inl (S.2.1 k))) := g_at hG h1 (by decide)
  refine W.zast hx hb h ((hK.2 3 _ rfl).1 n (fun j => .int (S.2.1 k j))) (fun q => by cases q) (by show ¬ (i < 0 ∨ (arrV _ _ _).slots.size ≤ _); rw [arrV_size]; exact h2) rfl rfl hdg fun H1 e1 z oq => ?_
  refine kk H1 _ (hG.upd rfl (setI_ho S k _ _) z oq (fun c' n' hc' => ?_)) (hS0.put z oq (Nat.le_add_right _ _))
  cases h1.symm.trans hc'
  show H1[base + k]? = some (vp_cell (cy 15) (n, .inl (up2 S.2.1 k i.toNatClampNeg (vp_nar .boolean x) k)))
  rw [e1, vp_cell_i, vp_cell_i, arrV_store, up2_row]
  congr 2
  funext q
  by_cases hq : q = i.toNatClampNeg
  · subst hq
    simp [updV, va_up, vp_nar]
    try rfl
  · simp [updV, va_up, hq]
theorem g_last (hx : p.tables.exec = Jvm.exec) (hb : c.code = cc) (hK : va_K D clsL (tysOf cy) s) (hG : gW D cy base b S H) (hS0 : va_S (fun q => base ≤ q) s.heap H locs) {k : Nat} {i : Int32} {x : Int64} (hk : okA S k 14 i) (hdg : decode cc pc = .ok (.lastore, 1))
    (kk : ∀ (H1 : Heap) (locs1 : List Loc), gW D cy base b (setL S k i.toNatClampNeg x) H1 → va_S (fun q => base ≤ q) s.heap H1 locs1 → W p l e R s m args below meth c H1 locs1 cells slots Q (F0 m (pc + 1) ls rest)) : W p l e R s m args below meth c H locs cells slots Q (F0 m pc ls (.long x :: .int i :: .ref (base + k) :: rest)) := by
  obtain ⟨n, h1, h2⟩ := hk
  have h : H[base + k]? = some (vp_cell (cy 14) (n, .inr (.inl (S.2.2.1 k)))) := g_at hG h1 (by decide)
  refine W.last hx hb h ((hK.2 2 _ rfl).1 n (fun j => .long (S.2.2.1 k j))) (fun q => by cases q) (by show ¬ (i < 0 ∨ (arrV _ _ _).slots.size ≤ _); rw [arrV_size]; exact h2) rfl rfl hdg fun H1 e1 z oq => ?_
  refine kk H1 _ (hG.upd rfl (setL_ho S k _ x) z oq (fun c' n' hc' => ?_)) (hS0.put z oq (Nat.le_add_right _ _))
  cases h1.symm.trans hc'
  show H1[base + k]? = some (vp_cell (cy 14) (n, .inr (.inl (up2 S.2.2.1 k i.toNatClampNeg x k))))
  rw [e1, vp_cell_l, vp_cell_l, arrV_store, up2_row]
  congr 2
  funext q
  by_cases hq : q = i.toNatClampNeg
  · subst hq
    simp [updV, va_up]
  · simp [updV, va_up, hq]
theorem g_aast (hx : p.tables.exec = Jvm.exec) (hb : c.code = cc) (hK : va_K D clsL (tysOf cy) s) (hG : gW D cy base b S H) (hS0 : va_S (fun q => base ≤ q) s.heap H locs) {k x : Nat} {i : Int32} (hk : okA S k 16 i) (hv : okO S x 2) (hdg : decode cc pc = .ok (.aastore, 1))
    (kk : ∀ (H1 : Heap) (locs1 : List Loc), gW D cy base b (setR S k i.toNatClampNeg (some x)) H1 → va_S (fun q => base ≤ q) s.heap H1 locs1 → W p l e R s m args below meth c H1 locs1 cells slots Q (F0 m (pc + 1) ls rest)) : W p l e R s m args below meth c H locs cells slots Q (F0 m pc ls (.ref (base + x) :: .int i :: .ref (base + k) :: rest)) := by
  obtain ⟨n, h1, h2⟩ := hk
  have h : H[base + k]? = some (vp_cell (cy 16) (n, .inr (.inr (.inr (.inr (fun i => (S.2.2.2 k i).map (base + ·))))))) := g_at hG h1 (by decide)
  have hlt : i.toNatClampNeg < n := Nat.not_le.mp fun q => h2 (Or.inr q)
  have h0 : ¬ i < 0 := fun q => h2 (Or.inl q)
  have hx2 := hG.2 x _ _ hv
  unfold cellOK at hx2
  rw [if_pos (by decide)] at hx2
  obtain ⟨-, cellV, g1, g2, g3, -⟩ := hx2
  have hcls := (hK.1 2 _ (clsL_at (by decide))).2
  obtain ⟨kA, comp, k1, k2, k3, -⟩ := (hK.2 4 _ rfl).2
  have hcomp : comp = D.1 2 := Option.some.inj (k3.symm.trans hcls.1)
  subst hcomp
  obtain ⟨kC, hkC, -⟩ := hcls.2
  refine W.aast hx hb h (fun q h => by cases h) (fun h => by cases h) k1 k2 rfl hkC ⟨h0, by show _ < (arrV _ _ _).slots.size; rw [arrV_size]; exact hlt⟩ g1 (fun q h => by rw [g3] at h; cases h) (by rw [g2]; exact hkC) (by rw [g2]; exact va_assign hcls) rfl rfl hdg fun H1 e1 z oq => ?_
  refine kk H1 _ (hG.upd rfl (setR_ho S k _ _) z oq (fun c' n' hc' => ?_)) (hS0.put z oq (Nat.le_add_right _ _))
  cases h1.symm.trans hc'
  show H1[base + k]? = some (vp_cell (cy 16) (n, .inr (.inr (.inr (.inr (fun j => (up2 S.2.2.2 k i.toNatClampNeg (some x) k j).map (base + ·)))))))
  rw [e1, vp_cell_q, vp_cell_q, arrV_store, up2_row]
  congr 2
  funext q
  by_cases hq : q = i.toNatClampNeg
  · subst hq
    simp [updV, va_up, va_rf]
  · simp [updV, va_up, hq]
theorem g_new (hx : p.tables.exec = Jvm.exec) (hb : c.code = cc) (hts : ∀ w ∈ GT, w.before args s = true) (hown : s.vm.findClass (RN own) = some m.cls) (hK : va_K D clsL (tysOf cy) s) (hG : gW D cy base b S H) (hS0 : va_S (fun q => base ≤ q) s.heap H locs) {a idx : Nat} (hc : (own, idx, a) ∈ CLT)
    (hcells : cells + 1 ≤ R.cells) (hslots : slots + NN a ≤ R.slots) (hdg : decode cc pc = .ok (.new idx, 3))
    (kk : ∀ (H1 : Heap), gW D cy base b (newC S a (NN a)) H1 → va_S (fun q => base ≤ q) s.heap H1 locs → W p l e R s m args below meth c H1 locs (cells + 1) (slots + NN a) Q (F0 m (pc + 3) ls (.ref (base + S.1.length) :: rest))) : W p l e R s m args below meth c H locs cells slots Q (F0 m pc ls rest) := by
  obtain ⟨hl, ha⟩ := CLT_ok _ hc
  have ha : a < 12 := ha
  have hKn := hK.1 a _ (clsL_at ha)
  refine W.newcK hx hb hown (hts _ (GT_in hl rfl)) (hts _ (GT_in (INS_ok a ha) rfl)) (hts _ (GT_in (RN_init a (by omega)) rfl)) rfl hdg hcells hslots hKn.2.1 hG.1 fun H1 kC hkC e1 z1 o1 => ?_
  have o1 : ∀ q : Nat, q < H.size → H1[q]? = H[q]? := fun q hq => o1 q (by rw [← hG.1]; exact hq)
  have z1 : H1.size = H.size + 1 := by rw [z1, hG.1]
  refine kk H1 (hG.new z1 o1 ?_) ⟨Nat.le_trans hS0.1 (by omega), fun q h1 h2 => (o1 q (Nat.lt_of_lt_of_le h1 hS0.1)).trans (hS0.2.1 q h1 h2), hS0.2.2⟩
  unfold cellOK
  rw [if_pos ha]
  refine ⟨rfl, (u_born (tyN a) hts (inGT ha) hKn hkC e1 (tyN_ok a ha)).to (fun j hj => ?_)⟩
  exact tyK_def ha hj base b (newC S a (NN a)) _ (by simp [newC, va_up]) (by simp [newC, va_up]) (by simp [newC, va_up])
theorem g_newa (hx : p.tables.exec = Jvm.exec) (hb : c.code = cc) (hts : ∀ w ∈ GT, w.before args s = true) (hK : va_K D clsL (tysOf cy) s) (hG : gW D cy base b S H) (hS0 : va_S (fun q => base ≤ q) s.heap H locs) {a : Nat} {t : ArrayType}
    (ha : (match t with | .byte => decide (a = 12) | .int => decide (a = 13) | .long => decide (a = 14) | .boolean => decide (a = 15) | _ => false) = true) {n : Int32} (hn : ¬ n < 0) (hbig : n.toNatClampNeg ≤ 60000000) (hcells : cells + 1 ≤ R.cells) (hslots : slots + n.toNatClampNeg ≤ R.slots) (hdg : decode cc pc = .ok (.newarray t, 2))
    (kk : ∀ (H1 : Heap), gW D cy base b (newC S a n.toNatClampNeg) H1 → va_S (fun q => base ≤ q) s.heap H1 locs → W p l e R s m args below meth c H1 locs (cells + 1) (slots + n.toNatClampNeg) Q (F0 m (pc + 2) ls (.ref (base + S.1.length) :: rest))) : W p l e R s m args below meth c H locs cells slots Q (F0 m pc ls (.int n :: rest)) := by
  have go : ∀ (hw : (Cond.arrayClass (newarray.typeOf t)).before args s = true) (h8 : componentBytes (newarray.typeOf t) ≤ 8) (hcy : ∀ cA, s.vm.findClass ("[" ++ (newarray.typeOf t).toString) = some cA → cA = cy a) (hnew : ∀ N : Nat, vp_cell (cy a) (N, arrC base (newC S a N) S.1.length a) = arrV (cy a) N (fun _ => defaultValue (newarray.typeOf t))) (h12 : ¬ a < 12),
      W p l e R s m args below meth c H locs cells slots Q (F0 m pc ls (.int n :: rest)) := by
    intro hw h8 hcy hnew h12
    refine va_newaK hx hb hw rfl hdg rfl hn rfl (Nat.le_trans (Nat.mul_le_mul hbig h8) (by decide)) hcells hslots hG.1 fun H1 cA e1 z1 o1 hAr hNm => ?_
    have o1 : ∀ q : Nat, q < H.size → H1[q]? = H[q]? := fun q hq => o1 q (by rw [← hG.1]; exact hq)
    have z1 : H1.size = H.size + 1 := by rw [z1, hG.1]
    refine kk H1 (hG.new z1 o1 ?_) ⟨Nat.le_trans hS0.1 (by omega), fun q h1 h2 => (o1 q (Nat.lt_of_lt_of_le h1 hS0.1)).trans (hS0.2.1 q h1 h2), hS0.2.2⟩
    unfold cellOK
    rw [if_neg h12, hnew, e1, hcy cA hNm]
  obtain ⟨w1, w2, w3, w4, w5⟩ := AR_ok
  cases t <;> simp only [decide_eq_true_eq, Bool.false_eq_true] at ha
  · subst ha
    exact go (hts _ (GT_in w4 rfl)) (by decide) (fun cA h => Option.some.inj (h.symm.trans (hK.2 3 _ rfl).2)) (fun N => by show vp_cell (cy 15) (N, .inl ((newC S 15 N).2.1 S.1.length)) = _; rw [vp_cell_i]; simp [newC, va_up, newarray.typeOf, defaultValue]) (by decide)
  · subst ha
    exact go (hts _ (GT_in w1 rfl)) (by decide) (fun cA h => Option.some.inj (h.symm.trans (hK.2 0 _ rfl).2)) (fun N => by show vp_cell (cy 12) (N, .inl ((newC S 12 N).2.1 S.1.length)) = _; rw [vp_cell_i]; simp [newC, va_up, newarray.typeOf, defaultValue]) (by decide)
  · subst ha
    exact go (hts _ (GT_in w2 rfl)) (by decide) (fun cA h => Option.some.inj (h.symm.trans (hK.2 1 _ rfl).2)) (fun N => by show vp_cell (cy 13) (N, .inl ((newC S 13 N).2.1 S.1.length)) = _; rw [vp_cell_i]; simp [newC, va_up, newarray.typeOf, defaultValue]) (by decide)
  · subst ha
    exact go (hts _ (GT_in w3 rfl)) (by decide) (fun cA h => Option.some.inj (h.symm.trans (hK.2 2 _ rfl).2)) (fun N => by show vp_cell (cy 14) (N, .inr (.inl ((newC S 14 N).2.2.1 S.1.length))) = _; rw [vp_cell_l]; simp [newC, va_up, newarray.typeOf, defaultValue]) (by decide)
theorem g_newq (hx : p.tables.exec = Jvm.exec) (hb : c.code = cc) (hts : ∀ w ∈ GT, w.before args s = true) (hown : s.vm.findClass (RN own) = some m.cls) (hAO : va_AO (RN 2) s) (hK : va_K D clsL (tysOf cy) s) (hG : gW D cy base b S H) (hS0 : va_S (fun q => base ≤ q) s.heap H locs) {idx : Nat} (hc : (own, idx, 2) ∈ CLT)
    {n : Int32} (hn : ¬ n < 0) (hbig : n.toNatClampNeg ≤ 60000000) (hcells : cells + 1 ≤ R.cells) (hslots : slots + n.toNatClampNeg ≤ R.slots) (hdg : decode cc pc = .ok (.anewarray idx, 3))
    (kk : ∀ (H1 : Heap), gW D cy base b (newC S 16 n.toNatClampNeg) H1 → va_S (fun q => base ≤ q) s.heap H1 locs → W p l e R s m args below meth c H1 locs (cells + 1) (slots + n.toNatClampNeg) Q (F0 m (pc + 3) ls (.ref (base + S.1.length) :: rest))) : W p l e R s m args below meth c H locs cells slots Q (F0 m pc ls (.int n :: rest)) := by
  obtain ⟨hl, ha⟩ := CLT_ok _ hc
  refine W.anew hx hb hown (hts _ (GT_in hl rfl)) (va_AO.use hAO) rfl hdg rfl hn (Nat.le_trans (Nat.mul_le_mul_right 4 hbig) (by decide)) hcells hslots fun cA kA comp f1 f2 f3 f4 => ?_
  generalize hH1 : H.push ({ cls := cA, slots := Array.replicate n.toNatClampNeg .null, vm := .none } : Cell) = H1
  have z1 : H1.size = H.size + 1 := by rw [← hH1, Array.size_push]
  have e1 : H1[H.size]? = some (arrV cA n.toNatClampNeg (fun _ => .null)) := by rw [← hH1, Array.getElem?_push_size, ← arrV_new]
  have o1 : ∀ q : Nat, q < H.size → H1[q]? = H[q]? := fun q hq => by rw [← hH1, Array.getElem?_push, if_neg (Nat.ne_of_lt hq)]
  have e2 : F0 m (pc + 3) ls (.ref (base + S.1.length) :: rest) = F0 m (pc + 3) ls (.ref H.size :: rest) := by rw [hG.1]
  rw [e2] at kk
  refine kk H1 (hG.new z1 o1 ?_) ⟨Nat.le_trans hS0.1 (by omega), fun q h1 h2 => (o1 q (Nat.lt_of_lt_of_le h1 hS0.1)).trans (hS0.2.1 q h1 h2), hS0.2.2⟩
  have hcA : cA = cy 16 := by
    obtain ⟨_, _, _, _, _, h5⟩ := (hK.2 4 _ rfl).2
    exact Option.some.inj (f1.symm.trans h5)
  show H1[base + S.1.length]? = some (vp_cell (cy 16) (n.toNatClampNeg, .inr (.inr (.inr (.inr (fun i => ((newC S 16 n.toNatClampNeg).2.2.2 S.1.length i).map (base + ·)))))))
  rw [← hG.1, e1, vp_cell_q, hcA]
  simp [newC, va_up, va_rf]
end GARR
end
section
/-! ===== what the small machine does, the bytecode does ===== -/
def nestOK (U : State) : Prop := ∀ q ∈ MNT, va_Nw (.methodLinkNest (RN q.1) q.2.1 (mt q.2.2).1 "AnswerDoor") U
theorem nestOK.same {u U : State} (h : u.vm = U.vm) (hN : nestOK u) : nestOK U := fun q hq => va_Nw.same rfl h (hN q hq)
theorem nestOK.warm {s U : State} (hW : s.WarmedH U.vm) (hN : nestOK s) : nestOK U := fun q hq => va_Nw.warmM hW (hN q hq)
def cPre (D : va_G) (cy : Nat → ClassId) (base b : Nat) (As : List Value) (S : Sto) : Array Value → State → Prop := va_Pc (As.map (cv base b)) (fun U => gW D cy base b S U.heap ∧ va_K D clsL (tysOf cy) U ∧ va_AO (RN 2) U ∧ nestOK U)
def cPost (D : va_G) (cy : Nat → ClassId) (base b : Nat) (Post : Option Value → Sto → Prop) : Array Value → State → Outcome → State → Prop := fun _ st oc t => (∃ (r : Option Value) (S' : Sto), oc = .returned (r.map (cv base b)) ∧ Post r S' ∧ gW D cy base b S' t.heap) ∧ va_F (fun q => base ≤ q) st t
def wsM (m : Nat) : List Jvm.Cond := Jvm.Cond.code (mt m).1 (mt m).2.1 (mt m).2.2.1 (mt m).2.2.2.1 :: GT
def rmD (d mc ms : Nat) : Room := { frames := d, cells := mc, slots := ms, locals := 40 * d }
theorem cPre.blind (D : va_G) (cy : Nat → ClassId) (base b : Nat) (As : List Value) (S : Sto) : FrameBlind (cPre D cy base b As S) := by
  intro a U g mk h
  obtain ⟨h1, h2, h3, h4, h5⟩ := h
  exact ⟨h1, h2, va_K.moved (u := U) (U := U.calling g mk a) (Vm.Alike.refl U.vm) h3, va_AO.moved (u := U) (U := U.calling g mk a) (Vm.Alike.refl U.vm) h4, nestOK.same (u := U) (U := U.calling g mk a) rfl h5⟩
theorem MM_all : ∀ m ∈ SMs ++ (VMs ++ IMs), m < MTs.length ∧ (mt m).2.2.2.2.1 ≤ 14 ∧ (mt m).2.2.2.2.1 ≠ 13 ∧ (mt m).2.2.2.2.1 ≠ 12 := by decide +kernel
theorem VM_12 : ∀ m ∈ VMs, (mt m).2.2.2.2.1 < 12 := by decide +kernel
theorem mt_in {m : Nat} (h : m < MTs.length) : mt m ∈ MTs := by
  unfold mt
  rw [List.getD_eq_getElem?_getD, List.getElem?_eq_getElem h]
  exact List.getElem_mem h
theorem wsM_good {m : Nat} (h : m ∈ SMs ++ (VMs ++ IMs)) : GoodIn GT (wsM m) := by
  obtain ⟨h1, -, -, h4⟩ := MM_all m h
  intro w hw
  rcases List.mem_cons.mp hw with rfl | hw
  · exact ⟨GT_in (MT_code (mt_in h1) h4) rfl, good_of_word rfl⟩
  · exact ⟨hw, good_of_word (List.mem_filter.mp hw).2⟩
theorem mt_not {m : Nat} (h : m ∈ SMs ++ (VMs ++ IMs)) : (mt m).1.cls ≠ "java/lang/invoke/MethodHandle" ∧ (mt m).1.cls ≠ "java/lang/invoke/VarHandle" := by
  obtain ⟨h1, h2, h3, -⟩ := MM_all m h
  rw [MT_cls _ (mt_in h1)]
  exact (RN_plain _ h2 h3).2
theorem mt_ini {m : Nat} (h : m ∈ SMs ++ (VMs ++ IMs)) {args : Array Value} {s : State} (hts : ∀ w ∈ GT, w.before args s = true) : (Jvm.Cond.initialized (mt m).1.cls).before args s = true := by
  obtain ⟨h1, h2, -, -⟩ := MM_all m h
  rw [MT_cls _ (mt_in h1)]
  exact hts _ (GT_in (RN_init _ h2) rfl)
/-- contracts of all that E runs -/
def ESnd (l : Launch) (D : va_G) (cy : Nat → ClassId) (base b : Nat) (d : Nat) (E : EX) : Prop := ∀ m As S mc ms Post, E m As S mc ms Post → m ∈ SMs ++ (VMs ++ IMs) ∧ Met l (mt m).1 (wsM m) (rmD d mc ms) (cPre D cy base b As S) (cPost D cy base b Post) mc ms (fun q => base ≤ q)
section GSND
variable {p : Program} {l : Launch} {e : Env} {R : Room} {s : State} {m : MethodId} {args : Array Value} {below : List Frame} {meth : Method} {c : Code} {Q : State → Prop}
variable {cc : ByteArray} {D : va_G} {cy : Nat → ClassId} {base b : Nat} {own nL d : Nat} {ini : Bool} {E : EX} {rt : Option FieldType} {cp : Nat × Nat} {Post : Option Value → Sto → Prop} {Z : Option (Nat × (Nat → Int32))}
theorem g_call {H : Heap} {locs : List Loc} {kc ks mc ms pc : Nat} {ls : Array Slot} {st0 rest : List Value} {a : Array Value} {Post' : Option Value → Sto → Prop}
    (hr : va_Run p l e R s m args below meth c H locs kc ks mc ms (F0 m pc ls st0) rest (cPost D cy base b Post' a) (fun q => base ≤ q)) (hS : va_S (fun q => base ≤ q) s.heap H locs)
    (kk : ∀ (r : Option Value) (S' : Sto) (H1 : Heap) (locs1 : List Loc), Post' r S' → gW D cy base b S' H1 → va_S (fun q => base ≤ q) s.heap H1 locs1 → W p l e R s m args below meth c H1 locs1 (kc + mc) (ks + ms) Q (F0 m (pc + 3) ls ((r.map (cv base b)).toList ++ rest))) : W p l e R s m args below meth c H locs kc ks Q (F0 m pc ls st0) := by
  intro T hT X
  obtain ⟨v, st₀, t, T', L, h0, X', hL, e1, e2, ⟨⟨r, S', hv, hp, hg⟩, hz, hk⟩, st⟩ := hr T hT X
  cases hv
  rw [h0] at hz hk
  obtain ⟨t2, a1, b1⟩ := kk r S' T'.heap (locs ++ L) hp (by rw [e1]; exact hg)
    ⟨Nat.le_trans hS.1 (by rw [e1]; exact hz), fun q h1 h2 => by rw [e1, hk q (Nat.lt_of_lt_of_le h1 hS.1) h2]; exact hS.2.1 q h1 h2, fun q hq => by
      rcases List.mem_append.mp hq with h | h
      · exact hS.2.2 q h
      · exact hL q h⟩ T' rfl X'
  exact ⟨t2, st t2 a1, b1⟩
/-- what stands around a frame -/
def Amb (l : Launch) (p : Program) (R : Room) (s : State) (m : MethodId) (args : Array Value) (meth : Method) (c : Code) (cc : ByteArray) (D : va_G) (cy : Nat → ClassId) (base b own nL d : Nat) (ini : Bool) (E : EX) (cp : Nat × Nat) (Z : Option (Nat × (Nat → Int32))) : Prop :=
  p.tables.exec = Jvm.exec ∧ c.code = cc ∧ c.maxLocals = nL ∧ s.vm.findClass (RN own) = some m.cls ∧ (∀ w ∈ GT, w.before args s = true) ∧ va_K D clsL (tysOf cy) s ∧ va_AO (RN 2) s ∧ nestOK s ∧ (ini = true → meth.name = "<init>") ∧ R.cells = cp.1 ∧ R.slots = cp.2 ∧ d + 1 ≤ R.frames ∧ 40 * (d + 1) ≤ R.locals ∧ ESnd l D cy base b d E ∧
  (∀ n xs, Z = some (n, xs) → va_X b n xs s s.heap ∧ b < s.heap.size ∧ b < base)
/-- the predicate that is closed under the machine's steps -/
def PW (p : Program) (l : Launch) (e : Env) (R : Room) (s : State) (m : MethodId) (args : Array Value) (below : List Frame) (meth : Method) (c : Code) (Q : State → Prop) (D : va_G) (cy : Nat → ClassId) (base b nL : Nat) (cp : Nat × Nat) : PP := fun pc lv st S kc ks =>
  kc ≤ cp.1 → ks ≤ cp.2 → ∀ (H : Heap) (locs : List Loc) (ls : Array Slot), gW D cy base b S H → va_S (fun q => base ≤ q) s.heap H locs → lv_has ls nL (lv.map (cvp base b)) → W p l e R s m args below meth c H locs kc ks Q (F0 m pc ls (st.map (cv base b)))
/-- how the frame may end -/
def Fin3 (p : Program) (l : Launch) (e : Env) (R : Room) (s : State) (m : MethodId) (args : Array Value) (below : List Frame) (meth : Method) (c : Code) (Q : State → Prop) (cc : ByteArray) (D : va_G) (cy : Nat → ClassId) (base b : Nat) (rt : Option FieldType) (cp : Nat × Nat) (Post : Option Value → Sto → Prop) : Prop :=
  (∀ (v : Int32) (ty : FieldType) (S : Sto) (H : Heap) (locs : List Loc) (ls : Array Slot) (pc kc ks : Nat), decode cc pc = .ok (.ireturn, 1) → rt = some ty → narrow ty (.int v) = .int v → Post (some (.int v)) S → gW D cy base b S H → va_S (fun q => base ≤ q) s.heap H locs → kc ≤ cp.1 → ks ≤ cp.2 → W p l e R s m args below meth c H locs kc ks Q (F0 m pc ls [.int v])) ∧
  (∀ (v : Int64) (S : Sto) (H : Heap) (locs : List Loc) (ls : Array Slot) (pc kc ks : Nat), decode cc pc = .ok (.lreturn, 1) → rt = some .long → Post (some (.long v)) S → gW D cy base b S H → va_S (fun q => base ≤ q) s.heap H locs → kc ≤ cp.1 → ks ≤ cp.2 → W p l e R s m args below meth c H locs kc ks Q (F0 m pc ls [.long v])) ∧
  (∀ (S : Sto) (H : Heap) (locs : List Loc) (ls : Array Slot) (pc kc ks : Nat), decode cc pc = .ok (.return_, 1) → rt = none → Post none S → gW D cy base b S H → va_S (fun q => base ≤ q) s.heap H locs → kc ≤ cp.1 → ks ≤ cp.2 → W p l e R s m args below meth c H locs kc ks Q (F0 m pc ls []))
theorem r_map (base b : Nat) (r : Option Value) (rest : List Value) : (r.map (cv base b)).toList ++ rest.map (cv base b) = (r.toList ++ rest).map (cv base b) := by cases r <;> simp
set_option maxHeartbeats 4000000 in
theorem sx_sound (hA : Amb l p R s m args meth c cc D cy base b own nL d ini E cp Z) {i : Instr} {q2 : Nat × Nat × Nat × Nat × Int32} {pc : Nat} {lv : List (Nat × Value)} {st : List Value} {S : Sto} {kc ks : Nat} {c' : CF} {O : Prop} (hdg : decode cc pc = .ok (i, q2.1)) (hk : lnkB own ini pc (i, q2) = true)
    (hs : sx nL Z cp (i, q2) pc lv st S kc ks = some (c', O)) (ho : O) (k : PW p l e R s m args below meth c Q D cy base b nL cp c'.1 c'.2.1 c'.2.2.1 c'.2.2.2.1 c'.2.2.2.2.1 c'.2.2.2.2.2) : PW p l e R s m args below meth c Q D cy base b nL cp pc lv st S kc ks := by
  obtain ⟨len, a, bb, dd, v⟩ := q2
  obtain ⟨hx, hb, hml, hown, hts, hK, hAO, hN, hini, hRc, hRs, hRf, hRl, hE, hZ⟩ := hA
  intro h1 h2 H locs ls hG hS hl
  cases i <;> simp only [sx, lnkB, Bool.and_eq_true, decide_eq_true_eq, reduceCtorEq] at hs hk
  case iconst n =>
    obtain ⟨hv, hlen⟩ := hk; subst hlen
    cases hs
    exact lv_iconst hx hb hdg hv (k h1 h2 H locs ls hG hS hl)
  case bipush n =>
    obtain ⟨hv, hlen⟩ := hk; subst hlen
    cases hs
    exact lv_bipush hx hb hdg hv (k h1 h2 H locs ls hG hS hl)
  case sipush n =>
    obtain ⟨hv, hlen⟩ := hk; subst hlen
    cases hs
    exact lv_sipush hx hb hdg hv (k h1 h2 H locs ls hG hS hl)
  case lconst n =>
    obtain ⟨hv, hlen⟩ := hk; subst hlen
    cases hs
    exact lv_lconst hx hb hdg hv (k h1 h2 H locs ls hG hS hl)
  case ldc n =>
    obtain ⟨hv, hlen⟩ := hk; subst hlen
    cases hs
    exact lv_ldc hx hb hown (hts _ (GT_in (KIT_ok _ hv) rfl)) hdg (k h1 h2 H locs ls hG hS hl)
  case ldc2_w n =>
    obtain ⟨hv, hlen⟩ := hk; subst hlen
    cases hs
    exact lv_ldc2 hx hb hown (hts _ (GT_in (KLT_ok _ hv) rfl)) hdg (k h1 h2 H locs ls hG hS hl)
  case iload_n n =>
    subst hk
    split at hs
    · next x hg => cases hs; exact lv_iload_n hx hb hdg rfl (lget_at hl hg) (k h1 h2 H locs ls hG hS hl)
    · cases hs
  case iload n =>
    subst hk
    split at hs
    · next x hg => cases hs; exact lv_iload hx hb hdg (lget_at hl hg) (k h1 h2 H locs ls hG hS hl)
    · cases hs
  case lload_n n =>
    subst hk
    split at hs
    · next x hg => cases hs; exact lv_lload_n hx hb hdg rfl (lget_at hl hg) (k h1 h2 H locs ls hG hS hl)
    · cases hs
  case aload_n n =>
    subst hk
    split at hs
    · next x hg => cases hs; exact lv_aload_n hx hb hdg rfl (lget_at hl hg) (k h1 h2 H locs ls hG hS hl)
    · next x hg => cases hs; exact lv_aload_n hx hb hdg rfl (lget_at hl hg) (k h1 h2 H locs ls hG hS hl)
    · cases hs
  case aload n =>
    subst hk
    split at hs
    · next x hg => cases hs; exact lv_aload hx hb hdg (lget_at hl hg) (k h1 h2 H locs ls hG hS hl)
    · cases hs
  case istore_n n =>
    subst hk
    split at hs
    · cases hs; exact lv_istore_n hx hb hdg rfl hl ho (lput1_map base b lv _ (.int _)) (fun ls' hl' => k h1 h2 H locs ls' hG hS hl')
    · cases hs
  case istore n =>
    subst hk
    split at hs
    · cases hs; exact lv_istore hx hb hdg hl ho (lput1_map base b lv _ (.int _)) (fun ls' hl' => k h1 h2 H locs ls' hG hS hl')
    · cases hs
  case lstore_n n =>
    subst hk
    split at hs
    · cases hs; exact lv_lstore_n hx hb hdg rfl hl ho (lput2_map base b lv _ (.long _)) (fun ls' hl' => k h1 h2 H locs ls' hG hS hl')
    · cases hs
  case astore_n n =>
    subst hk
    split at hs
    · cases hs; exact lv_astore_n hx hb hdg rfl hl ho (lput1_map base b lv _ (.ref _)) (fun ls' hl' => k h1 h2 H locs ls' hG hS hl')
    · cases hs
  case astore n =>
    subst hk
    split at hs
    · cases hs; exact lv_astore hx hb hdg hl ho (lput1_map base b lv _ (.ref _)) (fun ls' hl' => k h1 h2 H locs ls' hG hS hl')
    · cases hs
  case iinc n w =>
    obtain ⟨hv, hlen⟩ := hk; subst hlen
    split at hs
    · next x hg =>
      cases hs
      obtain ⟨j, hj⟩ := List.getElem?_of_mem (List.mem_map.mpr ⟨_, lget_mem hg, rfl⟩ : cvp base b (n, .int x) ∈ lv.map (cvp base b))
      exact lv_iinc hx hb hdg hl hj (by rw [hv]) ho (lput1_map base b lv n (.int (x + v))) (fun ls' hl' => k h1 h2 H locs ls' hG hS hl')
    · cases hs
  case iadd => subst hk; split at hs; · cases hs; exact lv_iadd hx hb hdg (k h1 h2 H locs ls hG hS hl)
               · cases hs
  case isub => subst hk; split at hs; · cases hs; exact lv_isub hx hb hdg (k h1 h2 H locs ls hG hS hl)
               · cases hs
  case imul => subst hk; split at hs; · cases hs; exact lv_imul hx hb hdg (k h1 h2 H locs ls hG hS hl)
               · cases hs
  case iand => subst hk; split at hs; · cases hs; exact lv_iand hx hb hdg (k h1 h2 H locs ls hG hS hl)
               · cases hs
  case ior => subst hk; split at hs; · cases hs; exact lv_ior hx hb hdg (k h1 h2 H locs ls hG hS hl)
              · cases hs
  case ishl => subst hk; split at hs; · cases hs; exact lv_ishl hx hb hdg (k h1 h2 H locs ls hG hS hl)
               · cases hs
  case ishr => subst hk; split at hs; · cases hs; exact lv_ishr hx hb hdg (k h1 h2 H locs ls hG hS hl)
               · cases hs
  case iushr => subst hk; split at hs; · cases hs; exact lv_iushr hx hb hdg rfl (k h1 h2 H locs ls hG hS hl)
                · cases hs
  case idiv => subst hk; split at hs; · cases hs; exact lv_idiv hx hb hdg ho (k h1 h2 H locs ls hG hS hl)
               · cases hs
  case irem => subst hk; split at hs; · cases hs; exact lv_irem hx hb hdg ho (k h1 h2 H locs ls hG hS hl)
               · cases hs
  case ladd => subst hk; split at hs; · cases hs; exact lv_ladd hx hb hdg (k h1 h2 H locs ls hG hS hl)
               · cases hs
  case lmul => subst hk; split at hs; · cases hs; exact lv_lmul hx hb hdg (k h1 h2 H locs ls hG hS hl)
               · cases hs
  case lcmp =>
    subst hk
    split at hs
    · next y x r =>
      cases hs
      exact W.lcmp hx hb hdg (k h1 h2 H locs ls hG hS hl)
    · cases hs
  case i2l => subst hk; split at hs; · cases hs; exact lv_i2l hx hb hdg rfl (k h1 h2 H locs ls hG hS hl)
              · cases hs
  case l2i => subst hk; split at hs; · cases hs; exact lv_l2i hx hb hdg rfl (k h1 h2 H locs ls hG hS hl)
              · cases hs
  case i2b => subst hk; split at hs; · cases hs; exact lv_i2b hx hb hdg rfl (k h1 h2 H locs ls hG hS hl)
              · cases hs
  case dup => subst hk; split at hs; · cases hs; exact lv_dup hx hb hdg (by rw [cat_cv']; exact ho) (k h1 h2 H locs ls hG hS hl)
              · cases hs
  case dup2 => subst hk; split at hs; · cases hs; exact lv_dup2_11 hx hb hdg (by rw [cat_cv']; exact ho.1) (by rw [cat_cv']; exact ho.2) (k h1 h2 H locs ls hG hS hl)
               · cases hs
  case pop => subst hk; split at hs; · cases hs; exact lv_pop hx hb hdg (by rw [cat_cv']; exact ho) (k h1 h2 H locs ls hG hS hl)
              · cases hs
  case getfield n =>
    obtain ⟨⟨hf, hd⟩, hlen⟩ := hk; subst hlen; subst hd
    split at hs
    · cases hs; exact g_get hx hb hts hown hK hG ho hf hdg (k h1 h2 H locs ls hG hS hl)
    · cases hs
  case putfield n =>
    obtain ⟨⟨⟨hf, hd⟩, hlen⟩, hfin⟩ := hk
    have hfin' : (TN a bb).2.2.2 = false ∨ (meth.name = "<init>" ∧ own = a) := by
      simp only [Bool.or_eq_true, Bool.not_eq_true', Bool.and_eq_true, decide_eq_true_eq] at hfin
      rcases hfin with q | ⟨q, q'⟩
      · exact Or.inl q
      · exact Or.inr ⟨hini q, q'⟩
    obtain ⟨ha1, hfb⟩ := FLT_in _ hf
    subst hlen
    split at hs
    · next x k' r =>
      cases hs
      refine g_put (v := .int x) (S' := setI S k' bb x) hx hb hts hown hK hG hS ho.1 hf hfin' ho.2.1 ho.2.2 rfl (setI_ho S k' bb x) (fun j hj => ?_) hdg (fun H1 locs1 hG1 hS1 => k h1 h2 H1 locs1 ls hG1 hS1 hl)
      by_cases ej : j = bb
      · subst ej
        rw [hd]
        simp [fvG, setI, up2_row, va_up]
      · rw [if_neg ej]
        unfold fvG
        split <;> simp [setI, up2_row, va_up, ej]
    · next x k' r =>
      cases hs
      have e1 := tyK1 ha1 hfb hd
      have e1 : tyN a bb = .long := e1
      refine g_put (v := .long x) (S' := setL S k' bb x) hx hb hts hown hK hG hS ho hf hfin' (by rw [e1]; rfl) (by rw [e1]; rfl) rfl (setL_ho S k' bb x) (fun j hj => ?_) hdg (fun H1 locs1 hG1 hS1 => k h1 h2 H1 locs1 ls hG1 hS1 hl)
      by_cases ej : j = bb
      · subst ej
        rw [hd]
        simp [fvG, setL, up2_row, va_up]
      · rw [if_neg ej]
        unfold fvG
        split <;> simp [setL, up2_row, va_up, ej]
    · next x k' r =>
      cases hs
      have e1 := tyK2 ha1 hfb hd (base + x)
      refine g_put (v := .ref x) (S' := setR S k' bb (some x)) hx hb hts hown hK hG hS ho hf hfin' e1.1 e1.2 rfl (setR_ho S k' bb (some x)) (fun j hj => ?_) hdg (fun H1 locs1 hG1 hS1 => k h1 h2 H1 locs1 ls hG1 hS1 hl)
      by_cases ej : j = bb
      · subst ej
        rw [hd]
        simp [fvG, setR, up2_row, va_up, va_rf]
      · rw [if_neg ej]
        unfold fvG
        split <;> simp [setR, up2_row, va_up, ej]
    · cases hs
  case iaload =>
    subst hk
    split at hs
    · cases hs; exact g_iald hx hb hK hG ho hdg (k h1 h2 H locs ls hG hS hl)
    · split at hs
      · next n xs =>
        cases hs
        obtain ⟨z1, z2, z3⟩ := hZ n xs rfl
        exact va_sld hx hb z1 z2 (A := fun q => base ≤ q) (Nat.not_le.mpr z3) hS ho hdg (k h1 h2 H locs ls hG hS hl)
      · cases hs
    · cases hs
  case baload =>
    obtain ⟨ha, hlen⟩ := hk; subst hlen
    split at hs
    · cases hs; exact g_bald hx hb hK hG (by simpa using ha) ho hdg (k h1 h2 H locs ls hG hS hl)
    · cases hs
  case laload => subst hk; split at hs; · cases hs; exact g_lald hx hb hK hG ho hdg (k h1 h2 H locs ls hG hS hl)
                 · cases hs
  case aaload => subst hk; split at hs; · cases hs; exact g_aald hx hb hK hG ho hdg (k h1 h2 H locs ls hG hS hl)
                 · cases hs
  case iastore => subst hk; split at hs; · cases hs; exact g_iast hx hb hK hG hS ho hdg (fun H1 locs1 hG1 hS1 => k h1 h2 H1 locs1 ls hG1 hS1 hl)
                  · cases hs
  case bastore =>
    subst hk
    split at hs
    · cases hs; exact g_bast hx hb hK hG hS ho hdg (fun H1 locs1 hG1 hS1 => k h1 h2 H1 locs1 ls hG1 hS1 hl)
    · cases hs; exact g_zast hx hb hK hG hS ho hdg (fun H1 locs1 hG1 hS1 => k h1 h2 H1 locs1 ls hG1 hS1 hl)
    · cases hs
  case lastore => subst hk; split at hs; · cases hs; exact g_last hx hb hK hG hS ho hdg (fun H1 locs1 hG1 hS1 => k h1 h2 H1 locs1 ls hG1 hS1 hl)
                  · cases hs
  case aastore => subst hk; split at hs; · cases hs; exact g_aast hx hb hK hG hS ho.1 ho.2 hdg (fun H1 locs1 hG1 hS1 => k h1 h2 H1 locs1 ls hG1 hS1 hl)
                  · cases hs
  case arraylength =>
    subst hk
    split at hs
    · split at hs
      · next c0 n hc0 =>
        cases hs
        subst ho
        exact g_alen hx hb hK hG hc0 hdg (k h1 h2 H locs ls hG hS hl)
      · cases hs
    · split at hs
      · next n xs =>
        cases hs
        obtain ⟨z1, z2, z3⟩ := hZ n _ rfl
        exact va_slen hx hb z1 z2 (A := fun q => base ≤ q) (Nat.not_le.mpr z3) hS hdg (k h1 h2 H locs ls hG hS hl)
      · cases hs
    · cases hs
  case new n =>
    obtain ⟨hf, hlen⟩ := hk; subst hlen
    cases hs
    exact g_new hx hb hts hown hK hG hS hf (by rw [hRc]; exact ho.1) (by rw [hRs]; exact ho.2) hdg (fun H1 hG1 hS1 => k ho.1 ho.2 H1 locs ls hG1 hS1 hl)
  case newarray t =>
    obtain ⟨hlen, ha⟩ := hk; subst hlen
    split at hs
    · cases hs
      obtain ⟨o1, o2, o3, o4⟩ := ho
      exact g_newa hx hb hts hK hG hS ha o1 o2 (by rw [hRc]; exact o3) (by rw [hRs]; exact o4) hdg (fun H1 hG1 hS1 => k o3 o4 H1 locs ls hG1 hS1 hl)
    · cases hs
  case anewarray n =>
    obtain ⟨hf, hlen⟩ := hk; subst hlen
    split at hs
    · cases hs
      obtain ⟨o1, o2, o3, o4⟩ := ho
      exact g_newq hx hb hts hown hAO hK hG hS hf o1 o2 (by rw [hRc]; exact o3) (by rw [hRs]; exact o4) hdg (fun H1 hG1 hS1 => k o3 o4 H1 locs ls hG1 hS1 hl)
    · cases hs
  case invokestatic n =>
    obtain ⟨hlen, hk⟩ := hk; subst hlen
    split at hs
    · next y x r =>
      cases hs
      have hm : (own, n, 0) ∈ MMT := of_decide_eq_true hk
      have hc8 : ((r.map (cv base b)).map fun v => v.category).sum ≤ 8 := by rw [cats_cv]; exact ho
      exact va_mmin hx hb (hml.trans hl.1.symm) hown (hts _ (GT_in (MMT_ok _ hm) rfl)) (hts _ (GT_in MM_st.1 rfl)) (hts _ (GT_in MM_st.2.2 rfl)) (hts _ (GT_in MM_c0 rfl)) (by omega) (by omega) (by rw [hRc]; exact h1) (by rw [hRs]; exact h2) hdg (k h1 h2 H locs ls hG hS hl)
    · next y x r =>
      cases hs
      have hm : (own, n, 1) ∈ MMT := of_decide_eq_true hk
      have hc8 : ((r.map (cv base b)).map fun v => v.category).sum ≤ 8 := by rw [cats_cv]; exact ho
      exact va_mmin_long hx hb (hml.trans hl.1.symm) hown (hts _ (GT_in (MMT_ok _ hm) rfl)) (hts _ (GT_in MM_st.2.1 rfl)) (hts _ (GT_in MM_st.2.2 rfl)) (hts _ (GT_in MM_c1 rfl)) (by omega) (by omega) (by rw [hRc]; exact h1) (by rw [hRs]; exact h2) hdg (k h1 h2 H locs ls hG hS hl)
    · cases hs
  case invokespecial n =>
    obtain ⟨hlen, hk⟩ := hk; subst hlen
    split at hs
    · next k' r =>
      cases hs
      have hm : (own, n) ∈ OIT := of_decide_eq_true hk
      have hc8 : ((r.map (cv base b)).map fun v => v.category).sum ≤ 8 := by rw [cats_cv]; exact ho
      have hc9 := lv_room (m := m) (pc := pc) (ls := ls) (rest := .ref (base + k') :: r.map (cv base b)) hc8
      exact W.objInit hx hb hown (hts _ (GT_in (OIT_ok _ hm) rfl)) (hts _ (GT_in OI_ok rfl)) (hts _ (GT_in OI_code rfl)) rfl (by rw [hml]; exact hl.1) rfl hdg (by omega) (by have hc10 : 2 * (F0 m pc ls (List.map (cv base b) (Value.ref k' :: r))).monitorRoom + ((r.map (cv base b)).map fun v => v.category).sum ≤ 8 := hc9; omega) (k h1 h2 H locs ls hG hS hl)
    · cases hs
set_option maxHeartbeats 4000000 in
/-- the walk's predicate is closed under the machine's steps -/
theorem snd_clo (hA : Amb l p R s m args meth c cc D cy base b own nL d ini E cp Z) (hF : Fin3 p l e R s m args below meth c Q cc D cy base b rt cp Post) : Clo E cc own ini nL rt Z cp Post (PW p l e R s m args below meth c Q D cy base b nL cp) := by
  intro pc lv st S kc ks hq
  obtain ⟨⟨i, len, a, bb, dd, v⟩, hdg, hk, h⟩ := hq
  have hA0 := hA
  obtain ⟨hx, hb, hml, hown, hts, hK, hAO, hN, hini, hRc, hRs, hRf, hRl, hE, hZ⟩ := hA
  have callOK : ∀ {y : Nat}, y ∈ SMs ++ (VMs ++ IMs) → ∀ mc ms : Nat, (rmD d mc ms).frames + 1 ≤ R.frames ∧ 8 + ((mt y).2.2.1 + 11) + (rmD d mc ms).locals ≤ R.locals := by
    intro y hy mc ms
    have h20 := MT_nL _ (mt_in (MM_all y hy).1)
    exact ⟨hRf, by show 8 + ((mt y).2.2.1 + 11) + 40 * d ≤ R.locals; omega⟩
  have pre : ∀ {H : Heap} (As : List Value) {S : Sto}, gW D cy base b S H → ∀ U : State, U.heap = H → s.WarmedH U.vm → cPre D cy base b As S (As.map (cv base b)).toArray U := by
    intro H As S hG U hU hW
    exact ⟨rfl, by rw [hU]; exact hG, va_K.moved hW.alike hK, va_AO.moved hW.alike hAO, hN.warm hW⟩
  cases i
  case if_icmp cd o =>
    obtain ⟨x, y, r, rfl, ht, hf⟩ := h
    simp only [lnkB, Bool.and_eq_true, decide_eq_true_eq] at hk
    obtain ⟨htg, hlen⟩ := hk; subst hlen
    intro h1 h2 H locs ls hG hS hl
    cases cd
    case eq => exact lv_icmp_eq hx hb hdg htg (fun c => ht c h1 h2 H locs ls hG hS hl) (fun c => hf c h1 h2 H locs ls hG hS hl)
    case ne => exact lv_icmp_ne hx hb hdg htg (fun c => ht c h1 h2 H locs ls hG hS hl) (fun c => hf (fun n => n c) h1 h2 H locs ls hG hS hl)
    case lt => exact lv_icmp_lt hx hb hdg htg (fun c => ht c h1 h2 H locs ls hG hS hl) (fun c => hf c h1 h2 H locs ls hG hS hl)
    case ge => exact lv_icmp_ge hx hb hdg htg (fun c => ht c h1 h2 H locs ls hG hS hl) (fun c => hf c h1 h2 H locs ls hG hS hl)
    case gt => exact lv_icmp_gt hx hb hdg htg (fun c => ht c h1 h2 H locs ls hG hS hl) (fun c => hf c h1 h2 H locs ls hG hS hl)
    case le => exact lv_icmp_le hx hb hdg htg (fun c => ht c h1 h2 H locs ls hG hS hl) (fun c => hf c h1 h2 H locs ls hG hS hl)
  case ifCond cd o =>
    obtain ⟨x, r, rfl, ht, hf⟩ := h
    simp only [lnkB, Bool.and_eq_true, decide_eq_true_eq] at hk
    obtain ⟨htg, hlen⟩ := hk; subst hlen
    intro h1 h2 H locs ls hG hS hl
    cases cd
    case eq => exact lv_if_eq hx hb hdg htg (fun c => ht c h1 h2 H locs ls hG hS hl) (fun c => hf c h1 h2 H locs ls hG hS hl)
    case ne => exact lv_if_ne hx hb hdg htg (fun c => ht c h1 h2 H locs ls hG hS hl) (fun c => hf (fun n => n c) h1 h2 H locs ls hG hS hl)
    case lt => exact lv_if_lt hx hb hdg htg (fun c => ht c h1 h2 H locs ls hG hS hl) (fun c => hf c h1 h2 H locs ls hG hS hl)
    case ge => exact lv_if_ge hx hb hdg htg (fun c => ht c h1 h2 H locs ls hG hS hl) (fun c => hf c h1 h2 H locs ls hG hS hl)
    case gt => exact lv_if_gt hx hb hdg htg (fun c => ht c h1 h2 H locs ls hG hS hl) (fun c => hf c h1 h2 H locs ls hG hS hl)
    case le => exact lv_if_le hx hb hdg htg (fun c => ht c h1 h2 H locs ls hG hS hl) (fun c => hf c h1 h2 H locs ls hG hS hl)
  case goto o =>
    simp only [lnkB, Bool.and_eq_true, decide_eq_true_eq] at hk
    obtain ⟨htg, hlen⟩ := hk; subst hlen
    intro h1 h2 H locs ls hG hS hl
    exact lv_goto hx hb hdg htg (h h1 h2 H locs ls hG hS hl)
  case tableswitch df lo hi offs =>
    obtain ⟨x, r, t, rfl, hsw, kk⟩ := h
    intro h1 h2 H locs ls hG hS hl
    simp only [swT] at hsw
    split at hsw
    · next hout => exact lv_tableOut hx hb hdg hout (Option.some.inj hsw) (kk h1 h2 H locs ls hG hS hl)
    · next hin =>
      obtain ⟨off, ho, ht⟩ := Option.map_eq_some_iff.mp hsw
      exact lv_tableIn hx hb hdg (fun q => hin (Or.inl q)) (fun q => hin (Or.inr q)) ho ht (kk h1 h2 H locs ls hG hS hl)
  case lookupswitch df ps =>
    obtain ⟨x, r, t, rfl, hsw, kk⟩ := h
    intro h1 h2 H locs ls hG hS hl
    simp only [swT] at hsw
    simp only [lnkB] at hk
    exact lv_lookup hx hb hdg hk rfl (Option.some.inj hsw) (kk h1 h2 H locs ls hG hS hl)
  case ireturn =>
    obtain ⟨w, ty, rfl, hrt, hn, hpost⟩ := h
    simp only [lnkB, decide_eq_true_eq] at hk
    subst hk
    intro h1 h2 H locs ls hG hS hl
    exact hF.1 w ty S H locs ls pc kc ks hdg hrt hn hpost hG hS h1 h2
  case lreturn =>
    obtain ⟨w, rfl, hrt, hpost⟩ := h
    simp only [lnkB, decide_eq_true_eq] at hk
    subst hk
    intro h1 h2 H locs ls hG hS hl
    exact hF.2.1 w S H locs ls pc kc ks hdg hrt hpost hG hS h1 h2
  case return_ =>
    obtain ⟨rfl, hrt, hpost⟩ := h
    simp only [lnkB, decide_eq_true_eq] at hk
    subst hk
    intro h1 h2 H locs ls hG hS hl
    exact hF.2.2 S H locs ls pc kc ks hdg hrt hpost hG hS h1 h2
  case invokevirtual n =>
    obtain ⟨k', As, rest, mc, ms, rfl, hna, hok, hcat, hc1, hc2, hEx⟩ := h
    simp only [lnkB, Bool.and_eq_true, decide_eq_true_eq] at hk
    obtain ⟨⟨⟨hlen, hml2⟩, hvm⟩, hb0⟩ := hk; subst hlen
    obtain ⟨hm, hM⟩ := hE _ _ _ _ _ _ hEx
    intro h1 h2 H locs ls hG hS hl
    have hc := VM_12 _ hvm
    have hna' := VM_na _ (List.mem_append_left _ hvm)
    have recv : ∃ cellB : Cell, H[base + k']? = some cellB ∧ cellB.vm.isStatics = false ∧ s.vm.findClass (RN (mt a).2.2.2.2.1) = some cellB.cls := by
      have h := hG.2 k' _ _ hok
      unfold cellOK at h
      rw [if_pos hc] at h
      obtain ⟨-, cell, q1, q2, q3, q4⟩ := h
      exact ⟨cell, q1, by rw [q3]; rfl, by rw [q2]; exact (hK.1 _ _ (clsL_at hc)).2.1⟩
    have hn : As.length = (mt a).2.2.2.2.2 - 1 := by
      have : As.length + 1 = (mt a).2.2.2.2.2 := hna
      omega
    refine g_call (va_runV (As := As.map (cv base b)) (rest := rest.map (cv base b)) (b := base + k') (C := RN (mt a).2.2.2.2.1) ⟨hx, hb, hml, hown, hts⟩ hM ⟨callB_of _ hts (wsM_good hm) rfl rfl rfl (mt_ini hm hts) (hts _ (GT_in (MLT_ok _ hml2) rfl)) ⟨(mt_not hm).1, (mt_not hm).2, hna'.1⟩ (callOK hm mc ms), hts _ (GT_in (VM_ok _ hvm).1 rfl), hts _ (GT_in (VM_ok _ hvm).2 rfl)⟩
      ⟨cPre.blind _ _ _ _ _ _, recv, pre (.ref k' :: As) hG⟩ rfl (by rw [List.length_map]; exact hn) hl.1 (by simp [List.map_append, List.map_reverse, cv]) (lv_room (by rw [cats_cv]; exact hcat)) hdg ⟨by rw [hRc]; exact hc1, by rw [hRs]; exact hc2⟩) hS (fun r S' H1 locs1 hp hG1 hS1 => ?_)
    rw [r_map]
    exact hp hc1 hc2 H1 locs1 ls hG1 hS1 hl
  case invokestatic n =>
    rcases h with ⟨c', O, hs, ho, kk⟩ | ⟨hb1, As, rest, mc, ms, rfl, hna, hcat, hc1, hc2, hEx⟩
    · exact sx_sound hA0 hdg hk hs ho kk
    · simp only [lnkB, Bool.and_eq_true, decide_eq_true_eq] at hk
      obtain ⟨hlen, hk⟩ := hk; subst hlen
      obtain ⟨hm, hM⟩ := hE _ _ _ _ _ _ hEx
      intro h1 h2 H locs ls hG hS hl
      have hb1 : bb ≤ 1 := hb1
      have hb01 : bb = 0 ∨ bb = 1 := by omega
      have hn : As.length = (mt a).2.2.2.2.2 := hna
      rcases hb01 with rfl | rfl
      · simp only [Bool.and_eq_true, decide_eq_true_eq] at hk
        refine g_call (va_runS (As := As.map (cv base b)) (rest := rest.map (cv base b)) ⟨hx, hb, hml, hown, hts⟩ hM ⟨callB_of _ hts (wsM_good hm) rfl rfl rfl (mt_ini hm hts) (hts _ (GT_in (MLT_ok _ hk.1) rfl)) ⟨(mt_not hm).1, (mt_not hm).2, SM_na _ hk.2⟩ (callOK hm mc ms), hts _ (GT_in (SM_ok _ hk.2) rfl)⟩
          ⟨cPre.blind _ _ _ _ _ _, pre As hG⟩ rfl (by rw [List.length_map]; exact hn) hl.1 (by simp [List.map_append, List.map_reverse]) (lv_room (by rw [cats_cv]; exact hcat)) hdg ⟨by rw [hRc]; exact hc1, by rw [hRs]; exact hc2⟩) hS (fun r S' H1 locs1 hp hG1 hS1 => ?_)
        rw [r_map]
        exact hp hc1 hc2 H1 locs1 ls hG1 hS1 hl
      · simp only [Bool.and_eq_true, decide_eq_true_eq] at hk
        refine g_call (va_runSN (As := As.map (cv base b)) (rest := rest.map (cv base b)) ⟨hx, hb, hml, hown, hts⟩ hM ⟨va_cnB _ hts (wsM_good hm) rfl rfl rfl (hN _ hk.1) (mt_ini hm hts) ⟨(mt_not hm).1, (mt_not hm).2, SM_na _ hk.2⟩ (callOK hm mc ms), hts _ (GT_in (SM_ok _ hk.2) rfl), trivial⟩
          ⟨cPre.blind _ _ _ _ _ _, pre As hG⟩ rfl (by rw [List.length_map]; exact hn) hl.1 (by simp [List.map_append, List.map_reverse]) (lv_room (by rw [cats_cv]; exact hcat)) hdg ⟨by rw [hRc]; exact hc1, by rw [hRs]; exact hc2⟩) hS (fun r S' H1 locs1 hp hG1 hS1 => ?_)
        rw [r_map]
        exact hp hc1 hc2 H1 locs1 ls hG1 hS1 hl
  case invokespecial n =>
    rcases h with ⟨c', O, hs, ho, kk⟩ | ⟨hb1, k', As, rest, mc, ms, rfl, hna, hcat, hc1, hc2, hEx⟩
    · exact sx_sound hA0 hdg hk hs ho kk
    · simp only [lnkB, Bool.and_eq_true, decide_eq_true_eq] at hk
      obtain ⟨hlen, hk⟩ := hk; subst hlen
      obtain ⟨hm, hM⟩ := hE _ _ _ _ _ _ hEx
      intro h1 h2 H locs ls hG hS hl
      have hb1 : bb ≤ 1 := hb1
      have hb01 : bb = 0 ∨ bb = 1 := by omega
      rcases hb01 with rfl | rfl
      · simp only [Bool.and_eq_true, decide_eq_true_eq] at hk
        have hI := IM_ok _ hk.2
        have hna' := VM_na _ (List.mem_append_right _ hk.2)
        have hn : As.length = (mt a).2.2.2.2.2 - 1 := by
          have : As.length + 1 = (mt a).2.2.2.2.2 := hna
          omega
        have hcb := callB_of (bytes := (mt a).2.1) (maxL := (mt a).2.2.1) (ret := (mt a).2.2.2.1) _ hts (wsM_good hm) rfl (rm := rmD d mc ms) rfl rfl (mt_ini hm hts) (hts _ (GT_in (MLT_ok _ hk.1) rfl)) ⟨(mt_not hm).1, (mt_not hm).2, hna'.1⟩ (callOK hm mc ms)
        rw [hI.2.2] at hcb
        refine g_call (va_runI (As := As.map (cv base b)) (rest := rest.map (cv base b)) (b := base + k') ⟨hx, hb, hml, hown, hts⟩ hM ⟨hcb, hI.2.1, hts _ (GT_in hI.1 rfl)⟩
          ⟨cPre.blind _ _ _ _ _ _, pre (.ref k' :: As) hG⟩ rfl (by rw [List.length_map]; exact hn) hl.1 (by simp [List.map_append, List.map_reverse, cv]) (lv_room (by rw [cats_cv]; exact hcat)) hdg ⟨by rw [hRc]; exact hc1, by rw [hRs]; exact hc2⟩) hS (fun r S' H1 locs1 hp hG1 hS1 => ?_)
        rw [r_map]
        exact hp hc1 hc2 H1 locs1 ls hG1 hS1 hl
      · simp only [Bool.and_eq_true, decide_eq_true_eq] at hk
        have hI := IM_ok _ hk.2
        have hna' := VM_na _ (List.mem_append_right _ hk.2)
        have hn : As.length = (mt a).2.2.2.2.2 - 1 := by
          have : As.length + 1 = (mt a).2.2.2.2.2 := hna
          omega
        have hcb := va_cnB (bytes := (mt a).2.1) (maxL := (mt a).2.2.1) (ret := (mt a).2.2.2.1) _ hts (wsM_good hm) rfl (rm := rmD d mc ms) rfl rfl (hN _ hk.1) (mt_ini hm hts) ⟨(mt_not hm).1, (mt_not hm).2, hna'.1⟩ (callOK hm mc ms)
        rw [hI.2.2] at hcb
        refine g_call (va_runIN (As := As.map (cv base b)) (rest := rest.map (cv base b)) (b := base + k') ⟨hx, hb, hml, hown, hts⟩ hM ⟨hcb, hI.2.1, hts _ (GT_in hI.1 rfl)⟩
          ⟨cPre.blind _ _ _ _ _ _, pre (.ref k' :: As) hG⟩ rfl (by rw [List.length_map]; exact hn) hl.1 (by simp [List.map_append, List.map_reverse, cv]) (lv_room (by rw [cats_cv]; exact hcat)) hdg ⟨by rw [hRc]; exact hc1, by rw [hRs]; exact hc2⟩) hS (fun r S' H1 locs1 hp hG1 hS1 => ?_)
        rw [r_map]
        exact hp hc1 hc2 H1 locs1 ls hG1 hS1 hl
  all_goals
    rcases h with ⟨c', O, hs, ho, kk⟩ | h
    · exact sx_sound hA0 hdg hk hs ho kk
    · exact False.elim h
end GSND
theorem lv_args_map (base b : Nat) : ∀ (As : List Value) (i : Nat), lv_args i (As.map (cv base b)) = (lv_args i As).map (cvp base b)
  | [], _ => rfl
  | v :: vs, i => by
    simp only [List.map_cons, lv_args, cat_cv', cvp]
    rw [lv_args_map base b vs]
theorem lg_sl_len (base b : Nat) : ∀ As : List Value, (lg_sl (As.map (cv base b))).length = cats As
  | [] => rfl
  | v :: vs => by
    have ih := lg_sl_len base b vs
    unfold lg_sl at ih ⊢
    unfold cats at ih ⊢
    simp only [List.map_cons, List.flatMap_cons, List.length_append, ih, List.sum_cons, cat_cv']
    rcases lv_cat v with h | h <;> simp [h]
set_option maxHeartbeats 4000000 in
/-- every call of the small machine is one of the bytecode -/
theorem sound (l : Launch) (D : va_G) (cy : Nat → ClassId) (base b : Nat) : ∀ d, ESnd l D cy base b d (Ex d)
  | 0 => fun _ _ _ _ _ _ h => h.elim
  | d + 1 => by
    intro m As S mc ms Post h
    obtain ⟨hm, hw, hR⟩ := h
    refine ⟨hm, ?_⟩
    obtain ⟨hmt, hm14, hm13, hm12⟩ := MM_all m hm
    have hcls := MT_cls _ (mt_in hmt)
    refine Met.ofW (cc := (mt m).2.1) (maxL := (mt m).2.2.1) (ret := (mt m).2.2.2.1) (by rw [hcls]; exact (RN_plain _ hm14 hm13).1) rfl ?_
    intro p e s mid args below meth c s₁ B hml hv
    obtain ⟨rfl, hG, hK, hAO, hN⟩ := hv
    have hts0 := atoms_spec (ws := wsM m) B.pre
    have hts : ∀ w ∈ GT, w.before (As.map (cv base b)).toArray s = true := fun w hw => hts0 w (List.mem_cons_of_mem _ hw)
    have hown : s.vm.findClass (RN (mt m).2.2.2.2.1) = some mid.cls := by
      rw [← hcls]; exact findClass_of_methodNamed B.named
    have hlocks := B.notSynchronized
    have hr := B.returns
    have hini : isIni m = true → meth.name = "<init>" := by
      intro h
      have h1 : m ∈ IMs := of_decide_eq_true h
      rw [(name_of_methodNamed B.named B.method).1]
      exact (IM_ok m h1).2.1
    have hA : Amb l p (headSpec (wsM m) (rmD (d + 1) mc ms)).room s mid (As.map (cv base b)).toArray meth c (mt m).2.1 D cy base b (mt m).2.2.2.2.1 (mt m).2.2.1 d (isIni m) (Ex d) (mc, ms) none :=
      ⟨B.exec, B.bytes, hml, hown, hts, hK, hAO, hN, hini, rfl, rfl, Nat.le_refl _, Nat.le_refl _, sound l D cy base b d, fun n xs h => by cases h⟩
    have hF : Fin3 p l e (headSpec (wsM m) (rmD (d + 1) mc ms)).room s mid (As.map (cv base b)).toArray below meth c (MQ below (cPost D cy base b Post) (As.map (cv base b)).toArray s mc ms (fun q => base ≤ q)) (mt m).2.1 D cy base b (mt m).2.2.2.1 (mc, ms) Post := by
      refine ⟨?_, ?_, ?_⟩
      · intro v ty S H locs ls pc kc ks hdg hrt hn hpost hG hS h1 h2
        refine W.widen (k := mc) (n := ms) h1 h2 ?_
        exact W.zret B.exec B.bytes (hr.trans hrt) hn (fun t ht hW => ⟨⟨some (.int v), S, rfl, hpost, by rw [ht]; exact hG⟩, hS.F ht⟩) hS.2.2 hdg
      · intro v S H locs ls pc kc ks hdg hrt hpost hG hS h1 h2
        refine W.widen (k := mc) (n := ms) h1 h2 ?_
        exact W.lret B.exec B.bytes (hr.trans hrt) (fun t ht hW => ⟨⟨some (.long v), S, rfl, hpost, by rw [ht]; exact hG⟩, hS.F ht⟩) hS.2.2 hdg
      · intro S H locs ls pc kc ks hdg hrt hpost hG hS h1 h2
        refine W.widen (k := mc) (n := ms) h1 h2 ?_
        exact W.vret B.exec B.bytes (hr.trans hrt) (fun t ht hW => ⟨⟨none, S, rfl, hpost, by rw [ht]; exact hG⟩, hS.F ht⟩) hS.2.2 hdg
    have hP := hR _ (snd_clo hA hF) (Nat.zero_le _) (Nat.zero_le _) s.heap []
    have hl := lv_entry (As.map (cv base b)) (n := (mt m).2.2.1) (by rw [lg_sl_len]; exact hw)
    rw [lv_args_map] at hl
    rw [lg_entry_eq]
    exact hP _ hG va_S.rf hl
end
section
/-! ===== the law, as a run of the small machine ===== -/
def S00 : Sto := ([], fun _ _ => 0, fun _ _ => 0, fun _ _ => none)
theorem law_pure : ∀ (L : Nat) (xs : Nat → Int32), L ≤ 3584 → ∃ d, d ≤ 2000 ∧ Runs (Ex d) code 12 false 4 (some .boolean) (some (L, xs)) (600000, 7302250) (fun r _ => r = some (.int 1)) 0 [(0, .retAddr 0)] [] S00 0 0 := sorry
end
section
/-! THE CLAIM OUT OF ONE WALK OF THE LAW'S BODY. Your part is whole_start (and what it stands on); all else here is the same for every law, but numbers. -/
def R_law : String := "AnswerDoorLaw"
def lw_P (b : Addr) (xs : List Int32) (args : Array Value) (s : State) : Prop := args = #[.ref b] ∧ s.IntsAt b xs ∧ xs.length ≤ 3584 ∧ (Jvm.Cond.and given_1 narrow_1).before args s = true
def lw_Q (_ : Array Value) (s : State) (o : Outcome) (t : State) : Prop := o = .returned (some (.int 1)) ∧ Framed s o t [] 600000 7302250
def lw_Z (below : List Frame) (a : Array Value) (s : State) : State → Prop := fun t => ∃ o, t.status = .running ∧ Ended t below o ∧ lw_Q a s o t
/-- the law's own end, with 1 on the stack, nothing written that was there before, its room as the claim has it -/
theorem lw_ret {p : Program} {l : Launch} {e : Env} {s : State} {m : MethodId} {below : List Frame} {meth : Method} {c : Code} {b : Nat} (hx : p.tables.exec = Jvm.exec) (hb : c.code = code) (hr : meth.sig.returnType = ret) (hlocks : meth.locks = false) {pc : Nat} {H : Heap} {ls : Array Slot} (hdg : decode code pc = .ok (.ireturn, 1)) : W p l e room_1 s m #[Value.ref b] below meth c H [] 600000 7302250 (lw_Z below #[Value.ref b] s) (F0 m pc ls [.int 1]) := by
  intro T hT X
  obtain ⟨fs, hret, hrun, hended, hW, hframe⟩ := X.leave (v := some (.int 1)) (hlocks := hlocks) (fun h => by rw [hr] at h; cases h)
  have hmeth' : T.vm.method? m = some meth := X.method'
  refine ⟨T.setFrames fs, ?_, .returned (some (.int 1)), hrun, hended, rfl, ⟨_, rfl⟩, hW, hframe⟩
  jvm_step X.here [X.here.top, hx, hb, hdg, hmeth', hr, ret, narrow_b1]
  (try refine ⟨rfl, ?_⟩); (try refine ⟨rfl, ?_⟩)
  first | (intro acts; rw [hret _ acts rfl rfl rfl]) | rw [hret _ _ rfl rfl rfl]
  exact Steps.refl _
/-- what holds at the law's entry: the machine, the code, the tables' words (any of lw_tbl by 'hts w (by decide +kernel)'), the script of L ints xs at the cell b, what the Statement gives of the start (any of its parts by flat_of_before) -/
def lw_At (p : Program) (s : State) (m : MethodId) (meth : Method) (c : Code) (b L : Nat) (xs : Nat → Int32) : Prop :=
  p.tables.exec = Jvm.exec ∧ c.code = code ∧ meth.sig.returnType = ret ∧ c.maxLocals = 4 ∧ s.vm.findClass R_law = some m.cls ∧ (∀ w ∈ lw_tbl, w.before #[Value.ref b] s = true) ∧ va_X b L xs s s.heap ∧ b < s.heap.size ∧ meth.locks = false ∧ (Jvm.Cond.and given_1 narrow_1).before #[Value.ref b] s = true
theorem kn_all {args : Array Value} {s : State} (hts : ∀ w ∈ lw_tbl, w.before args s = true) : ∃ (dC : Nat → ClassId) (dI : Nat → Nat → Nat), ∀ (k : Nat) (q : vw_C), clsL[k]? = some q → u_Kn s q.1 q.2.1 q.2.2 (dC k) (dI k) := by
  have h : ∀ k : Nat, ∃ (cC : ClassId) (iS : Nat → Nat), k < 12 → u_Kn s (RN k) (TN k) (NN k) cC iS := by
    intro k
    by_cases hk : k < 12
    · obtain ⟨cC, iS, h⟩ := u_known (C := RN k) (T := TN k) (N := NN k) (n := NN k) hts (inN k hk) (hts _ (INS_ok k hk))
      exact ⟨cC, iS, fun _ => h⟩
    · exact ⟨default, fun _ => 0, fun h => absurd h hk⟩
  refine ⟨fun k => Classical.choose (h k), fun k => Classical.choose (Classical.choose_spec (h k)), fun k q hq => ?_⟩
  by_cases hk : k < 12
  · have e := Option.some.inj ((clsL_at hk).symm.trans hq)
    subst e
    exact Classical.choose_spec (Classical.choose_spec (h k)) hk
  · exfalso
    have : k < clsL.length := (List.getElem?_eq_some_iff.mp hq).1
    simp [clsL] at this
    exact hk this
theorem ar_one {args : Array Value} {s : State} {ty : FieldType} (h : (Jvm.Cond.arrayClass ty).before args s = true) (hty : ∀ C, ty ≠ .object C) : ∃ cA : ClassId, ArrOfT s cA ty ∧ va_RA s cA ty := by
  obtain ⟨cA, kA, comp, h1, h2, h3⟩ := Cond.arrayClass_spec h
  refine ⟨cA, fun n z => ⟨fun k h => (by cases h), kA, h2, comp, h3⟩, ?_⟩
  cases ty <;> first | exact h1 | exact absurd rfl (hty _)
theorem ar_all {args : Array Value} {s : State} (hts : ∀ w ∈ lw_tbl, w.before args s = true) : ∃ cy : Nat → ClassId, ∀ (k : Nat) (q : ClassId × FieldType), (tysOf cy)[k]? = some q → ArrOfT s q.1 q.2 ∧ va_RA s q.1 q.2 := by
  obtain ⟨w1, w2, w3, w4, w5⟩ := AR_ok
  obtain ⟨c1, a1⟩ := ar_one (hts _ w1) (by intro C h; cases h)
  obtain ⟨c2, a2⟩ := ar_one (hts _ w2) (by intro C h; cases h)
  obtain ⟨c3, a3⟩ := ar_one (hts _ w3) (by intro C h; cases h)
  obtain ⟨c4, a4⟩ := ar_one (hts _ w4) (by intro C h; cases h)
  obtain ⟨comp, c5, k, h1, h2, h3, h4, h5⟩ := Cond.arrayOver_spec (hts _ w5)
  refine ⟨fun n => if n = 12 then c1 else if n = 13 then c2 else if n = 14 then c3 else if n = 15 then c4 else c5, fun j q hq => ?_⟩
  match j, hq with
  | 0, hq => cases hq; exact a1
  | 1, hq => cases hq; exact a2
  | 2, hq => cases hq; exact a3
  | 3, hq => cases hq; exact a4
  | 4, hq => cases hq; exact ⟨fun N z => ⟨(fun k h => by cases h), k, h3, comp, h4⟩, k, comp, h3, h4, h1, h5⟩
  | j + 5, hq => simp [tysOf] at hq
set_option maxHeartbeats 4000000 in
/-- from the entry, for every script of at most 3584 ints, the law comes to its end with true -/
theorem whole_start {p : Program} {e : Env} {s : State} {m : MethodId} {below : List Frame} {meth : Method} {c : Code} (l : Launch) {b L : Nat} {xs : Nat → Int32} (hL : L ≤ 3584) (C0 : lw_At p s m meth c b L xs) : W p l e room_1 s m #[Value.ref b] below meth c s.heap [] 0 0 (lw_Z below #[Value.ref b] s) (entryFrame m ([Value.ref b] : List Value).toArray 4) := by
  obtain ⟨hx, hb, hr, hml, hown, hts, hX, hbl, hlocks, hgv⟩ := id C0
  obtain ⟨dC, dI, hKc⟩ := kn_all hts
  obtain ⟨cy, hcy⟩ := ar_all hts
  obtain ⟨d, hd, hrun⟩ := law_pure L xs hL
  have hK : va_K (dC, dI) clsL (tysOf cy) s := ⟨hKc, hcy⟩
  have hA : Amb l p room_1 s m #[Value.ref b] meth c code (dC, dI) cy s.heap.size b 12 4 d false (Ex d) (600000, 7302250) (some (L, xs)) :=
    ⟨hx, hb, hml, hown, fun w hw => hts w (List.mem_filter.mp hw).1, hK, va_AO.of (hts _ AR_ok.2.2.2.2), fun q hq => va_Nw.of rfl (hts _ (MNT_ok q hq)), fun h => (by cases h), rfl, rfl, (by show d + 1 ≤ 2048; omega), (by show 40 * (d + 1) ≤ 84000; omega), sound l _ _ _ _ d,
      fun n ys h => (by cases h; exact ⟨hX, hbl, hbl⟩)⟩
  have hF : Fin3 p l e room_1 s m #[Value.ref b] below meth c (lw_Z below #[Value.ref b] s) code (dC, dI) cy s.heap.size b (some .boolean) (600000, 7302250) (fun r _ => r = some (.int 1)) := by
    refine ⟨?_, ?_, ?_⟩
    · intro v ty S H locs ls pc kc ks hdg hrt hn hpost hG hS h1 h2
      cases hpost
      refine W.widen (k := 600000) (n := 7302250) h1 h2 ?_
      refine va_forget (fun q hq => hS.2.2 q hq) ?_
      exact lw_ret hx hb hr hlocks hdg
    · intro v S H locs ls pc kc ks hdg hrt
      cases hrt
    · intro S H locs ls pc kc ks hdg hrt
      cases hrt
  have hP := hrun _ (snd_clo hA hF) (Nat.zero_le _) (Nat.zero_le _) s.heap []
  have hl := lv_entry ([.ref b]) (n := 4) (Nat.le_of_ble_eq_true rfl)
  rw [lg_entry_eq]
  exact hP _ ⟨rfl, fun k c n h => (by simp [S00] at h)⟩ va_S.rf hl
-- ===== YOUR PART ENDS =====
set_option maxHeartbeats 4000000 in
theorem lw_walk (l : Launch) (b : Addr) (xs : List Int32) : MetFree l x (headSpec (Jvm.Cond.code x code maxLocals ret :: tables_1) room_1) (lw_P b xs) (fun _ _ _ _ _ => True) lw_Q := by
  refine MetFree.of_bodyS (code := code) (maxLocals := maxLocals) (ret := ret) (by decide) ?_ ?_
  · intro args s m h hn
    obtain ⟨meth, c, h1, h2, h3, h4, h5, h6, -, -⟩ := Cond.code_spec hn (atoms_spec (ws := Jvm.Cond.code x code maxLocals ret :: tables_1) h _ List.mem_cons_self)
    exact ⟨meth, c, h1, h2, h3, h4, h5, h6⟩
  · intro p e s m args below meth c s₁ B hml0 hP _
    obtain ⟨rfl, hx, hbd, hgv⟩ := hP
    obtain ⟨scr, harrAt, hlist, hof, hsmall⟩ := hx
    obtain ⟨hcb, hkn, -, -⟩ := State.arrayAt?_spec harrAt
    have hown : s.vm.findClass R_law = some m.cls := findClass_of_methodNamed B.named
    have hts0 : ∀ c ∈ (Jvm.Cond.code x code maxLocals ret :: tables_1), c.before #[Value.ref b] s = true := atoms_spec (ws := Jvm.Cond.code x code maxLocals ret :: tables_1) B.pre
    have hts : ∀ w ∈ lw_tbl, w.before #[Value.ref b] s = true := k2_hts_sels lw_privs (fun w hw => hts0 w (List.mem_cons_of_mem _ hw)) lw_privs_ok
    have hml : c.maxLocals = 4 := B.maxLocals_eq (hts0 _ List.mem_cons_self)
    have X₀ : Stand p l e room_1 s m #[Value.ref b] below meth c s₁ [] 0 0 := Stand.of_body B
    have hh0 : s₁.heap = s.heap := by rw [B.state]; rfl
    have hsz : scr.slots.size = xs.length := by rw [← Array.length_toList, hlist, List.length_map]
    have hval : ∀ j : Nat, j < xs.length → scr.slots[j]? = some (.int (xs.getD j 0)) := fun j hj => by
      rw [← Array.getElem?_toList, hlist]
      simp [hj]
    have hbl : b < s.heap.size := (Array.getElem?_eq_some_iff.mp hcb).1
    have hX : va_X b xs.length (fun j => xs.getD j 0) s s.heap := ⟨scr, hcb, hof, hkn, hsz, hval⟩
    have K : W p l e room_1 s m #[Value.ref b] below meth c s₁.heap [] 0 0 (lw_Z below #[Value.ref b] s) (entryFrame m ([Value.ref b] : List Value).toArray 4) := by
      rw [hh0]
      exact whole_start l hbd ⟨B.exec, B.bytes, B.returns, hml, hown, hts, hX, hbl, B.notSynchronized, hgv⟩
    obtain ⟨t, a1, o, b1, b2, b3⟩ := K s₁ rfl X₀
    exact ⟨t, o, a1, b1, b2, b3⟩
theorem lw_pre_spec {args : Array Value} {s : State} (h : (Jvm.Cond.and given_1 narrow_1).before args s = true) (hr : rest_1_c.before args s = true) : ∃ (b : Addr) (xs : List Int32), lw_P b xs args s := by
  have hs := flat_of_before _ h
  have hq := flat_of_before _ hr
  have hc : (Cond.count 1).before args s = true := hs _ (by decide +kernel)
  have harr : (Cond.arrayOf (.arg 0) .int).before args s = true := hs _ (by decide +kernel)
  have hle : (Cond.le (.length (.arg 0)) (.int 3584)).before args s = true := hs _ (by decide +kernel)
  have hlen : (Cond.isInt (.length (.arg 0))).before args s = true := hq _ (by decide +kernel)
  have hall : (Cond.all (.arg 0) (.isInt (.elem (.arg 0) (.index 0)))).before args s = true := hq _ (by decide +kernel)
  obtain ⟨b, xs, hb, hx⟩ := State.ints_of_pre rfl harr hlen hall
  have hsm : xs.length < 2 ^ 31 := hx.choose_spec.2.2.2
  have hev : (Term.length (.arg 0)).eval args s none [] s = some (.int xs.length.toInt32) := hx.length_eval hb
  have hv := Cond.le_ints hev (show (Term.int 3584).eval args s none [] s = some (.int 3584) from rfl)
  have hd : xs.length.toInt32 ≤ 3584 := by
    simpa [Cond.before, Cond.holds, hv] using hle
  have hN : xs.length ≤ 3584 := (Int32.ofNat_le_ofNat hsm (by decide)).mp (show Int32.ofNat xs.length ≤ Int32.ofNat 3584 from hd)
  exact ⟨b, xs, Cond.one_arg hc (show args[0]? = some (.ref b) from hb), hx, hN, h⟩
theorem lw_comes (l : Launch) : Comes l x (Jvm.Cond.code x code maxLocals ret :: tables_1) room_1 (fun tb e args s => Calls_1 tb e args s ∧ rest_1 tb e args s ∧ Pre_1 tb e args s)
    (fun _ _ args s o t => lw_Q args s o t) := by
  intro p e ha hc hk s m args below hf hfit hheap happ hpre
  obtain ⟨b, xs, hP⟩ := lw_pre_spec hpre.2.2 hpre.2.1
  obtain ⟨k, o, h1, h2, h3, hQ⟩ := lw_walk l b xs p e ha hc hk s m args below hf ((Spec.applies_iff_loose hf).mp happ).1 hP trivial
  exact ⟨k, o, h1, h2, h3, hQ⟩
theorem lw_frame {s t : State} {o : Outcome} {args : Array Value} (h : Framed s o t [] 600000 7302250) :
    Framed s o t (fieldLocs frame_1_writes args s ++ arrayLocs frame_1_arrays args s ++ staticLocs frame_1_statics s) 600000 7302250 := h
theorem lw_limb (L : Cond) (hL : ∀ (args : Array Value) (s t : State), L.after args s (.returned (some (.int 1))) t = true) :
    ArmFor flags0 classFile x code maxLocals ret World_1 tables_1 room_1 Calls_1 rest_1 Pre_1
      (fun tb e a s o t => postC L tb e a s o t ∧ Framed s o t (fieldLocs frame_1_writes a s ++ arrayLocs frame_1_arrays a s ++ staticLocs frame_1_statics s) 600000 7302250) := by
  intro l _ _ _ p e ha hc hk s m args below hf hfit hheap happ hpre
  obtain ⟨k, o, h1, h2, h3, rfl, hF⟩ := lw_comes l p e ha hc hk s m args below hf hfit hheap happ hpre
  exact ⟨k, _, h1, h2, h3, hL args s _, lw_frame hF⟩
theorem i_vc : Claimed_1_1 ∧ Claimed_1_2 := ⟨lw_limb limb_1_1 (fun args s t => by simp [limb_1_1, Cond.after, Cond.holds, Cond.value]), lw_limb limb_1_2 (fun args s t => Cond.after_iff.mpr (by
  first | (rw [show limb_1_2 = Cond.eq .result (.int 1) from rfl, Cond.eq_ints (x := 1) (y := 1) rfl rfl]; simp; done) | (simp [limb_1_2, Cond.value, Term.eval]; done)))⟩
end
