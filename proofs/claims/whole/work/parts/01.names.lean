-- ===== PART A: goes FIRST, ahead of the names: the tables' words, and 'selects' of the private methods out of them =====
/-- a private method of a class that the tables say can be made, by its rows of tables_1 -/
def lw_okq (q : MethodName × Nat) : Prop := (q.1.cls ≠ "java/lang/invoke/MethodHandle" ∧ q.1.cls ≠ "java/lang/invoke/VarHandle") ∧ Cond.instantiable q.1.cls q.2 ∈ tables_1 ∧ Cond.privateMethod q.1 ∈ tables_1 ∧ Cond.instanceMethod q.1 ∈ tables_1
theorem lw_p0 : lw_okq (⟨"SessionSimulator", "beginSession", "(II)V"⟩, 5) := ⟨⟨by decide +kernel, by decide +kernel⟩, List.mem_of_getElem? (i := 16) (by decide +kernel), List.mem_of_getElem? (i := 420) (by decide +kernel), List.mem_of_getElem? (i := 421) (by decide +kernel)⟩
theorem lw_p1 : lw_okq (⟨"SessionSimulator", "changeState", "(LSessionSimulator$Endpoint;I)V"⟩, 5) := ⟨⟨by decide +kernel, by decide +kernel⟩, List.mem_of_getElem? (i := 16) (by decide +kernel), List.mem_of_getElem? (i := 424) (by decide +kernel), List.mem_of_getElem? (i := 425) (by decide +kernel)⟩
theorem lw_p2 : lw_okq (⟨"SessionSimulator", "sendHello", "()V"⟩, 5) := ⟨⟨by decide +kernel, by decide +kernel⟩, List.mem_of_getElem? (i := 16) (by decide +kernel), List.mem_of_getElem? (i := 432) (by decide +kernel), List.mem_of_getElem? (i := 433) (by decide +kernel)⟩
theorem lw_p3 : lw_okq (⟨"SessionSimulator", "sendPlain", "(LSessionSimulator$Endpoint;IIII)Z"⟩, 5) := ⟨⟨by decide +kernel, by decide +kernel⟩, List.mem_of_getElem? (i := 16) (by decide +kernel), List.mem_of_getElem? (i := 436) (by decide +kernel), List.mem_of_getElem? (i := 437) (by decide +kernel)⟩
theorem lw_p4 : lw_okq (⟨"SessionSimulator", "noteSent", "(LSessionSimulator$Packet;)V"⟩, 5) := ⟨⟨by decide +kernel, by decide +kernel⟩, List.mem_of_getElem? (i := 16) (by decide +kernel), List.mem_of_getElem? (i := 448) (by decide +kernel), List.mem_of_getElem? (i := 449) (by decide +kernel)⟩
theorem lw_p5 : lw_okq (⟨"SessionSimulator", "breakOff", "(LSessionSimulator$Endpoint;)V"⟩, 5) := ⟨⟨by decide +kernel, by decide +kernel⟩, List.mem_of_getElem? (i := 16) (by decide +kernel), List.mem_of_getElem? (i := 461) (by decide +kernel), List.mem_of_getElem? (i := 462) (by decide +kernel)⟩
theorem lw_p6 : lw_okq (⟨"SessionSimulator", "endpointOf", "(I)LSessionSimulator$Endpoint;"⟩, 5) := ⟨⟨by decide +kernel, by decide +kernel⟩, List.mem_of_getElem? (i := 16) (by decide +kernel), List.mem_of_getElem? (i := 473) (by decide +kernel), List.mem_of_getElem? (i := 474) (by decide +kernel)⟩
theorem lw_p7 : lw_okq (⟨"SessionSimulator", "addMessage", "(LSessionSimulator$Endpoint;IZ)I"⟩, 5) := ⟨⟨by decide +kernel, by decide +kernel⟩, List.mem_of_getElem? (i := 16) (by decide +kernel), List.mem_of_getElem? (i := 477) (by decide +kernel), List.mem_of_getElem? (i := 478) (by decide +kernel)⟩
theorem lw_p8 : lw_okq (⟨"SessionSimulator", "sendDue", "(LSessionSimulator$Endpoint;)V"⟩, 5) := ⟨⟨by decide +kernel, by decide +kernel⟩, List.mem_of_getElem? (i := 16) (by decide +kernel), List.mem_of_getElem? (i := 490) (by decide +kernel), List.mem_of_getElem? (i := 491) (by decide +kernel)⟩
theorem lw_p9 : lw_okq (⟨"SessionSimulator", "sendProtected", "(LSessionSimulator$Endpoint;III)Z"⟩, 5) := ⟨⟨by decide +kernel, by decide +kernel⟩, List.mem_of_getElem? (i := 16) (by decide +kernel), List.mem_of_getElem? (i := 498) (by decide +kernel), List.mem_of_getElem? (i := 499) (by decide +kernel)⟩
theorem lw_p10 : lw_okq (⟨"SessionSimulator", "resultOf", "(LSessionSimulator$Packet;LSessionSimulator$Endpoint;)I"⟩, 5) := ⟨⟨by decide +kernel, by decide +kernel⟩, List.mem_of_getElem? (i := 16) (by decide +kernel), List.mem_of_getElem? (i := 528) (by decide +kernel), List.mem_of_getElem? (i := 529) (by decide +kernel)⟩
theorem lw_p11 : lw_okq (⟨"SessionSimulator", "isRefused", "(I)Z"⟩, 5) := ⟨⟨by decide +kernel, by decide +kernel⟩, List.mem_of_getElem? (i := 16) (by decide +kernel), List.mem_of_getElem? (i := 536) (by decide +kernel), List.mem_of_getElem? (i := 537) (by decide +kernel)⟩
theorem lw_p12 : lw_okq (⟨"SessionSimulator", "protectedResultOf", "(LSessionSimulator$Packet;LSessionSimulator$Endpoint;)I"⟩, 5) := ⟨⟨by decide +kernel, by decide +kernel⟩, List.mem_of_getElem? (i := 16) (by decide +kernel), List.mem_of_getElem? (i := 552) (by decide +kernel), List.mem_of_getElem? (i := 553) (by decide +kernel)⟩
theorem lw_p13 : lw_okq (⟨"SessionSimulator", "acceptProtected", "(LSessionSimulator$Endpoint;LSessionSimulator$Packet;)V"⟩, 5) := ⟨⟨by decide +kernel, by decide +kernel⟩, List.mem_of_getElem? (i := 16) (by decide +kernel), List.mem_of_getElem? (i := 584) (by decide +kernel), List.mem_of_getElem? (i := 585) (by decide +kernel)⟩
theorem lw_p14 : lw_okq (⟨"SessionSimulator", "issueTicket", "(LSessionSimulator$Endpoint;)V"⟩, 5) := ⟨⟨by decide +kernel, by decide +kernel⟩, List.mem_of_getElem? (i := 16) (by decide +kernel), List.mem_of_getElem? (i := 605) (by decide +kernel), List.mem_of_getElem? (i := 606) (by decide +kernel)⟩
theorem lw_p15 : lw_okq (⟨"SessionSimulator", "acceptPlain", "(LSessionSimulator$Endpoint;LSessionSimulator$Packet;)V"⟩, 5) := ⟨⟨by decide +kernel, by decide +kernel⟩, List.mem_of_getElem? (i := 16) (by decide +kernel), List.mem_of_getElem? (i := 636) (by decide +kernel), List.mem_of_getElem? (i := 637) (by decide +kernel)⟩
def lw_privs_1 : List (MethodName × Nat) := [(⟨"SessionSimulator", "beginSession", "(II)V"⟩, 5), (⟨"SessionSimulator", "changeState", "(LSessionSimulator$Endpoint;I)V"⟩, 5), (⟨"SessionSimulator", "sendHello", "()V"⟩, 5), (⟨"SessionSimulator", "sendPlain", "(LSessionSimulator$Endpoint;IIII)Z"⟩, 5), (⟨"SessionSimulator", "noteSent", "(LSessionSimulator$Packet;)V"⟩, 5), (⟨"SessionSimulator", "breakOff", "(LSessionSimulator$Endpoint;)V"⟩, 5), (⟨"SessionSimulator", "endpointOf", "(I)LSessionSimulator$Endpoint;"⟩, 5), (⟨"SessionSimulator", "addMessage", "(LSessionSimulator$Endpoint;IZ)I"⟩, 5), (⟨"SessionSimulator", "sendDue", "(LSessionSimulator$Endpoint;)V"⟩, 5), (⟨"SessionSimulator", "sendProtected", "(LSessionSimulator$Endpoint;III)Z"⟩, 5), (⟨"SessionSimulator", "resultOf", "(LSessionSimulator$Packet;LSessionSimulator$Endpoint;)I"⟩, 5), (⟨"SessionSimulator", "isRefused", "(I)Z"⟩, 5), (⟨"SessionSimulator", "protectedResultOf", "(LSessionSimulator$Packet;LSessionSimulator$Endpoint;)I"⟩, 5), (⟨"SessionSimulator", "acceptProtected", "(LSessionSimulator$Endpoint;LSessionSimulator$Packet;)V"⟩, 5), (⟨"SessionSimulator", "issueTicket", "(LSessionSimulator$Endpoint;)V"⟩, 5), (⟨"SessionSimulator", "acceptPlain", "(LSessionSimulator$Endpoint;LSessionSimulator$Packet;)V"⟩, 5)]
theorem lw_r1 : ∀ q ∈ lw_privs_1, lw_okq q := List.forall_mem_cons.mpr ⟨lw_p0, List.forall_mem_cons.mpr ⟨lw_p1, List.forall_mem_cons.mpr ⟨lw_p2, List.forall_mem_cons.mpr ⟨lw_p3, List.forall_mem_cons.mpr ⟨lw_p4, List.forall_mem_cons.mpr ⟨lw_p5, List.forall_mem_cons.mpr ⟨lw_p6, List.forall_mem_cons.mpr ⟨lw_p7, List.forall_mem_cons.mpr ⟨lw_p8, List.forall_mem_cons.mpr ⟨lw_p9, List.forall_mem_cons.mpr ⟨lw_p10, List.forall_mem_cons.mpr ⟨lw_p11, List.forall_mem_cons.mpr ⟨lw_p12, List.forall_mem_cons.mpr ⟨lw_p13, List.forall_mem_cons.mpr ⟨lw_p14, List.forall_mem_cons.mpr ⟨lw_p15, fun _ h => absurd h List.not_mem_nil⟩⟩⟩⟩⟩⟩⟩⟩⟩⟩⟩⟩⟩⟩⟩⟩
theorem lw_p16 : lw_okq (⟨"SessionSimulator", "acceptHello", "(LSessionSimulator$Endpoint;LSessionSimulator$Packet;)V"⟩, 5) := ⟨⟨by decide +kernel, by decide +kernel⟩, List.mem_of_getElem? (i := 16) (by decide +kernel), List.mem_of_getElem? (i := 640) (by decide +kernel), List.mem_of_getElem? (i := 641) (by decide +kernel)⟩
theorem lw_p17 : lw_okq (⟨"SessionSimulator", "acceptReply", "(LSessionSimulator$Endpoint;LSessionSimulator$Packet;)V"⟩, 5) := ⟨⟨by decide +kernel, by decide +kernel⟩, List.mem_of_getElem? (i := 16) (by decide +kernel), List.mem_of_getElem? (i := 659) (by decide +kernel), List.mem_of_getElem? (i := 660) (by decide +kernel)⟩
theorem lw_p18 : lw_okq (⟨"SessionSimulator", "repeatHello", "()V"⟩, 5) := ⟨⟨by decide +kernel, by decide +kernel⟩, List.mem_of_getElem? (i := 16) (by decide +kernel), List.mem_of_getElem? (i := 683) (by decide +kernel), List.mem_of_getElem? (i := 684) (by decide +kernel)⟩
theorem lw_p19 : lw_okq (⟨"SessionSimulator", "resendLateMessages", "(LSessionSimulator$Endpoint;)V"⟩, 5) := ⟨⟨by decide +kernel, by decide +kernel⟩, List.mem_of_getElem? (i := 16) (by decide +kernel), List.mem_of_getElem? (i := 687) (by decide +kernel), List.mem_of_getElem? (i := 688) (by decide +kernel)⟩
theorem lw_p20 : lw_okq (⟨"SessionSimulatorModel", "hasRoom", "()Z"⟩, 58) := ⟨⟨by decide +kernel, by decide +kernel⟩, List.mem_of_getElem? (i := 861) (by decide +kernel), List.mem_of_getElem? (i := 1055) (by decide +kernel), List.mem_of_getElem? (i := 1056) (by decide +kernel)⟩
theorem lw_p21 : lw_okq (⟨"SessionSimulatorModel", "beginsStream", "(I)V"⟩, 58) := ⟨⟨by decide +kernel, by decide +kernel⟩, List.mem_of_getElem? (i := 861) (by decide +kernel), List.mem_of_getElem? (i := 1060) (by decide +kernel), List.mem_of_getElem? (i := 1061) (by decide +kernel)⟩
theorem lw_p22 : lw_okq (⟨"SessionSimulatorModel", "clearsWaiting", "(I)V"⟩, 58) := ⟨⟨by decide +kernel, by decide +kernel⟩, List.mem_of_getElem? (i := 861) (by decide +kernel), List.mem_of_getElem? (i := 1064) (by decide +kernel), List.mem_of_getElem? (i := 1065) (by decide +kernel)⟩
theorem lw_p23 : lw_okq (⟨"SessionSimulatorModel", "greets", "(II)V"⟩, 58) := ⟨⟨by decide +kernel, by decide +kernel⟩, List.mem_of_getElem? (i := 861) (by decide +kernel), List.mem_of_getElem? (i := 1068) (by decide +kernel), List.mem_of_getElem? (i := 1069) (by decide +kernel)⟩
theorem lw_p24 : lw_okq (⟨"SessionSimulatorModel", "becomes", "(II)V"⟩, 58) := ⟨⟨by decide +kernel, by decide +kernel⟩, List.mem_of_getElem? (i := 861) (by decide +kernel), List.mem_of_getElem? (i := 1072) (by decide +kernel), List.mem_of_getElem? (i := 1073) (by decide +kernel)⟩
theorem lw_p25 : lw_okq (⟨"SessionSimulatorModel", "logs", "(III)V"⟩, 58) := ⟨⟨by decide +kernel, by decide +kernel⟩, List.mem_of_getElem? (i := 861) (by decide +kernel), List.mem_of_getElem? (i := 1076) (by decide +kernel), List.mem_of_getElem? (i := 1077) (by decide +kernel)⟩
theorem lw_p26 : lw_okq (⟨"SessionSimulatorModel", "sendsPlain", "(IIIII)Z"⟩, 58) := ⟨⟨by decide +kernel, by decide +kernel⟩, List.mem_of_getElem? (i := 861) (by decide +kernel), List.mem_of_getElem? (i := 1080) (by decide +kernel), List.mem_of_getElem? (i := 1081) (by decide +kernel)⟩
theorem lw_p27 : lw_okq (⟨"SessionSimulatorModel", "appends", "(IIIIIIIII)V"⟩, 58) := ⟨⟨by decide +kernel, by decide +kernel⟩, List.mem_of_getElem? (i := 861) (by decide +kernel), List.mem_of_getElem? (i := 1084) (by decide +kernel), List.mem_of_getElem? (i := 1085) (by decide +kernel)⟩
theorem lw_p28 : lw_okq (⟨"SessionSimulatorModel", "notSending", "(I)I"⟩, 58) := ⟨⟨by decide +kernel, by decide +kernel⟩, List.mem_of_getElem? (i := 861) (by decide +kernel), List.mem_of_getElem? (i := 1104) (by decide +kernel), List.mem_of_getElem? (i := 1105) (by decide +kernel)⟩
theorem lw_p29 : lw_okq (⟨"SessionSimulatorModel", "comes", "(IIZ)I"⟩, 58) := ⟨⟨by decide +kernel, by decide +kernel⟩, List.mem_of_getElem? (i := 861) (by decide +kernel), List.mem_of_getElem? (i := 1108) (by decide +kernel), List.mem_of_getElem? (i := 1109) (by decide +kernel)⟩
theorem lw_p30 : lw_okq (⟨"SessionSimulatorModel", "sendsDue", "(I)V"⟩, 58) := ⟨⟨by decide +kernel, by decide +kernel⟩, List.mem_of_getElem? (i := 861) (by decide +kernel), List.mem_of_getElem? (i := 1112) (by decide +kernel), List.mem_of_getElem? (i := 1113) (by decide +kernel)⟩
theorem lw_p31 : lw_okq (⟨"SessionSimulatorModel", "sendsProtected", "(IIII)Z"⟩, 58) := ⟨⟨by decide +kernel, by decide +kernel⟩, List.mem_of_getElem? (i := 861) (by decide +kernel), List.mem_of_getElem? (i := 1116) (by decide +kernel), List.mem_of_getElem? (i := 1117) (by decide +kernel)⟩
def lw_privs_2 : List (MethodName × Nat) := [(⟨"SessionSimulator", "acceptHello", "(LSessionSimulator$Endpoint;LSessionSimulator$Packet;)V"⟩, 5), (⟨"SessionSimulator", "acceptReply", "(LSessionSimulator$Endpoint;LSessionSimulator$Packet;)V"⟩, 5), (⟨"SessionSimulator", "repeatHello", "()V"⟩, 5), (⟨"SessionSimulator", "resendLateMessages", "(LSessionSimulator$Endpoint;)V"⟩, 5), (⟨"SessionSimulatorModel", "hasRoom", "()Z"⟩, 58), (⟨"SessionSimulatorModel", "beginsStream", "(I)V"⟩, 58), (⟨"SessionSimulatorModel", "clearsWaiting", "(I)V"⟩, 58), (⟨"SessionSimulatorModel", "greets", "(II)V"⟩, 58), (⟨"SessionSimulatorModel", "becomes", "(II)V"⟩, 58), (⟨"SessionSimulatorModel", "logs", "(III)V"⟩, 58), (⟨"SessionSimulatorModel", "sendsPlain", "(IIIII)Z"⟩, 58), (⟨"SessionSimulatorModel", "appends", "(IIIIIIIII)V"⟩, 58), (⟨"SessionSimulatorModel", "notSending", "(I)I"⟩, 58), (⟨"SessionSimulatorModel", "comes", "(IIZ)I"⟩, 58), (⟨"SessionSimulatorModel", "sendsDue", "(I)V"⟩, 58), (⟨"SessionSimulatorModel", "sendsProtected", "(IIII)Z"⟩, 58)]
theorem lw_r2 : ∀ q ∈ lw_privs_2, lw_okq q := List.forall_mem_cons.mpr ⟨lw_p16, List.forall_mem_cons.mpr ⟨lw_p17, List.forall_mem_cons.mpr ⟨lw_p18, List.forall_mem_cons.mpr ⟨lw_p19, List.forall_mem_cons.mpr ⟨lw_p20, List.forall_mem_cons.mpr ⟨lw_p21, List.forall_mem_cons.mpr ⟨lw_p22, List.forall_mem_cons.mpr ⟨lw_p23, List.forall_mem_cons.mpr ⟨lw_p24, List.forall_mem_cons.mpr ⟨lw_p25, List.forall_mem_cons.mpr ⟨lw_p26, List.forall_mem_cons.mpr ⟨lw_p27, List.forall_mem_cons.mpr ⟨lw_p28, List.forall_mem_cons.mpr ⟨lw_p29, List.forall_mem_cons.mpr ⟨lw_p30, List.forall_mem_cons.mpr ⟨lw_p31, fun _ h => absurd h List.not_mem_nil⟩⟩⟩⟩⟩⟩⟩⟩⟩⟩⟩⟩⟩⟩⟩⟩
theorem lw_p32 : lw_okq (⟨"SessionSimulatorModel", "isPacket", "(I)Z"⟩, 58) := ⟨⟨by decide +kernel, by decide +kernel⟩, List.mem_of_getElem? (i := 861) (by decide +kernel), List.mem_of_getElem? (i := 1134) (by decide +kernel), List.mem_of_getElem? (i := 1135) (by decide +kernel)⟩
theorem lw_p33 : lw_okq (⟨"SessionSimulatorModel", "resultOf", "(I)I"⟩, 58) := ⟨⟨by decide +kernel, by decide +kernel⟩, List.mem_of_getElem? (i := 861) (by decide +kernel), List.mem_of_getElem? (i := 1138) (by decide +kernel), List.mem_of_getElem? (i := 1139) (by decide +kernel)⟩
theorem lw_p34 : lw_okq (⟨"SessionSimulatorModel", "at", "(II)I"⟩, 58) := ⟨⟨by decide +kernel, by decide +kernel⟩, List.mem_of_getElem? (i := 861) (by decide +kernel), List.mem_of_getElem? (i := 1142) (by decide +kernel), List.mem_of_getElem? (i := 1143) (by decide +kernel)⟩
theorem lw_p35 : lw_okq (⟨"SessionSimulatorModel", "takesKind", "(II)Z"⟩, 58) := ⟨⟨by decide +kernel, by decide +kernel⟩, List.mem_of_getElem? (i := 861) (by decide +kernel), List.mem_of_getElem? (i := 1146) (by decide +kernel), List.mem_of_getElem? (i := 1147) (by decide +kernel)⟩
theorem lw_p36 : lw_okq (⟨"SessionSimulatorModel", "isTicket", "(I)Z"⟩, 58) := ⟨⟨by decide +kernel, by decide +kernel⟩, List.mem_of_getElem? (i := 861) (by decide +kernel), List.mem_of_getElem? (i := 1150) (by decide +kernel), List.mem_of_getElem? (i := 1151) (by decide +kernel)⟩
theorem lw_p37 : lw_okq (⟨"SessionSimulatorModel", "protectedResult", "(III)I"⟩, 58) := ⟨⟨by decide +kernel, by decide +kernel⟩, List.mem_of_getElem? (i := 861) (by decide +kernel), List.mem_of_getElem? (i := 1154) (by decide +kernel), List.mem_of_getElem? (i := 1155) (by decide +kernel)⟩
theorem lw_p38 : lw_okq (⟨"SessionSimulatorModel", "isOwnEpoch", "(II)Z"⟩, 58) := ⟨⟨by decide +kernel, by decide +kernel⟩, List.mem_of_getElem? (i := 861) (by decide +kernel), List.mem_of_getElem? (i := 1158) (by decide +kernel), List.mem_of_getElem? (i := 1159) (by decide +kernel)⟩
theorem lw_p39 : lw_okq (⟨"SessionSimulatorModel", "hasOld", "(I)Z"⟩, 58) := ⟨⟨by decide +kernel, by decide +kernel⟩, List.mem_of_getElem? (i := 861) (by decide +kernel), List.mem_of_getElem? (i := 1162) (by decide +kernel), List.mem_of_getElem? (i := 1163) (by decide +kernel)⟩
theorem lw_p40 : lw_okq (⟨"SessionSimulatorModel", "removes", "(I)V"⟩, 58) := ⟨⟨by decide +kernel, by decide +kernel⟩, List.mem_of_getElem? (i := 861) (by decide +kernel), List.mem_of_getElem? (i := 1166) (by decide +kernel), List.mem_of_getElem? (i := 1167) (by decide +kernel)⟩
theorem lw_p41 : lw_okq (⟨"SessionSimulatorModel", "answersHello", "()V"⟩, 58) := ⟨⟨by decide +kernel, by decide +kernel⟩, List.mem_of_getElem? (i := 861) (by decide +kernel), List.mem_of_getElem? (i := 1170) (by decide +kernel), List.mem_of_getElem? (i := 1171) (by decide +kernel)⟩
theorem lw_p42 : lw_okq (⟨"SessionSimulatorModel", "beginsWindows", "(I)V"⟩, 58) := ⟨⟨by decide +kernel, by decide +kernel⟩, List.mem_of_getElem? (i := 861) (by decide +kernel), List.mem_of_getElem? (i := 1174) (by decide +kernel), List.mem_of_getElem? (i := 1175) (by decide +kernel)⟩
theorem lw_p43 : lw_okq (⟨"SessionSimulatorModel", "hasReply", "()V"⟩, 58) := ⟨⟨by decide +kernel, by decide +kernel⟩, List.mem_of_getElem? (i := 861) (by decide +kernel), List.mem_of_getElem? (i := 1178) (by decide +kernel), List.mem_of_getElem? (i := 1179) (by decide +kernel)⟩
theorem lw_p44 : lw_okq (⟨"SessionSimulatorModel", "hasProtected", "(I)V"⟩, 58) := ⟨⟨by decide +kernel, by decide +kernel⟩, List.mem_of_getElem? (i := 861) (by decide +kernel), List.mem_of_getElem? (i := 1182) (by decide +kernel), List.mem_of_getElem? (i := 1183) (by decide +kernel)⟩
theorem lw_p45 : lw_okq (⟨"SessionSimulatorModel", "enters", "(III)V"⟩, 58) := ⟨⟨by decide +kernel, by decide +kernel⟩, List.mem_of_getElem? (i := 861) (by decide +kernel), List.mem_of_getElem? (i := 1186) (by decide +kernel), List.mem_of_getElem? (i := 1187) (by decide +kernel)⟩
theorem lw_p46 : lw_okq (⟨"SessionSimulatorModel", "issues", "()V"⟩, 58) := ⟨⟨by decide +kernel, by decide +kernel⟩, List.mem_of_getElem? (i := 861) (by decide +kernel), List.mem_of_getElem? (i := 1193) (by decide +kernel), List.mem_of_getElem? (i := 1194) (by decide +kernel)⟩
theorem lw_p47 : lw_okq (⟨"SessionSimulatorModel", "acknowledges", "(II)V"⟩, 58) := ⟨⟨by decide +kernel, by decide +kernel⟩, List.mem_of_getElem? (i := 861) (by decide +kernel), List.mem_of_getElem? (i := 1197) (by decide +kernel), List.mem_of_getElem? (i := 1198) (by decide +kernel)⟩
def lw_privs_3 : List (MethodName × Nat) := [(⟨"SessionSimulatorModel", "isPacket", "(I)Z"⟩, 58), (⟨"SessionSimulatorModel", "resultOf", "(I)I"⟩, 58), (⟨"SessionSimulatorModel", "at", "(II)I"⟩, 58), (⟨"SessionSimulatorModel", "takesKind", "(II)Z"⟩, 58), (⟨"SessionSimulatorModel", "isTicket", "(I)Z"⟩, 58), (⟨"SessionSimulatorModel", "protectedResult", "(III)I"⟩, 58), (⟨"SessionSimulatorModel", "isOwnEpoch", "(II)Z"⟩, 58), (⟨"SessionSimulatorModel", "hasOld", "(I)Z"⟩, 58), (⟨"SessionSimulatorModel", "removes", "(I)V"⟩, 58), (⟨"SessionSimulatorModel", "answersHello", "()V"⟩, 58), (⟨"SessionSimulatorModel", "beginsWindows", "(I)V"⟩, 58), (⟨"SessionSimulatorModel", "hasReply", "()V"⟩, 58), (⟨"SessionSimulatorModel", "hasProtected", "(I)V"⟩, 58), (⟨"SessionSimulatorModel", "enters", "(III)V"⟩, 58), (⟨"SessionSimulatorModel", "issues", "()V"⟩, 58), (⟨"SessionSimulatorModel", "acknowledges", "(II)V"⟩, 58)]
theorem lw_r3 : ∀ q ∈ lw_privs_3, lw_okq q := List.forall_mem_cons.mpr ⟨lw_p32, List.forall_mem_cons.mpr ⟨lw_p33, List.forall_mem_cons.mpr ⟨lw_p34, List.forall_mem_cons.mpr ⟨lw_p35, List.forall_mem_cons.mpr ⟨lw_p36, List.forall_mem_cons.mpr ⟨lw_p37, List.forall_mem_cons.mpr ⟨lw_p38, List.forall_mem_cons.mpr ⟨lw_p39, List.forall_mem_cons.mpr ⟨lw_p40, List.forall_mem_cons.mpr ⟨lw_p41, List.forall_mem_cons.mpr ⟨lw_p42, List.forall_mem_cons.mpr ⟨lw_p43, List.forall_mem_cons.mpr ⟨lw_p44, List.forall_mem_cons.mpr ⟨lw_p45, List.forall_mem_cons.mpr ⟨lw_p46, List.forall_mem_cons.mpr ⟨lw_p47, fun _ h => absurd h List.not_mem_nil⟩⟩⟩⟩⟩⟩⟩⟩⟩⟩⟩⟩⟩⟩⟩⟩
theorem lw_p48 : lw_okq (⟨"SessionSimulatorModel", "takes", "(IIIZ)V"⟩, 58) := ⟨⟨by decide +kernel, by decide +kernel⟩, List.mem_of_getElem? (i := 861) (by decide +kernel), List.mem_of_getElem? (i := 1201) (by decide +kernel), List.mem_of_getElem? (i := 1202) (by decide +kernel)⟩
theorem lw_p49 : lw_okq (⟨"SessionSimulatorModel", "takesExpected", "(IIIZ)V"⟩, 58) := ⟨⟨by decide +kernel, by decide +kernel⟩, List.mem_of_getElem? (i := 861) (by decide +kernel), List.mem_of_getElem? (i := 1205) (by decide +kernel), List.mem_of_getElem? (i := 1206) (by decide +kernel)⟩
theorem lw_p50 : lw_okq (⟨"SessionSimulatorModel", "ticks", "()V"⟩, 58) := ⟨⟨by decide +kernel, by decide +kernel⟩, List.mem_of_getElem? (i := 861) (by decide +kernel), List.mem_of_getElem? (i := 1229) (by decide +kernel), List.mem_of_getElem? (i := 1230) (by decide +kernel)⟩
theorem lw_p51 : lw_okq (⟨"SessionSimulatorModel", "waiting", "(I)I"⟩, 58) := ⟨⟨by decide +kernel, by decide +kernel⟩, List.mem_of_getElem? (i := 861) (by decide +kernel), List.mem_of_getElem? (i := 1241) (by decide +kernel), List.mem_of_getElem? (i := 1242) (by decide +kernel)⟩
theorem lw_p52 : lw_okq (⟨"SessionSimulatorModel", "takesScript", "()Z"⟩, 58) := ⟨⟨by decide +kernel, by decide +kernel⟩, List.mem_of_getElem? (i := 861) (by decide +kernel), List.mem_of_getElem? (i := 1281) (by decide +kernel), List.mem_of_getElem? (i := 1282) (by decide +kernel)⟩
theorem lw_p53 : lw_okq (⟨"SessionSimulatorModel", "takesAction", "()Z"⟩, 58) := ⟨⟨by decide +kernel, by decide +kernel⟩, List.mem_of_getElem? (i := 861) (by decide +kernel), List.mem_of_getElem? (i := 1285) (by decide +kernel), List.mem_of_getElem? (i := 1286) (by decide +kernel)⟩
theorem lw_p54 : lw_okq (⟨"SessionSimulatorModel", "isDigit", "()Z"⟩, 58) := ⟨⟨by decide +kernel, by decide +kernel⟩, List.mem_of_getElem? (i := 861) (by decide +kernel), List.mem_of_getElem? (i := 1289) (by decide +kernel), List.mem_of_getElem? (i := 1290) (by decide +kernel)⟩
theorem lw_p55 : lw_okq (⟨"SessionSimulatorModel", "takesNumber", "()Z"⟩, 58) := ⟨⟨by decide +kernel, by decide +kernel⟩, List.mem_of_getElem? (i := 861) (by decide +kernel), List.mem_of_getElem? (i := 1293) (by decide +kernel), List.mem_of_getElem? (i := 1294) (by decide +kernel)⟩
theorem lw_p56 : lw_okq (⟨"SessionSimulatorModel", "does", "(I)I"⟩, 58) := ⟨⟨by decide +kernel, by decide +kernel⟩, List.mem_of_getElem? (i := 861) (by decide +kernel), List.mem_of_getElem? (i := 1297) (by decide +kernel), List.mem_of_getElem? (i := 1298) (by decide +kernel)⟩
theorem lw_p57 : lw_okq (⟨"SessionSimulatorModel", "handsAll", "(Z)V"⟩, 58) := ⟨⟨by decide +kernel, by decide +kernel⟩, List.mem_of_getElem? (i := 861) (by decide +kernel), List.mem_of_getElem? (i := 1313) (by decide +kernel), List.mem_of_getElem? (i := 1314) (by decide +kernel)⟩
theorem lw_p58 : lw_okq (⟨"SessionSimulatorModel", "handsEndpoints", "()V"⟩, 58) := ⟨⟨by decide +kernel, by decide +kernel⟩, List.mem_of_getElem? (i := 861) (by decide +kernel), List.mem_of_getElem? (i := 1317) (by decide +kernel), List.mem_of_getElem? (i := 1318) (by decide +kernel)⟩
theorem lw_p59 : lw_okq (⟨"SessionSimulatorModel", "hands", "([I)V"⟩, 58) := ⟨⟨by decide +kernel, by decide +kernel⟩, List.mem_of_getElem? (i := 861) (by decide +kernel), List.mem_of_getElem? (i := 1321) (by decide +kernel), List.mem_of_getElem? (i := 1322) (by decide +kernel)⟩
theorem lw_p60 : lw_okq (⟨"SessionSimulatorModel", "hand", "(I)I"⟩, 58) := ⟨⟨by decide +kernel, by decide +kernel⟩, List.mem_of_getElem? (i := 861) (by decide +kernel), List.mem_of_getElem? (i := 1325) (by decide +kernel), List.mem_of_getElem? (i := 1326) (by decide +kernel)⟩
def lw_privs_4 : List (MethodName × Nat) := [(⟨"SessionSimulatorModel", "takes", "(IIIZ)V"⟩, 58), (⟨"SessionSimulatorModel", "takesExpected", "(IIIZ)V"⟩, 58), (⟨"SessionSimulatorModel", "ticks", "()V"⟩, 58), (⟨"SessionSimulatorModel", "waiting", "(I)I"⟩, 58), (⟨"SessionSimulatorModel", "takesScript", "()Z"⟩, 58), (⟨"SessionSimulatorModel", "takesAction", "()Z"⟩, 58), (⟨"SessionSimulatorModel", "isDigit", "()Z"⟩, 58), (⟨"SessionSimulatorModel", "takesNumber", "()Z"⟩, 58), (⟨"SessionSimulatorModel", "does", "(I)I"⟩, 58), (⟨"SessionSimulatorModel", "handsAll", "(Z)V"⟩, 58), (⟨"SessionSimulatorModel", "handsEndpoints", "()V"⟩, 58), (⟨"SessionSimulatorModel", "hands", "([I)V"⟩, 58), (⟨"SessionSimulatorModel", "hand", "(I)I"⟩, 58)]
theorem lw_r4 : ∀ q ∈ lw_privs_4, lw_okq q := List.forall_mem_cons.mpr ⟨lw_p48, List.forall_mem_cons.mpr ⟨lw_p49, List.forall_mem_cons.mpr ⟨lw_p50, List.forall_mem_cons.mpr ⟨lw_p51, List.forall_mem_cons.mpr ⟨lw_p52, List.forall_mem_cons.mpr ⟨lw_p53, List.forall_mem_cons.mpr ⟨lw_p54, List.forall_mem_cons.mpr ⟨lw_p55, List.forall_mem_cons.mpr ⟨lw_p56, List.forall_mem_cons.mpr ⟨lw_p57, List.forall_mem_cons.mpr ⟨lw_p58, List.forall_mem_cons.mpr ⟨lw_p59, List.forall_mem_cons.mpr ⟨lw_p60, fun _ h => absurd h List.not_mem_nil⟩⟩⟩⟩⟩⟩⟩⟩⟩⟩⟩⟩⟩
def lw_privs : List (MethodName × Nat) := lw_privs_1 ++ (lw_privs_2 ++ (lw_privs_3 ++ (lw_privs_4)))
def lw_tbl : List Cond := k2_sels lw_privs ++ tables_1
theorem lw_privs_ok : ∀ q ∈ lw_privs, lw_okq q := by
  show ∀ q ∈ lw_privs_1 ++ (lw_privs_2 ++ (lw_privs_3 ++ (lw_privs_4))), lw_okq q
  exact List.forall_mem_append.mpr ⟨lw_r1, List.forall_mem_append.mpr ⟨lw_r2, List.forall_mem_append.mpr ⟨lw_r3, lw_r4⟩⟩⟩
-- ===== end of PART A; then your names; then what follows =====
def RX0 : String := "SessionSimulator$Endpoint"
def TX0 : u_T := fun k => match k with
  | 0 => ("SessionSimulator$Endpoint", "number", "I", true)
  | 1 => ("SessionSimulator$Endpoint", "resultCounts", "[I", true)
  | 2 => ("SessionSimulator$Endpoint", "outbox", "LSessionSimulator$Outbox;", true)
  | 3 => ("SessionSimulator$Endpoint", "inbox", "LSessionSimulator$Inbox;", true)
  | 4 => ("SessionSimulator$Endpoint", "window", "LSessionSimulator$Window;", true)
  | 5 => ("SessionSimulator$Endpoint", "previous", "LSessionSimulator$Window;", true)
  | 6 => ("SessionSimulator$Endpoint", "hasPrevious", "Z", false)
  | 7 => ("SessionSimulator$Endpoint", "previousPacketsLeft", "I", false)
  | 8 => ("SessionSimulator$Endpoint", "state", "I", false)
  | 9 => ("SessionSimulator$Endpoint", "session", "I", false)
  | 10 => ("SessionSimulator$Endpoint", "base", "I", false)
  | 11 => ("SessionSimulator$Endpoint", "sendingEpoch", "I", false)
  | 12 => ("SessionSimulator$Endpoint", "nextSequence", "I", false)
  | 13 => ("SessionSimulator$Endpoint", "receivingEpoch", "I", false)
  | 14 => ("SessionSimulator$Endpoint", "ticket", "I", false)
  | 15 => ("SessionSimulator$Endpoint", "helloNonce", "I", false)
  | 16 => ("SessionSimulator$Endpoint", "helloTicket", "I", false)
  | _ => ("SessionSimulator$Endpoint", "helloTime", "I", false)
def tyX0 : Nat → FieldType := fun k => match k with
  | 0 => .int
  | 1 => .array .int
  | 2 => .object "SessionSimulator$Outbox"
  | 3 => .object "SessionSimulator$Inbox"
  | 4 => .object "SessionSimulator$Window"
  | 5 => .object "SessionSimulator$Window"
  | 6 => .boolean
  | 7 => .int
  | 8 => .int
  | 9 => .int
  | 10 => .int
  | 11 => .int
  | 12 => .int
  | 13 => .int
  | 14 => .int
  | 15 => .int
  | 16 => .int
  | _ => .int
theorem nmX0 : ∀ a, a < 18 → ∀ b, b < 18 → a ≠ b → (TX0 a).2.1 ≠ (TX0 b).2.1 := by decide +kernel
theorem tyX0_ok : ∀ k, k < 18 → parseFieldDescriptor (TX0 k).2.2.1 = some (tyX0 k) := by decide +kernel
abbrev cX0_init : ByteArray := prog_2_method_1_code
def yX0_init : MethodName := ⟨RX0, "<init>", "(I)V"⟩
abbrev cX0_copyFrom : ByteArray := prog_2_method_2_code
def yX0_copyFrom : MethodName := ⟨RX0, "copyFrom", "(LSessionSimulator$Endpoint;)V"⟩
abbrev cX0_beginStream : ByteArray := prog_2_method_3_code
def yX0_beginStream : MethodName := ⟨RX0, "beginStream", "()V"⟩
abbrev cX0_beginKeys : ByteArray := prog_2_method_4_code
def yX0_beginKeys : MethodName := ⟨RX0, "beginKeys", "()V"⟩
abbrev cX0_countResult : ByteArray := prog_2_method_5_code
def yX0_countResult : MethodName := ⟨RX0, "countResult", "(I)V"⟩
abbrev cX0_takesKind : ByteArray := prog_2_method_6_code
def yX0_takesKind : MethodName := ⟨RX0, "takesKind", "(I)Z"⟩
abbrev cX0_takesEpoch : ByteArray := prog_2_method_7_code
def yX0_takesEpoch : MethodName := ⟨RX0, "takesEpoch", "(I)Z"⟩
abbrev cX0_windowOf : ByteArray := prog_2_method_8_code
def yX0_windowOf : MethodName := ⟨RX0, "windowOf", "(I)LSessionSimulator$Window;"⟩
abbrev cX0_enterInWindow : ByteArray := prog_2_method_9_code
def yX0_enterInWindow : MethodName := ⟨RX0, "enterInWindow", "(II)V"⟩
abbrev cX0_hasEnded : ByteArray := prog_2_method_10_code
def yX0_hasEnded : MethodName := ⟨RX0, "hasEnded", "()Z"⟩
abbrev cX0_part : ByteArray := prog_2_method_11_code
def yX0_part : MethodName := ⟨RX0, "part", "(I)I"⟩
def RX1 : String := "SessionSimulator$Inbox"
def TX1 : u_T := fun k => match k with
  | 0 => ("SessionSimulator$Inbox", "takenValues", "[I", true)
  | 1 => ("SessionSimulator$Inbox", "waits", "[Z", true)
  | 2 => ("SessionSimulator$Inbox", "waitingCloses", "[Z", true)
  | 3 => ("SessionSimulator$Inbox", "waitingValues", "[I", true)
  | 4 => ("SessionSimulator$Inbox", "takenCount", "I", false)
  | 5 => ("SessionSimulator$Inbox", "expected", "I", false)
  | _ => ("SessionSimulator$Inbox", "closeNumber", "I", false)
def tyX1 : Nat → FieldType := fun k => match k with
  | 0 => .array .int
  | 1 => .array .boolean
  | 2 => .array .boolean
  | 3 => .array .int
  | 4 => .int
  | 5 => .int
  | _ => .int
theorem nmX1 : ∀ a, a < 7 → ∀ b, b < 7 → a ≠ b → (TX1 a).2.1 ≠ (TX1 b).2.1 := by decide +kernel
theorem tyX1_ok : ∀ k, k < 7 → parseFieldDescriptor (TX1 k).2.2.1 = some (tyX1 k) := by decide +kernel
abbrev cX1_init : ByteArray := prog_3_method_1_code
def yX1_init : MethodName := ⟨RX1, "<init>", "()V"⟩
abbrev cX1_begin : ByteArray := prog_3_method_2_code
def yX1_begin : MethodName := ⟨RX1, "begin", "()V"⟩
abbrev cX1_copyFrom : ByteArray := prog_3_method_3_code
def yX1_copyFrom : MethodName := ⟨RX1, "copyFrom", "(LSessionSimulator$Inbox;)V"⟩
abbrev cX1_discardWaiting : ByteArray := prog_3_method_4_code
def yX1_discardWaiting : MethodName := ⟨RX1, "discardWaiting", "()V"⟩
abbrev cX1_waitingCount : ByteArray := prog_3_method_5_code
def yX1_waitingCount : MethodName := ⟨RX1, "waitingCount", "()I"⟩
abbrev cX1_isAfterClose : ByteArray := prog_3_method_6_code
def yX1_isAfterClose : MethodName := ⟨RX1, "isAfterClose", "(I)Z"⟩
abbrev cX1_take : ByteArray := prog_3_method_7_code
def yX1_take : MethodName := ⟨RX1, "take", "(IIZ)V"⟩
abbrev cX1_takeExpected : ByteArray := prog_3_method_8_code
def yX1_takeExpected : MethodName := ⟨RX1, "takeExpected", "(I)V"⟩
abbrev cX1_valueAt : ByteArray := prog_3_method_9_code
def yX1_valueAt : MethodName := ⟨RX1, "valueAt", "(I)I"⟩
def RX2 : String := "SessionSimulator$Log"
def TX2 : u_T := fun k => match k with
  | 0 => ("SessionSimulator$Log", "types", "[I", true)
  | 1 => ("SessionSimulator$Log", "firsts", "[I", true)
  | 2 => ("SessionSimulator$Log", "seconds", "[I", true)
  | 3 => ("SessionSimulator$Log", "size", "I", false)
  | _ => ("SessionSimulator$Log", "latest", "I", false)
def tyX2 : Nat → FieldType := fun k => match k with
  | 0 => .array .int
  | 1 => .array .int
  | 2 => .array .int
  | 3 => .int
  | _ => .int
theorem nmX2 : ∀ a, a < 5 → ∀ b, b < 5 → a ≠ b → (TX2 a).2.1 ≠ (TX2 b).2.1 := by decide +kernel
theorem tyX2_ok : ∀ k, k < 5 → parseFieldDescriptor (TX2 k).2.2.1 = some (tyX2 k) := by decide +kernel
abbrev cX2_init : ByteArray := prog_4_method_1_code
def yX2_init : MethodName := ⟨RX2, "<init>", "()V"⟩
abbrev cX2_add : ByteArray := prog_4_method_2_code
def yX2_add : MethodName := ⟨RX2, "add", "(III)V"⟩
abbrev cX2_copyFrom : ByteArray := prog_4_method_3_code
def yX2_copyFrom : MethodName := ⟨RX2, "copyFrom", "(LSessionSimulator$Log;)V"⟩
abbrev cX2_part : ByteArray := prog_4_method_4_code
def yX2_part : MethodName := ⟨RX2, "part", "(II)I"⟩
def RX3 : String := "SessionSimulator$Network"
def TX3 : u_T := fun k => match k with
  | 0 => ("SessionSimulator$Network", "packets", "[LSessionSimulator$Packet;", true)
  | _ => ("SessionSimulator$Network", "size", "I", false)
def tyX3 : Nat → FieldType := fun k => match k with
  | 0 => .array (.object "SessionSimulator$Packet")
  | _ => .int
theorem nmX3 : ∀ a, a < 2 → ∀ b, b < 2 → a ≠ b → (TX3 a).2.1 ≠ (TX3 b).2.1 := by decide +kernel
theorem tyX3_ok : ∀ k, k < 2 → parseFieldDescriptor (TX3 k).2.2.1 = some (tyX3 k) := by decide +kernel
abbrev cX3_init : ByteArray := prog_5_method_1_code
def yX3_init : MethodName := ⟨RX3, "<init>", "()V"⟩
abbrev cX3_isFull : ByteArray := prog_5_method_2_code
def yX3_isFull : MethodName := ⟨RX3, "isFull", "()Z"⟩
abbrev cX3_at : ByteArray := prog_5_method_3_code
def yX3_at : MethodName := ⟨RX3, "at", "(I)LSessionSimulator$Packet;"⟩
abbrev cX3_extend : ByteArray := prog_5_method_4_code
def yX3_extend : MethodName := ⟨RX3, "extend", "()LSessionSimulator$Packet;"⟩
abbrev cX3_remove : ByteArray := prog_5_method_5_code
def yX3_remove : MethodName := ⟨RX3, "remove", "(I)V"⟩
abbrev cX3_copyFrom : ByteArray := prog_5_method_6_code
def yX3_copyFrom : MethodName := ⟨RX3, "copyFrom", "(LSessionSimulator$Network;)V"⟩
def RX4 : String := "SessionSimulator$Outbox"
def TX4 : u_T := fun k => match k with
  | 0 => ("SessionSimulator$Outbox", "values", "[I", true)
  | 1 => ("SessionSimulator$Outbox", "sentTimes", "[I", true)
  | 2 => ("SessionSimulator$Outbox", "size", "I", false)
  | 3 => ("SessionSimulator$Outbox", "lowest", "I", false)
  | _ => ("SessionSimulator$Outbox", "closeNumber", "I", false)
def tyX4 : Nat → FieldType := fun k => match k with
  | 0 => .array .int
  | 1 => .array .int
  | 2 => .int
  | 3 => .int
  | _ => .int
theorem nmX4 : ∀ a, a < 5 → ∀ b, b < 5 → a ≠ b → (TX4 a).2.1 ≠ (TX4 b).2.1 := by decide +kernel
theorem tyX4_ok : ∀ k, k < 5 → parseFieldDescriptor (TX4 k).2.2.1 = some (tyX4 k) := by decide +kernel
abbrev cX4_init : ByteArray := prog_6_method_1_code
def yX4_init : MethodName := ⟨RX4, "<init>", "()V"⟩
abbrev cX4_begin : ByteArray := prog_6_method_2_code
def yX4_begin : MethodName := ⟨RX4, "begin", "()V"⟩
abbrev cX4_copyFrom : ByteArray := prog_6_method_3_code
def yX4_copyFrom : MethodName := ⟨RX4, "copyFrom", "(LSessionSimulator$Outbox;)V"⟩
abbrev cX4_isFull : ByteArray := prog_6_method_4_code
def yX4_isFull : MethodName := ⟨RX4, "isFull", "()Z"⟩
abbrev cX4_isClose : ByteArray := prog_6_method_5_code
def yX4_isClose : MethodName := ⟨RX4, "isClose", "(I)Z"⟩
abbrev cX4_isCloseAcknowledged : ByteArray := prog_6_method_6_code
def yX4_isCloseAcknowledged : MethodName := ⟨RX4, "isCloseAcknowledged", "()Z"⟩
abbrev cX4_add : ByteArray := prog_6_method_7_code
def yX4_add : MethodName := ⟨RX4, "add", "(IZ)I"⟩
abbrev cX4_acknowledge : ByteArray := prog_6_method_8_code
def yX4_acknowledge : MethodName := ⟨RX4, "acknowledge", "(I)V"⟩
abbrev cX4_forgetSent : ByteArray := prog_6_method_9_code
def yX4_forgetSent : MethodName := ⟨RX4, "forgetSent", "()V"⟩
abbrev cX4_forgetSentUntil : ByteArray := prog_6_method_10_code
def yX4_forgetSentUntil : MethodName := ⟨RX4, "forgetSentUntil", "(I)V"⟩
abbrev cX4_part : ByteArray := prog_6_method_11_code
def yX4_part : MethodName := ⟨RX4, "part", "(II)I"⟩
def RX5 : String := "SessionSimulator$Packet"
def TX5 : u_T := fun k => match k with
  | 0 => ("SessionSimulator$Packet", "sender", "I", false)
  | 1 => ("SessionSimulator$Packet", "kind", "I", false)
  | 2 => ("SessionSimulator$Packet", "session", "I", false)
  | 3 => ("SessionSimulator$Packet", "epoch", "I", false)
  | 4 => ("SessionSimulator$Packet", "sequence", "I", false)
  | 5 => ("SessionSimulator$Packet", "a", "I", false)
  | 6 => ("SessionSimulator$Packet", "b", "I", false)
  | 7 => ("SessionSimulator$Packet", "acknowledgement", "I", false)
  | _ => ("SessionSimulator$Packet", "tag", "I", false)
def tyX5 : Nat → FieldType := fun k => match k with
  | 0 => .int
  | 1 => .int
  | 2 => .int
  | 3 => .int
  | 4 => .int
  | 5 => .int
  | 6 => .int
  | 7 => .int
  | _ => .int
theorem nmX5 : ∀ a, a < 9 → ∀ b, b < 9 → a ≠ b → (TX5 a).2.1 ≠ (TX5 b).2.1 := by decide +kernel
theorem tyX5_ok : ∀ k, k < 9 → parseFieldDescriptor (TX5 k).2.2.1 = some (tyX5 k) := by decide +kernel
abbrev cX5_init : ByteArray := prog_7_method_1_code
def yX5_init : MethodName := ⟨RX5, "<init>", "()V"⟩
abbrev cX5_fill : ByteArray := prog_7_method_2_code
def yX5_fill : MethodName := ⟨RX5, "fill", "(IIIII)V"⟩
abbrev cX5_copyFrom : ByteArray := prog_7_method_3_code
def yX5_copyFrom : MethodName := ⟨RX5, "copyFrom", "(LSessionSimulator$Packet;)V"⟩
abbrev cX5_isProtected : ByteArray := prog_7_method_4_code
def yX5_isProtected : MethodName := ⟨RX5, "isProtected", "()Z"⟩
abbrev cX5_bringsMessage : ByteArray := prog_7_method_5_code
def yX5_bringsMessage : MethodName := ⟨RX5, "bringsMessage", "()Z"⟩
abbrev cX5_part : ByteArray := prog_7_method_6_code
def yX5_part : MethodName := ⟨RX5, "part", "(I)I"⟩
def RX6 : String := "SessionSimulator$Script"
def TX6 : u_T := fun k => match k with
  | 0 => ("SessionSimulator$Script", "text", "[I", true)
  | 1 => ("SessionSimulator$Script", "codes", "[I", true)
  | 2 => ("SessionSimulator$Script", "endpoints", "[I", true)
  | 3 => ("SessionSimulator$Script", "numbers", "[I", true)
  | 4 => ("SessionSimulator$Script", "length", "I", false)
  | 5 => ("SessionSimulator$Script", "actions", "I", false)
  | _ => ("SessionSimulator$Script", "cursor", "I", false)
def tyX6 : Nat → FieldType := fun k => match k with
  | 0 => .array .int
  | 1 => .array .int
  | 2 => .array .int
  | 3 => .array .int
  | 4 => .int
  | 5 => .int
  | _ => .int
theorem nmX6 : ∀ a, a < 7 → ∀ b, b < 7 → a ≠ b → (TX6 a).2.1 ≠ (TX6 b).2.1 := by decide +kernel
theorem tyX6_ok : ∀ k, k < 7 → parseFieldDescriptor (TX6 k).2.2.1 = some (tyX6 k) := by decide +kernel
abbrev cX6_init : ByteArray := prog_8_method_1_code
def yX6_init : MethodName := ⟨RX6, "<init>", "()V"⟩
abbrev cX6_extend : ByteArray := prog_8_method_2_code
def yX6_extend : MethodName := ⟨RX6, "extend", "(II)V"⟩
abbrev cX6_parse : ByteArray := prog_8_method_3_code
def yX6_parse : MethodName := ⟨RX6, "parse", "()Z"⟩
abbrev cX6_readAction : ByteArray := prog_8_method_4_code
def yX6_readAction : MethodName := ⟨RX6, "readAction", "()Z"⟩
abbrev cX6_readNumber : ByteArray := prog_8_method_5_code
def yX6_readNumber : MethodName := ⟨RX6, "readNumber", "()I"⟩
abbrev cX6_readDigit : ByteArray := prog_8_method_6_code
def yX6_readDigit : MethodName := ⟨RX6, "readDigit", "()I"⟩
abbrev cX6_isDigit : ByteArray := prog_8_method_7_code
def yX6_isDigit : MethodName := ⟨RX6, "isDigit", "()Z"⟩
abbrev cX6_here : ByteArray := prog_8_method_8_code
def yX6_here : MethodName := ⟨RX6, "here", "()I"⟩
abbrev cX6_addAction : ByteArray := prog_8_method_9_code
def yX6_addAction : MethodName := ⟨RX6, "addAction", "(III)V"⟩
def RX7 : String := "SessionSimulator$Tickets"
def TX7 : u_T := fun k => match k with
  | 0 => ("SessionSimulator$Tickets", "issueTimes", "[I", true)
  | 1 => ("SessionSimulator$Tickets", "used", "[Z", true)
  | _ => ("SessionSimulator$Tickets", "issued", "I", false)
def tyX7 : Nat → FieldType := fun k => match k with
  | 0 => .array .int
  | 1 => .array .boolean
  | _ => .int
theorem nmX7 : ∀ a, a < 3 → ∀ b, b < 3 → a ≠ b → (TX7 a).2.1 ≠ (TX7 b).2.1 := by decide +kernel
theorem tyX7_ok : ∀ k, k < 3 → parseFieldDescriptor (TX7 k).2.2.1 = some (tyX7 k) := by decide +kernel
abbrev cX7_init : ByteArray := prog_9_method_1_code
def yX7_init : MethodName := ⟨RX7, "<init>", "()V"⟩
abbrev cX7_copyFrom : ByteArray := prog_9_method_2_code
def yX7_copyFrom : MethodName := ⟨RX7, "copyFrom", "(LSessionSimulator$Tickets;)V"⟩
abbrev cX7_isIssued : ByteArray := prog_9_method_3_code
def yX7_isIssued : MethodName := ⟨RX7, "isIssued", "(I)Z"⟩
abbrev cX7_isValid : ByteArray := prog_9_method_4_code
def yX7_isValid : MethodName := ⟨RX7, "isValid", "(III)Z"⟩
abbrev cX7_issue : ByteArray := prog_9_method_5_code
def yX7_issue : MethodName := ⟨RX7, "issue", "(I)I"⟩
abbrev cX7_use : ByteArray := prog_9_method_6_code
def yX7_use : MethodName := ⟨RX7, "use", "(I)V"⟩
def RX8 : String := "SessionSimulator$Window"
def TX8 : u_T := fun k => match k with
  | 0 => ("SessionSimulator$Window", "highest", "I", false)
  | _ => ("SessionSimulator$Window", "set", "I", false)
def tyX8 : Nat → FieldType := fun k => match k with
  | 0 => .int
  | _ => .int
theorem nmX8 : ∀ a, a < 2 → ∀ b, b < 2 → a ≠ b → (TX8 a).2.1 ≠ (TX8 b).2.1 := by decide +kernel
theorem tyX8_ok : ∀ k, k < 2 → parseFieldDescriptor (TX8 k).2.2.1 = some (tyX8 k) := by decide +kernel
abbrev cX8_init : ByteArray := prog_10_method_1_code
def yX8_init : MethodName := ⟨RX8, "<init>", "()V"⟩
abbrev cX8_clear : ByteArray := prog_10_method_2_code
def yX8_clear : MethodName := ⟨RX8, "clear", "()V"⟩
abbrev cX8_copyFrom : ByteArray := prog_10_method_3_code
def yX8_copyFrom : MethodName := ⟨RX8, "copyFrom", "(LSessionSimulator$Window;)V"⟩
abbrev cX8_isBehind : ByteArray := prog_10_method_4_code
def yX8_isBehind : MethodName := ⟨RX8, "isBehind", "(I)Z"⟩
abbrev cX8_holds : ByteArray := prog_10_method_5_code
def yX8_holds : MethodName := ⟨RX8, "holds", "(I)Z"⟩
abbrev cX8_enter : ByteArray := prog_10_method_6_code
def yX8_enter : MethodName := ⟨RX8, "enter", "(I)V"⟩
abbrev cX8_asNumber : ByteArray := prog_10_method_7_code
def yX8_asNumber : MethodName := ⟨RX8, "asNumber", "()I"⟩
def RX9 : String := "SessionSimulator$World"
def TX9 : u_T := fun k => match k with
  | 0 => ("SessionSimulator$World", "first", "LSessionSimulator$Endpoint;", true)
  | 1 => ("SessionSimulator$World", "second", "LSessionSimulator$Endpoint;", true)
  | 2 => ("SessionSimulator$World", "network", "LSessionSimulator$Network;", true)
  | 3 => ("SessionSimulator$World", "tickets", "LSessionSimulator$Tickets;", true)
  | 4 => ("SessionSimulator$World", "log", "LSessionSimulator$Log;", true)
  | 5 => ("SessionSimulator$World", "keyLimit", "I", false)
  | 6 => ("SessionSimulator$World", "timeout", "I", false)
  | 7 => ("SessionSimulator$World", "life", "I", false)
  | 8 => ("SessionSimulator$World", "time", "I", false)
  | 9 => ("SessionSimulator$World", "sessionNumber", "I", false)
  | 10 => ("SessionSimulator$World", "sentCount", "I", false)
  | 11 => ("SessionSimulator$World", "deliveredCount", "I", false)
  | 12 => ("SessionSimulator$World", "droppedCount", "I", false)
  | _ => ("SessionSimulator$World", "repeatedCount", "I", false)
def tyX9 : Nat → FieldType := fun k => match k with
  | 0 => .object "SessionSimulator$Endpoint"
  | 1 => .object "SessionSimulator$Endpoint"
  | 2 => .object "SessionSimulator$Network"
  | 3 => .object "SessionSimulator$Tickets"
  | 4 => .object "SessionSimulator$Log"
  | 5 => .int
  | 6 => .int
  | 7 => .int
  | 8 => .int
  | 9 => .int
  | 10 => .int
  | 11 => .int
  | 12 => .int
  | _ => .int
theorem nmX9 : ∀ a, a < 14 → ∀ b, b < 14 → a ≠ b → (TX9 a).2.1 ≠ (TX9 b).2.1 := by decide +kernel
theorem tyX9_ok : ∀ k, k < 14 → parseFieldDescriptor (TX9 k).2.2.1 = some (tyX9 k) := by decide +kernel
abbrev cX9_init : ByteArray := prog_11_method_1_code
def yX9_init : MethodName := ⟨RX9, "<init>", "()V"⟩
abbrev cX9_copyFrom : ByteArray := prog_11_method_2_code
def yX9_copyFrom : MethodName := ⟨RX9, "copyFrom", "(LSessionSimulator$World;)V"⟩
def RX10 : String := "SessionSimulator"
def TX10 : u_T := fun k => match k with
  | 0 => ("SessionSimulator", "world", "LSessionSimulator$World;", true)
  | 1 => ("SessionSimulator", "snapshot", "LSessionSimulator$World;", true)
  | 2 => ("SessionSimulator", "script", "LSessionSimulator$Script;", true)
  | 3 => ("SessionSimulator", "arrived", "LSessionSimulator$Packet;", true)
  | _ => ("SessionSimulator", "hasSnapshot", "Z", false)
def tyX10 : Nat → FieldType := fun k => match k with
  | 0 => .object "SessionSimulator$World"
  | 1 => .object "SessionSimulator$World"
  | 2 => .object "SessionSimulator$Script"
  | 3 => .object "SessionSimulator$Packet"
  | _ => .boolean
theorem nmX10 : ∀ a, a < 5 → ∀ b, b < 5 → a ≠ b → (TX10 a).2.1 ≠ (TX10 b).2.1 := by decide +kernel
theorem tyX10_ok : ∀ k, k < 5 → parseFieldDescriptor (TX10 k).2.2.1 = some (tyX10 k) := by decide +kernel
abbrev cX10_init : ByteArray := prog_1_method_1_code
def yX10_init : MethodName := ⟨RX10, "<init>", "()V"⟩
abbrev cX10_configure : ByteArray := prog_1_method_2_code
def yX10_configure : MethodName := ⟨RX10, "configure", "(III)I"⟩
abbrev cX10_connect : ByteArray := prog_1_method_3_code
def yX10_connect : MethodName := ⟨RX10, "connect", "(I)I"⟩
abbrev cX10_resume : ByteArray := prog_1_method_4_code
def yX10_resume : MethodName := ⟨RX10, "resume", "(I)I"⟩
abbrev cX10_disconnect : ByteArray := prog_1_method_5_code
def yX10_disconnect : MethodName := ⟨RX10, "disconnect", "()I"⟩
abbrev cX10_send : ByteArray := prog_1_method_6_code
def yX10_send : MethodName := ⟨RX10, "send", "(II)I"⟩
abbrev cX10_close : ByteArray := prog_1_method_7_code
def yX10_close : MethodName := ⟨RX10, "close", "(I)I"⟩
abbrev cX10_deliver : ByteArray := prog_1_method_8_code
def yX10_deliver : MethodName := ⟨RX10, "deliver", "(I)I"⟩
abbrev cX10_foresee : ByteArray := prog_1_method_9_code
def yX10_foresee : MethodName := ⟨RX10, "foresee", "(I)I"⟩
abbrev cX10_drop : ByteArray := prog_1_method_10_code
def yX10_drop : MethodName := ⟨RX10, "drop", "(I)I"⟩
abbrev cX10_repeat : ByteArray := prog_1_method_11_code
def yX10_repeat : MethodName := ⟨RX10, "repeat", "(I)I"⟩
abbrev cX10_alter : ByteArray := prog_1_method_12_code
def yX10_alter : MethodName := ⟨RX10, "alter", "(II)I"⟩
abbrev cX10_tick : ByteArray := prog_1_method_13_code
def yX10_tick : MethodName := ⟨RX10, "tick", "(I)I"⟩
abbrev cX10_packet : ByteArray := prog_1_method_14_code
def yX10_packet : MethodName := ⟨RX10, "packet", "(II)I"⟩
abbrev cX10_endpoint : ByteArray := prog_1_method_15_code
def yX10_endpoint : MethodName := ⟨RX10, "endpoint", "(II)I"⟩
abbrev cX10_window : ByteArray := prog_1_method_16_code
def yX10_window : MethodName := ⟨RX10, "window", "(II)I"⟩
abbrev cX10_taken : ByteArray := prog_1_method_17_code
def yX10_taken : MethodName := ⟨RX10, "taken", "(II)I"⟩
abbrev cX10_kept : ByteArray := prog_1_method_18_code
def yX10_kept : MethodName := ⟨RX10, "kept", "(III)I"⟩
abbrev cX10_results : ByteArray := prog_1_method_19_code
def yX10_results : MethodName := ⟨RX10, "results", "(II)I"⟩
abbrev cX10_count : ByteArray := prog_1_method_20_code
def yX10_count : MethodName := ⟨RX10, "count", "(I)I"⟩
abbrev cX10_event : ByteArray := prog_1_method_21_code
def yX10_event : MethodName := ⟨RX10, "event", "(II)I"⟩
abbrev cX10_agree : ByteArray := prog_1_method_22_code
def yX10_agree : MethodName := ⟨RX10, "agree", "()I"⟩
abbrev cX10_append : ByteArray := prog_1_method_23_code
def yX10_append : MethodName := ⟨RX10, "append", "(II)I"⟩
abbrev cX10_runScript : ByteArray := prog_1_method_24_code
def yX10_runScript : MethodName := ⟨RX10, "runScript", "()I"⟩
abbrev cX10_save : ByteArray := prog_1_method_25_code
def yX10_save : MethodName := ⟨RX10, "save", "()I"⟩
abbrev cX10_restore : ByteArray := prog_1_method_26_code
def yX10_restore : MethodName := ⟨RX10, "restore", "()I"⟩
abbrev cX10_isEndpoint : ByteArray := prog_1_method_27_code
def yX10_isEndpoint : MethodName := ⟨RX10, "isEndpoint", "(I)Z"⟩
abbrev cX10_isError : ByteArray := prog_1_method_28_code
def yX10_isError : MethodName := ⟨RX10, "isError", "(I)Z"⟩
abbrev cX10_mix : ByteArray := prog_1_method_29_code
def yX10_mix : MethodName := ⟨RX10, "mix", "(II)I"⟩
abbrev cX10_baseOf : ByteArray := prog_1_method_30_code
def yX10_baseOf : MethodName := ⟨RX10, "baseOf", "(III)I"⟩
abbrev cX10_tagOf : ByteArray := prog_1_method_31_code
def yX10_tagOf : MethodName := ⟨RX10, "tagOf", "(LSessionSimulator$Packet;I)I"⟩
abbrev cX10_endpointOf : ByteArray := prog_1_method_32_code
def yX10_endpointOf : MethodName := ⟨RX10, "endpointOf", "(I)LSessionSimulator$Endpoint;"⟩
abbrev cX10_changeState : ByteArray := prog_1_method_33_code
def yX10_changeState : MethodName := ⟨RX10, "changeState", "(LSessionSimulator$Endpoint;I)V"⟩
abbrev cX10_beginSession : ByteArray := prog_1_method_34_code
def yX10_beginSession : MethodName := ⟨RX10, "beginSession", "(II)V"⟩
abbrev cX10_breakOff : ByteArray := prog_1_method_35_code
def yX10_breakOff : MethodName := ⟨RX10, "breakOff", "(LSessionSimulator$Endpoint;)V"⟩
abbrev cX10_addMessage : ByteArray := prog_1_method_36_code
def yX10_addMessage : MethodName := ⟨RX10, "addMessage", "(LSessionSimulator$Endpoint;IZ)I"⟩
abbrev cX10_sendHello : ByteArray := prog_1_method_37_code
def yX10_sendHello : MethodName := ⟨RX10, "sendHello", "()V"⟩
abbrev cX10_sendPlain : ByteArray := prog_1_method_38_code
def yX10_sendPlain : MethodName := ⟨RX10, "sendPlain", "(LSessionSimulator$Endpoint;IIII)Z"⟩
abbrev cX10_sendProtected : ByteArray := prog_1_method_39_code
def yX10_sendProtected : MethodName := ⟨RX10, "sendProtected", "(LSessionSimulator$Endpoint;III)Z"⟩
abbrev cX10_noteSent : ByteArray := prog_1_method_40_code
def yX10_noteSent : MethodName := ⟨RX10, "noteSent", "(LSessionSimulator$Packet;)V"⟩
abbrev cX10_sendDue : ByteArray := prog_1_method_41_code
def yX10_sendDue : MethodName := ⟨RX10, "sendDue", "(LSessionSimulator$Endpoint;)V"⟩
abbrev cX10_repeatHello : ByteArray := prog_1_method_42_code
def yX10_repeatHello : MethodName := ⟨RX10, "repeatHello", "()V"⟩
abbrev cX10_resendLateMessages : ByteArray := prog_1_method_43_code
def yX10_resendLateMessages : MethodName := ⟨RX10, "resendLateMessages", "(LSessionSimulator$Endpoint;)V"⟩
abbrev cX10_resultOf : ByteArray := prog_1_method_44_code
def yX10_resultOf : MethodName := ⟨RX10, "resultOf", "(LSessionSimulator$Packet;LSessionSimulator$Endpoint;)I"⟩
abbrev cX10_isRefused : ByteArray := prog_1_method_45_code
def yX10_isRefused : MethodName := ⟨RX10, "isRefused", "(I)Z"⟩
abbrev cX10_protectedResultOf : ByteArray := prog_1_method_46_code
def yX10_protectedResultOf : MethodName := ⟨RX10, "protectedResultOf", "(LSessionSimulator$Packet;LSessionSimulator$Endpoint;)I"⟩
abbrev cX10_acceptPlain : ByteArray := prog_1_method_47_code
def yX10_acceptPlain : MethodName := ⟨RX10, "acceptPlain", "(LSessionSimulator$Endpoint;LSessionSimulator$Packet;)V"⟩
abbrev cX10_acceptHello : ByteArray := prog_1_method_48_code
def yX10_acceptHello : MethodName := ⟨RX10, "acceptHello", "(LSessionSimulator$Endpoint;LSessionSimulator$Packet;)V"⟩
abbrev cX10_acceptReply : ByteArray := prog_1_method_49_code
def yX10_acceptReply : MethodName := ⟨RX10, "acceptReply", "(LSessionSimulator$Endpoint;LSessionSimulator$Packet;)V"⟩
abbrev cX10_acceptProtected : ByteArray := prog_1_method_50_code
def yX10_acceptProtected : MethodName := ⟨RX10, "acceptProtected", "(LSessionSimulator$Endpoint;LSessionSimulator$Packet;)V"⟩
abbrev cX10_issueTicket : ByteArray := prog_1_method_51_code
def yX10_issueTicket : MethodName := ⟨RX10, "issueTicket", "(LSessionSimulator$Endpoint;)V"⟩
def RX11 : String := "SessionSimulatorModel"
def TX11 : u_T := fun k => match k with
  | 0 => ("SessionSimulatorModel", "keyLimit", "I", false)
  | 1 => ("SessionSimulatorModel", "timeout", "I", false)
  | 2 => ("SessionSimulatorModel", "life", "I", false)
  | 3 => ("SessionSimulatorModel", "sessions", "I", false)
  | 4 => ("SessionSimulatorModel", "time", "I", false)
  | 5 => ("SessionSimulatorModel", "sent", "I", false)
  | 6 => ("SessionSimulatorModel", "delivered", "I", false)
  | 7 => ("SessionSimulatorModel", "dropped", "I", false)
  | 8 => ("SessionSimulatorModel", "repeated", "I", false)
  | 9 => ("SessionSimulatorModel", "state", "[I", true)
  | 10 => ("SessionSimulatorModel", "session", "[I", true)
  | 11 => ("SessionSimulatorModel", "nonce", "[I", true)
  | 12 => ("SessionSimulatorModel", "base", "[I", true)
  | 13 => ("SessionSimulatorModel", "sendEpoch", "[I", true)
  | 14 => ("SessionSimulatorModel", "sequence", "[I", true)
  | 15 => ("SessionSimulatorModel", "epoch", "[I", true)
  | 16 => ("SessionSimulatorModel", "highest", "[I", true)
  | 17 => ("SessionSimulatorModel", "accepted", "[I", true)
  | 18 => ("SessionSimulatorModel", "oldHighest", "[I", true)
  | 19 => ("SessionSimulatorModel", "oldAccepted", "[I", true)
  | 20 => ("SessionSimulatorModel", "oldLeft", "[I", true)
  | 21 => ("SessionSimulatorModel", "expected", "[I", true)
  | 22 => ("SessionSimulatorModel", "nextNumber", "[I", true)
  | 23 => ("SessionSimulatorModel", "closeNumber", "[I", true)
  | 24 => ("SessionSimulatorModel", "closeTaken", "[I", true)
  | 25 => ("SessionSimulatorModel", "takenMany", "[I", true)
  | 26 => ("SessionSimulatorModel", "keptMany", "[I", true)
  | 27 => ("SessionSimulatorModel", "taken", "[I", true)
  | 28 => ("SessionSimulatorModel", "keptNumber", "[I", true)
  | 29 => ("SessionSimulatorModel", "keptValue", "[I", true)
  | 30 => ("SessionSimulatorModel", "keptClose", "[I", true)
  | 31 => ("SessionSimulatorModel", "keptTime", "[I", true)
  | 32 => ("SessionSimulatorModel", "waits", "[I", true)
  | 33 => ("SessionSimulatorModel", "waitValue", "[I", true)
  | 34 => ("SessionSimulatorModel", "waitClose", "[I", true)
  | 35 => ("SessionSimulatorModel", "ticket", "I", false)
  | 36 => ("SessionSimulatorModel", "helloTicket", "I", false)
  | 37 => ("SessionSimulatorModel", "helloTime", "I", false)
  | 38 => ("SessionSimulatorModel", "issued", "I", false)
  | 39 => ("SessionSimulatorModel", "issuedAt", "[I", true)
  | 40 => ("SessionSimulatorModel", "used", "[I", true)
  | 41 => ("SessionSimulatorModel", "log", "[I", true)
  | 42 => ("SessionSimulatorModel", "events", "I", false)
  | 43 => ("SessionSimulatorModel", "network", "[I", true)
  | 44 => ("SessionSimulatorModel", "packet", "[I", true)
  | 45 => ("SessionSimulatorModel", "packets", "I", false)
  | 46 => ("SessionSimulatorModel", "results", "[I", true)
  | 47 => ("SessionSimulatorModel", "text", "[I", true)
  | 48 => ("SessionSimulatorModel", "sign", "[I", true)
  | 49 => ("SessionSimulatorModel", "number", "[I", true)
  | 50 => ("SessionSimulatorModel", "whose", "[I", true)
  | 51 => ("SessionSimulatorModel", "length", "I", false)
  | 52 => ("SessionSimulatorModel", "reading", "I", false)
  | 53 => ("SessionSimulatorModel", "actions", "I", false)
  | 54 => ("SessionSimulatorModel", "saved", "[I", true)
  | 55 => ("SessionSimulatorModel", "isSaved", "Z", false)
  | 56 => ("SessionSimulatorModel", "isKeeping", "Z", false)
  | _ => ("SessionSimulatorModel", "cursor", "I", false)
def tyX11 : Nat → FieldType := fun k => match k with
  | 0 => .int
  | 1 => .int
  | 2 => .int
  | 3 => .int
  | 4 => .int
  | 5 => .int
  | 6 => .int
  | 7 => .int
  | 8 => .int
  | 9 => .array .int
  | 10 => .array .int
  | 11 => .array .int
  | 12 => .array .int
  | 13 => .array .int
  | 14 => .array .int
  | 15 => .array .int
  | 16 => .array .int
  | 17 => .array .int
  | 18 => .array .int
  | 19 => .array .int
  | 20 => .array .int
  | 21 => .array .int
  | 22 => .array .int
  | 23 => .array .int
  | 24 => .array .int
  | 25 => .array .int
  | 26 => .array .int
  | 27 => .array .int
  | 28 => .array .int
  | 29 => .array .int
  | 30 => .array .int
  | 31 => .array .int
  | 32 => .array .int
  | 33 => .array .int
  | 34 => .array .int
  | 35 => .int
  | 36 => .int
  | 37 => .int
  | 38 => .int
  | 39 => .array .int
  | 40 => .array .int
  | 41 => .array .int
  | 42 => .int
  | 43 => .array .int
  | 44 => .array .int
  | 45 => .int
  | 46 => .array .int
  | 47 => .array .int
  | 48 => .array .int
  | 49 => .array .int
  | 50 => .array .int
  | 51 => .int
  | 52 => .int
  | 53 => .int
  | 54 => .array .int
  | 55 => .boolean
  | 56 => .boolean
  | _ => .int
theorem nmX11 : ∀ a, a < 58 → ∀ b, b < 58 → a ≠ b → (TX11 a).2.1 ≠ (TX11 b).2.1 := by decide +kernel
theorem tyX11_ok : ∀ k, k < 58 → parseFieldDescriptor (TX11 k).2.2.1 = some (tyX11 k) := by decide +kernel
abbrev cX11_init : ByteArray := prog_13_method_1_code
def yX11_init : MethodName := ⟨RX11, "<init>", "()V"⟩
abbrev cX11_isBetween : ByteArray := prog_13_method_2_code
def yX11_isBetween : MethodName := ⟨RX11, "isBetween", "(III)Z"⟩
abbrev cX11_mix : ByteArray := prog_13_method_3_code
def yX11_mix : MethodName := ⟨RX11, "mix", "(II)I"⟩
abbrev cX11_configure : ByteArray := prog_13_method_4_code
def yX11_configure : MethodName := ⟨RX11, "configure", "(III)I"⟩
abbrev cX11_isEndpoint : ByteArray := prog_13_method_5_code
def yX11_isEndpoint : MethodName := ⟨RX11, "isEndpoint", "(I)Z"⟩
abbrev cX11_becomes : ByteArray := prog_13_method_6_code
def yX11_becomes : MethodName := ⟨RX11, "becomes", "(II)V"⟩
abbrev cX11_clearsWaiting : ByteArray := prog_13_method_7_code
def yX11_clearsWaiting : MethodName := ⟨RX11, "clearsWaiting", "(I)V"⟩
abbrev cX11_beginsStream : ByteArray := prog_13_method_8_code
def yX11_beginsStream : MethodName := ⟨RX11, "beginsStream", "(I)V"⟩
abbrev cX11_beginsWindows : ByteArray := prog_13_method_9_code
def yX11_beginsWindows : MethodName := ⟨RX11, "beginsWindows", "(I)V"⟩
abbrev cX11_logs : ByteArray := prog_13_method_10_code
def yX11_logs : MethodName := ⟨RX11, "logs", "(III)V"⟩
abbrev cX11_at : ByteArray := prog_13_method_11_code
def yX11_at : MethodName := ⟨RX11, "at", "(II)I"⟩
abbrev cX11_isPacket : ByteArray := prog_13_method_12_code
def yX11_isPacket : MethodName := ⟨RX11, "isPacket", "(I)Z"⟩
abbrev cX11_hasRoom : ByteArray := prog_13_method_13_code
def yX11_hasRoom : MethodName := ⟨RX11, "hasRoom", "()Z"⟩
abbrev cX11_appends : ByteArray := prog_13_method_14_code
def yX11_appends : MethodName := ⟨RX11, "appends", "(IIIIIIIII)V"⟩
abbrev cX11_sendsPlain : ByteArray := prog_13_method_15_code
def yX11_sendsPlain : MethodName := ⟨RX11, "sendsPlain", "(IIIII)Z"⟩
abbrev cX11_tagOf : ByteArray := prog_13_method_16_code
def yX11_tagOf : MethodName := ⟨RX11, "tagOf", "(IIIIIIII)I"⟩
abbrev cX11_sendsProtected : ByteArray := prog_13_method_17_code
def yX11_sendsProtected : MethodName := ⟨RX11, "sendsProtected", "(IIII)Z"⟩
abbrev cX11_sendsDue : ByteArray := prog_13_method_18_code
def yX11_sendsDue : MethodName := ⟨RX11, "sendsDue", "(I)V"⟩
abbrev cX11_greets : ByteArray := prog_13_method_19_code
def yX11_greets : MethodName := ⟨RX11, "greets", "(II)V"⟩
abbrev cX11_connect : ByteArray := prog_13_method_20_code
def yX11_connect : MethodName := ⟨RX11, "connect", "(I)I"⟩
abbrev cX11_resume : ByteArray := prog_13_method_21_code
def yX11_resume : MethodName := ⟨RX11, "resume", "(I)I"⟩
abbrev cX11_disconnect : ByteArray := prog_13_method_22_code
def yX11_disconnect : MethodName := ⟨RX11, "disconnect", "()I"⟩
abbrev cX11_notSending : ByteArray := prog_13_method_23_code
def yX11_notSending : MethodName := ⟨RX11, "notSending", "(I)I"⟩
abbrev cX11_comes : ByteArray := prog_13_method_24_code
def yX11_comes : MethodName := ⟨RX11, "comes", "(IIZ)I"⟩
abbrev cX11_send : ByteArray := prog_13_method_25_code
def yX11_send : MethodName := ⟨RX11, "send", "(II)I"⟩
abbrev cX11_close : ByteArray := prog_13_method_26_code
def yX11_close : MethodName := ⟨RX11, "close", "(I)I"⟩
abbrev cX11_takesKind : ByteArray := prog_13_method_27_code
def yX11_takesKind : MethodName := ⟨RX11, "takesKind", "(II)Z"⟩
abbrev cX11_isTicket : ByteArray := prog_13_method_28_code
def yX11_isTicket : MethodName := ⟨RX11, "isTicket", "(I)Z"⟩
abbrev cX11_hasOld : ByteArray := prog_13_method_29_code
def yX11_hasOld : MethodName := ⟨RX11, "hasOld", "(I)Z"⟩
abbrev cX11_isOwnEpoch : ByteArray := prog_13_method_30_code
def yX11_isOwnEpoch : MethodName := ⟨RX11, "isOwnEpoch", "(II)Z"⟩
abbrev cX11_resultOf : ByteArray := prog_13_method_31_code
def yX11_resultOf : MethodName := ⟨RX11, "resultOf", "(I)I"⟩
abbrev cX11_protectedResult : ByteArray := prog_13_method_32_code
def yX11_protectedResult : MethodName := ⟨RX11, "protectedResult", "(III)I"⟩
abbrev cX11_setWith : ByteArray := prog_13_method_33_code
def yX11_setWith : MethodName := ⟨RX11, "setWith", "(III)I"⟩
abbrev cX11_enters : ByteArray := prog_13_method_34_code
def yX11_enters : MethodName := ⟨RX11, "enters", "(III)V"⟩
abbrev cX11_acknowledges : ByteArray := prog_13_method_35_code
def yX11_acknowledges : MethodName := ⟨RX11, "acknowledges", "(II)V"⟩
abbrev cX11_takesExpected : ByteArray := prog_13_method_36_code
def yX11_takesExpected : MethodName := ⟨RX11, "takesExpected", "(IIIZ)V"⟩
abbrev cX11_takes : ByteArray := prog_13_method_37_code
def yX11_takes : MethodName := ⟨RX11, "takes", "(IIIZ)V"⟩
abbrev cX11_answersHello : ByteArray := prog_13_method_38_code
def yX11_answersHello : MethodName := ⟨RX11, "answersHello", "()V"⟩
abbrev cX11_hasReply : ByteArray := prog_13_method_39_code
def yX11_hasReply : MethodName := ⟨RX11, "hasReply", "()V"⟩
abbrev cX11_issues : ByteArray := prog_13_method_40_code
def yX11_issues : MethodName := ⟨RX11, "issues", "()V"⟩
abbrev cX11_hasProtected : ByteArray := prog_13_method_41_code
def yX11_hasProtected : MethodName := ⟨RX11, "hasProtected", "(I)V"⟩
abbrev cX11_removes : ByteArray := prog_13_method_42_code
def yX11_removes : MethodName := ⟨RX11, "removes", "(I)V"⟩
abbrev cX11_deliver : ByteArray := prog_13_method_43_code
def yX11_deliver : MethodName := ⟨RX11, "deliver", "(I)I"⟩
abbrev cX11_foresee : ByteArray := prog_13_method_44_code
def yX11_foresee : MethodName := ⟨RX11, "foresee", "(I)I"⟩
abbrev cX11_drop : ByteArray := prog_13_method_45_code
def yX11_drop : MethodName := ⟨RX11, "drop", "(I)I"⟩
abbrev cX11_repeat : ByteArray := prog_13_method_46_code
def yX11_repeat : MethodName := ⟨RX11, "repeat", "(I)I"⟩
abbrev cX11_alter : ByteArray := prog_13_method_47_code
def yX11_alter : MethodName := ⟨RX11, "alter", "(II)I"⟩
abbrev cX11_ticks : ByteArray := prog_13_method_48_code
def yX11_ticks : MethodName := ⟨RX11, "ticks", "()V"⟩
abbrev cX11_tick : ByteArray := prog_13_method_49_code
def yX11_tick : MethodName := ⟨RX11, "tick", "(I)I"⟩
abbrev cX11_packet : ByteArray := prog_13_method_50_code
def yX11_packet : MethodName := ⟨RX11, "packet", "(II)I"⟩
abbrev cX11_waiting : ByteArray := prog_13_method_51_code
def yX11_waiting : MethodName := ⟨RX11, "waiting", "(I)I"⟩
abbrev cX11_endpoint : ByteArray := prog_13_method_52_code
def yX11_endpoint : MethodName := ⟨RX11, "endpoint", "(II)I"⟩
abbrev cX11_window : ByteArray := prog_13_method_53_code
def yX11_window : MethodName := ⟨RX11, "window", "(II)I"⟩
abbrev cX11_taken : ByteArray := prog_13_method_54_code
def yX11_taken : MethodName := ⟨RX11, "taken", "(II)I"⟩
abbrev cX11_kept : ByteArray := prog_13_method_55_code
def yX11_kept : MethodName := ⟨RX11, "kept", "(III)I"⟩
abbrev cX11_results : ByteArray := prog_13_method_56_code
def yX11_results : MethodName := ⟨RX11, "results", "(II)I"⟩
abbrev cX11_count : ByteArray := prog_13_method_57_code
def yX11_count : MethodName := ⟨RX11, "count", "(I)I"⟩
abbrev cX11_event : ByteArray := prog_13_method_58_code
def yX11_event : MethodName := ⟨RX11, "event", "(II)I"⟩
abbrev cX11_agree : ByteArray := prog_13_method_59_code
def yX11_agree : MethodName := ⟨RX11, "agree", "()I"⟩
abbrev cX11_append : ByteArray := prog_13_method_60_code
def yX11_append : MethodName := ⟨RX11, "append", "(II)I"⟩
abbrev cX11_isDigit : ByteArray := prog_13_method_61_code
def yX11_isDigit : MethodName := ⟨RX11, "isDigit", "()Z"⟩
abbrev cX11_takesNumber : ByteArray := prog_13_method_62_code
def yX11_takesNumber : MethodName := ⟨RX11, "takesNumber", "()Z"⟩
abbrev cX11_takesAction : ByteArray := prog_13_method_63_code
def yX11_takesAction : MethodName := ⟨RX11, "takesAction", "()Z"⟩
abbrev cX11_takesScript : ByteArray := prog_13_method_64_code
def yX11_takesScript : MethodName := ⟨RX11, "takesScript", "()Z"⟩
abbrev cX11_isError : ByteArray := prog_13_method_65_code
def yX11_isError : MethodName := ⟨RX11, "isError", "(I)Z"⟩
abbrev cX11_does : ByteArray := prog_13_method_66_code
def yX11_does : MethodName := ⟨RX11, "does", "(I)I"⟩
abbrev cX11_runScript : ByteArray := prog_13_method_67_code
def yX11_runScript : MethodName := ⟨RX11, "runScript", "()I"⟩
abbrev cX11_hands : ByteArray := prog_13_method_68_code
def yX11_hands : MethodName := ⟨RX11, "hands", "([I)V"⟩
abbrev cX11_hand : ByteArray := prog_13_method_69_code
def yX11_hand : MethodName := ⟨RX11, "hand", "(I)I"⟩
abbrev cX11_handsEndpoints : ByteArray := prog_13_method_70_code
def yX11_handsEndpoints : MethodName := ⟨RX11, "handsEndpoints", "()V"⟩
abbrev cX11_handsAll : ByteArray := prog_13_method_71_code
def yX11_handsAll : MethodName := ⟨RX11, "handsAll", "(Z)V"⟩
abbrev cX11_save : ByteArray := prog_13_method_72_code
def yX11_save : MethodName := ⟨RX11, "save", "()I"⟩
abbrev cX11_restore : ByteArray := prog_13_method_73_code
def yX11_restore : MethodName := ⟨RX11, "restore", "()I"⟩
def RJ9 : String := "java/lang/Math"
def TJ9 : u_T := fun k => match k with
  | _ => ("", "", "", false)
def tyJ9 : Nat → FieldType := fun k => match k with
  | _ => .int
theorem nmJ9 : ∀ a, a < 0 → ∀ b, b < 0 → a ≠ b → (TJ9 a).2.1 ≠ (TJ9 b).2.1 := by decide +kernel
theorem tyJ9_ok : ∀ k, k < 0 → parseFieldDescriptor (TJ9 k).2.2.1 = some (tyJ9 k) := by decide +kernel
abbrev cJ9_floorMod_7cf53 : ByteArray := prog_14_method_50_code
def yJ9_floorMod_7cf53 : MethodName := ⟨RJ9, "floorMod", "(II)I"⟩
abbrev cJ9_min_7cf53 : ByteArray := prog_14_method_69_code
def yJ9_min_7cf53 : MethodName := ⟨RJ9, "min", "(II)I"⟩
def RJ10 : String := "java/lang/System"
def TJ10 : u_T := fun k => match k with
  | _ => ("", "", "", false)
def tyJ10 : Nat → FieldType := fun k => match k with
  | _ => .int
theorem nmJ10 : ∀ a, a < 0 → ∀ b, b < 0 → a ≠ b → (TJ10 a).2.1 ≠ (TJ10 b).2.1 := by decide +kernel
theorem tyJ10_ok : ∀ k, k < 0 → parseFieldDescriptor (TJ10 k).2.2.1 = some (tyJ10 k) := by decide +kernel
def RL : String := "SessionSimulatorLaw"
abbrev cL_law : ByteArray := code
def yL_law : MethodName := ⟨RL, "law", "([I)Z"⟩
abbrev vwCl : List vw_C := [(RX0, TX0, 18), (RX1, TX1, 7), (RX2, TX2, 5), (RX3, TX3, 2), (RX4, TX4, 5), (RX5, TX5, 9), (RX6, TX6, 7), (RX7, TX7, 3), (RX8, TX8, 2), (RX9, TX9, 14), (RX10, TX10, 5), (RX11, TX11, 58)]
