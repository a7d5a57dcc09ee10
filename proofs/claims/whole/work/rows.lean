section
-- ===== PART A: goes FIRST, ahead of the names: the tables' words, and 'selects' of the private methods out of them =====
/-- a private method of a class that the tables say can be made, by its rows of tables_1 -/
def lw_okq (q : MethodName × Nat) : Prop := (q.1.cls ≠ "java/lang/invoke/MethodHandle" ∧ q.1.cls ≠ "java/lang/invoke/VarHandle") ∧ Cond.instantiable q.1.cls q.2 ∈ tables_1 ∧ Cond.privateMethod q.1 ∈ tables_1 ∧ Cond.instanceMethod q.1 ∈ tables_1
theorem lw_p0 : lw_okq (⟨"SessionSimulator", "beginSession", "(II)V"⟩, 5) := ⟨⟨by decide +kernel, by decide +kernel⟩, List.mem_of_getElem? (i := 16) (by decide +kernel), List.mem_of_getElem? (i := 420) (by decide +kernel), List.mem_of_getElem? (i := 421) (by decide +kernel)⟩
theorem lw_p1 : lw_okq (⟨"SessionSimulator", "changeState", "(LSessionSimulator$Endpoint;I)V"⟩, 5) := ⟨⟨by decide +kernel, by decide +kernel⟩, List.mem_of_getElem? (i := 16) (by decide +kernel), List.mem_of_getElem? (i := 424) (by decide +kernel), List.mem_of_getElem? (i := 425) (by decide +kernel)⟩
theorem lw_p2 : lw_okq (⟨"SessionSimulator", "sendHello", "()V"⟩, 5) := ⟨⟨by decide +kernel, by decide +kernel⟩, List.mem_of_getElem? (i := 16) (by decide +kernel), List.mem_of_getElem? (i := 432) (by decide +kernel), List.mem_of_getElem? (i := 433) (by decide +kernel)⟩
theorem lw_p3 : lw_okq (⟨"SessionSimulator", "sendPlain", "(LSessionSimulator$Endpoint;IIII)Z"⟩, 5) := ⟨⟨by decide +kernel, by decide +kernel⟩, List.mem_of_getElem? (i := 16) (by decide +kernel), List.mem_of_getElem? (i := 436) (by decide +kernel), List.mem_of_getElem? (i := 437) (by decide +kernel)⟩
theorem lw_p4 : lw_okq (⟨"SessionSimulator", "noteSent", "(LSessionSimulator$Packet;)V"⟩, 5) := ⟨⟨by decide +kernel, by decide +kernel⟩, List.mem_of_getElem? (i := 16) (by decide +kernel), List.mem_of_getElem? (i := 448) (by decide +kernel), List.mem_of_getElem? (i := 449) (by decide +kernel)⟩
theorem lw_p5 : lw_okq (⟨"SessionSimulator", "breakOff", "(LSessionSimulator$Endpoint;)V"⟩, 5) := ⟨⟨by decide +kernel, by decide +kernel⟩, List.mem_of_getElem? (i := 16) (by decide +kernel), List.mem_of_getElem? (i := 461) (by decide +kernel), List.mem_of_getElem? (i := 462) (by decide +kernel)⟩
theorem lw_p6 : lw_okq (⟨"SessionSimulator", "endpointOf", "(I)LSessionSimulator$Endpoint;"⟩, 5) := ⟨⟨by decide +kernel, by decide +kernel⟩, List.mem_of_getElem? (i := 16) (by decide +kernel), List.mem_of_getElem? (i := 473) (by decide +kernel), List.mem_of_getElem? (i := 474) (by decide +kernel)⟩
theorem lw_p7 : lw_okq (⟨"SessionSimulator", "addMessage", "(LSessionSimulator$Endpoint;IZ)I"⟩, 5) := ⟨⟨by decide +kernel, by decide +kernel⟩, List.mem_of_getElem? (i := 16) (by decide +kernel), List.mem_of_getElem? (i := 477) (by decide +kernel), List.mem_of_getElem? (i := 478) (by decide +kernel)⟩
theorem lw_p8 : lw_okq (⟨"SessionSimulator", "sendDue", "(LSessionSimulator$Endpoint;)V"⟩, 5) := ⟨⟨by decide +kernel, by decide +kernel⟩, List.mem_of_getElem? (i := 16) (by decide +kernel), List.mem_of_getElem? (i := 490) (by decide +kernel), List.mem_of_getElem? (i := 491) (by decide +kernel)⟩
theorem lw_p9 : lw_okq (⟨"SessionSimulator", "sendProtected", "(LSessionSimulator$Endpoint;III)Z"⟩, 5) := ⟨⟨by decide +kernel, by decide +kernel⟩, List.mem_of_getElem? (i := 16) (by decide +kernel), List.mem_of_getElem? (i := 498) (by decide +kernel), List.mem_of_getElem? (i := 499) (by decide +kernel)⟩
theorem lw_p10 : lw_okq (⟨"SessionSimulator", "resultOf", "(LSessionSimulator$Packet;LSessionSimulator$Endpoint;)I"⟩, 5) := ⟨⟨by decide +kernel, by decide +kernel⟩, List.mem_of_getElem? (i := 16) (by decide +kernel), List.mem_of_getElem? (i := 528) (by decide +kernel), List.mem_of_getElem? (i := 529) (by decide +kernel)⟩
theorem lw_p11 : lw_okq (⟨"SessionSimulator", "isRefused", "(I)Z"⟩, 5) := ⟨⟨by decide +kernel, by decide +kernel⟩, List.mem_of_getElem? (i := 16) (by decide +kernel), List.mem_of_getElem? (i := 536) (by decide +kernel), List.mem_of_getElem? (i := 537) (by decide +kernel)⟩
theorem lw_p12 : lw_okq (⟨"SessionSimulator", "protectedResultOf", "(LSessionSimulator$Packet;LSessionSimulator$Endpoint;)I"⟩, 5) := ⟨⟨by decide +kernel, by decide +kernel⟩, List.mem_of_getElem? (i := 16) (by decide +kernel), List.mem_of_getElem? (i := 552) (by decide +kernel), List.mem_of_getElem? (i := 553) (by decide +kernel)⟩
theorem lw_p13 : lw_okq (⟨"SessionSimulator", "acceptProtected", "(LSessionSimulator$Endpoint;LSessionSimulator$Packet;)V"⟩, 5) := ⟨⟨by decide +kernel, by decide +kernel⟩, List.mem_of_getElem? (i := 16) (by decide +kernel), List.mem_of_getElem? (i := 584) (by decide +kernel), List.mem_of_getElem? (i := 585) (by decide +kernel)⟩
theorem lw_p14 : lw_okq (⟨"SessionSimulator", "issueTicket", "(LSessionSimulator$Endpoint;)V"⟩, 5) := ⟨⟨by decide +kernel, by decide +kernel⟩, List.mem_of_getElem? (i := 16) (by decide +kernel), List.mem_of_getElem? (i := 605) (by decide +kernel), List.mem_of_getElem? (i := 606) (by decide +kernel)⟩
theorem lw_p15 : lw_okq (⟨"SessionSimulator", "acceptPlain", "(LSessionSimulator$Endpoint;LSessionSimulator$Packet;)V"⟩, 5) := ⟨⟨by decide +kernel, by decide +kernel⟩, List.mem_of_getElem? (i := 16) (by decide +kernel), List.mem_of_getElem? (i := 636) (by decide +kernel), List.mem_of_getElem? (i := 637) (by decide +kernel)⟩
def lw_privs_1 : List (MethodName × Nat) := [(⟨"SessionSimulator", "beginSession", "(II)V"⟩, 5), (⟨"SessionSimulator", "changeState", "(LSessionSimulator$Endpoint;I)V"⟩, 5), (⟨"SessionSimulator", "sendHello", "()V"⟩, 5), (⟨"SessionSimulator", "sendPlain", "(LSessionSimulator$Endpoint;IIII)Z"⟩, 5), (⟨"SessionSimulator", "noteSent", "(LSessionSimulator$Packet;)V"⟩, 5), (⟨"SessionSimulator", "breakOff", "(LSessionSimulator$Endpoint;)V"⟩, 5), (⟨"SessionSimulator", "endpointOf", "(I)LSessionSimulator$Endpoint;"⟩, 5), (⟨"SessionSimulator", "addMessage", "(LSessionSimulator$Endpoint;IZ)I"⟩, 5), (⟨"SessionSimulator", "sendDue", "(LSessionSimulator$Endpoint;)V"⟩, 5), (⟨"SessionSimulator", "sendProtected", "(LSessionSimulator$Endpoint;III)Z"⟩, 5), (⟨"SessionSimulator", "resultOf", "(LSessionSimulator$Packet;LSessionSimulator$Endpoint;)I"⟩, 5), (⟨"SessionSimulator", "isRefused", "(I)Z"⟩, 5), (⟨"SessionSimulator", "protectedResultOf", "(LSessionSimulator$Packet;LSessionSimulator$Endpoint;)I"⟩, 5), (⟨"SessionSimulator", "acceptProtected", "(LSessionSimulator$Endpoint;LSessionSimulator$Packet;)V"⟩, 5), (⟨"SessionSimulator", "issueTicket", "(LSessionSimulator$Endpoint;)V"⟩, 5), (⟨"SessionSimulator", "acceptPlain", "(LSessionSimulator$Endpoint;LSessionSimulator$Packet;)V"⟩, 5)]
theorem lw_r1 : ∀ q ∈ lw_privs_1, lw_okq q := List.forall_mem_cons.mpr ⟨lw_p0, List.forall_mem_cons.mpr ⟨lw_p1, List.forall_mem_cons.mpr ⟨lw_p2, List.forall_mem_cons.mpr ⟨lw_p3, List.forall_mem_cons.mpr ⟨lw_p4, List.forall_mem_cons.mpr ⟨lw_p5, List.forall_mem_cons.mpr ⟨lw_p6, List.forall_mem_cons.mpr ⟨lw_p7, List.forall_mem_cons.mpr ⟨lw_p8, List.forall_mem_cons.mpr ⟨lw_p9, List.forall_mem_cons.mpr ⟨lw_p10, List.forall_mem_cons.mpr ⟨lw_p11, List.forall_mem_cons.mpr ⟨lw_p12, List.forall_mem_cons.mpr ⟨lw_p13, List.forall_mem_cons.mpr ⟨lw_p14, List.forall_mem_cons.mpr ⟨lw_p15, fun _ h => absurd h List.not_mem_nil⟩⟩⟩⟩⟩⟩⟩⟩⟩⟩⟩⟩⟩⟩⟩⟩
theorem lw_p16 : lw_okq (⟨"SessionSimulator", "acceptHello", "(LSessionSimulator$Endpoint;LSessionSimulator$Packet;)V"⟩, 5) := ⟨⟨by decide +kernel, by decide +kernel⟩, List.mem_of_getElem? (i := 16) (by decide +kernel), List.mem_of_getElem? (i := 640) (by decide +kernel), List.mem_of_getElem? (i := 641) (by decide +kernel)⟩
theorem lw_p17 : lw_okq (⟨"SessionSimulator", "acceptReply", "(LSessionSimulator$Endpoint;LSessionSimulator$Packet;)V"⟩, 5) := ⟨⟨by decide +kernel, by decide +kernel⟩, List.mem_of_getElem? (i := 16) (by decide +kernel), List.mem_of_getElem? (i := 659) (by decide +kernel), List.mem_of_getElem? (i := 660) (by decide +kernel)⟩
theorem lw_p18 : lw_okq (⟨"SessionSimulator", "repeatHello", "()V"⟩, 5) := ⟨⟨by decide +kernel, by decide +kernel⟩, List.mem_of_getElem? (i := 16) (by decide +kernel), List.mem_of_getElem? (i := 683) (by decide +kernel), List.mem_of_getElem? (i := 684) (by decide +kernel)⟩
theorem lw_p19 : lw_okq (⟨"SessionSimulator", "resendLateMessages", "(LSessionSimulator$Endpoint;)V"⟩, 5) := ⟨⟨by decide +kernel, by decide +kernel⟩, List.mem_of_getElem? (i := 16) (by decide +kernel), List.mem_of_getElem? (i := 687) (by decide +kernel), List.mem_of_getElem? (i := 688) (by decide +kernel)⟩
theorem lw_p20 : lw_okq (⟨"SessionSimulatorModel", "hasRoom", "()Z"⟩, 58) := ⟨⟨by decide +kernel, by decide +kernel⟩, List.mem_of_getElem? (i := 862) (by decide +kernel), List.mem_of_getElem? (i := 1056) (by decide +kernel), List.mem_of_getElem? (i := 1057) (by decide +kernel)⟩
theorem lw_p21 : lw_okq (⟨"SessionSimulatorModel", "beginsStream", "(I)V"⟩, 58) := ⟨⟨by decide +kernel, by decide +kernel⟩, List.mem_of_getElem? (i := 862) (by decide +kernel), List.mem_of_getElem? (i := 1061) (by decide +kernel), List.mem_of_getElem? (i := 1062) (by decide +kernel)⟩
theorem lw_p22 : lw_okq (⟨"SessionSimulatorModel", "clearsWaiting", "(I)V"⟩, 58) := ⟨⟨by decide +kernel, by decide +kernel⟩, List.mem_of_getElem? (i := 862) (by decide +kernel), List.mem_of_getElem? (i := 1065) (by decide +kernel), List.mem_of_getElem? (i := 1066) (by decide +kernel)⟩
theorem lw_p23 : lw_okq (⟨"SessionSimulatorModel", "greets", "(II)V"⟩, 58) := ⟨⟨by decide +kernel, by decide +kernel⟩, List.mem_of_getElem? (i := 862) (by decide +kernel), List.mem_of_getElem? (i := 1069) (by decide +kernel), List.mem_of_getElem? (i := 1070) (by decide +kernel)⟩
theorem lw_p24 : lw_okq (⟨"SessionSimulatorModel", "becomes", "(II)V"⟩, 58) := ⟨⟨by decide +kernel, by decide +kernel⟩, List.mem_of_getElem? (i := 862) (by decide +kernel), List.mem_of_getElem? (i := 1073) (by decide +kernel), List.mem_of_getElem? (i := 1074) (by decide +kernel)⟩
theorem lw_p25 : lw_okq (⟨"SessionSimulatorModel", "logs", "(III)V"⟩, 58) := ⟨⟨by decide +kernel, by decide +kernel⟩, List.mem_of_getElem? (i := 862) (by decide +kernel), List.mem_of_getElem? (i := 1077) (by decide +kernel), List.mem_of_getElem? (i := 1078) (by decide +kernel)⟩
theorem lw_p26 : lw_okq (⟨"SessionSimulatorModel", "sendsPlain", "(IIIII)Z"⟩, 58) := ⟨⟨by decide +kernel, by decide +kernel⟩, List.mem_of_getElem? (i := 862) (by decide +kernel), List.mem_of_getElem? (i := 1081) (by decide +kernel), List.mem_of_getElem? (i := 1082) (by decide +kernel)⟩
theorem lw_p27 : lw_okq (⟨"SessionSimulatorModel", "appends", "(IIIIIIIII)V"⟩, 58) := ⟨⟨by decide +kernel, by decide +kernel⟩, List.mem_of_getElem? (i := 862) (by decide +kernel), List.mem_of_getElem? (i := 1085) (by decide +kernel), List.mem_of_getElem? (i := 1086) (by decide +kernel)⟩
theorem lw_p28 : lw_okq (⟨"SessionSimulatorModel", "notSending", "(I)I"⟩, 58) := ⟨⟨by decide +kernel, by decide +kernel⟩, List.mem_of_getElem? (i := 862) (by decide +kernel), List.mem_of_getElem? (i := 1105) (by decide +kernel), List.mem_of_getElem? (i := 1106) (by decide +kernel)⟩
theorem lw_p29 : lw_okq (⟨"SessionSimulatorModel", "comes", "(IIZ)I"⟩, 58) := ⟨⟨by decide +kernel, by decide +kernel⟩, List.mem_of_getElem? (i := 862) (by decide +kernel), List.mem_of_getElem? (i := 1109) (by decide +kernel), List.mem_of_getElem? (i := 1110) (by decide +kernel)⟩
theorem lw_p30 : lw_okq (⟨"SessionSimulatorModel", "sendsDue", "(I)V"⟩, 58) := ⟨⟨by decide +kernel, by decide +kernel⟩, List.mem_of_getElem? (i := 862) (by decide +kernel), List.mem_of_getElem? (i := 1113) (by decide +kernel), List.mem_of_getElem? (i := 1114) (by decide +kernel)⟩
theorem lw_p31 : lw_okq (⟨"SessionSimulatorModel", "sendsProtected", "(IIII)Z"⟩, 58) := ⟨⟨by decide +kernel, by decide +kernel⟩, List.mem_of_getElem? (i := 862) (by decide +kernel), List.mem_of_getElem? (i := 1117) (by decide +kernel), List.mem_of_getElem? (i := 1118) (by decide +kernel)⟩
def lw_privs_2 : List (MethodName × Nat) := [(⟨"SessionSimulator", "acceptHello", "(LSessionSimulator$Endpoint;LSessionSimulator$Packet;)V"⟩, 5), (⟨"SessionSimulator", "acceptReply", "(LSessionSimulator$Endpoint;LSessionSimulator$Packet;)V"⟩, 5), (⟨"SessionSimulator", "repeatHello", "()V"⟩, 5), (⟨"SessionSimulator", "resendLateMessages", "(LSessionSimulator$Endpoint;)V"⟩, 5), (⟨"SessionSimulatorModel", "hasRoom", "()Z"⟩, 58), (⟨"SessionSimulatorModel", "beginsStream", "(I)V"⟩, 58), (⟨"SessionSimulatorModel", "clearsWaiting", "(I)V"⟩, 58), (⟨"SessionSimulatorModel", "greets", "(II)V"⟩, 58), (⟨"SessionSimulatorModel", "becomes", "(II)V"⟩, 58), (⟨"SessionSimulatorModel", "logs", "(III)V"⟩, 58), (⟨"SessionSimulatorModel", "sendsPlain", "(IIIII)Z"⟩, 58), (⟨"SessionSimulatorModel", "appends", "(IIIIIIIII)V"⟩, 58), (⟨"SessionSimulatorModel", "notSending", "(I)I"⟩, 58), (⟨"SessionSimulatorModel", "comes", "(IIZ)I"⟩, 58), (⟨"SessionSimulatorModel", "sendsDue", "(I)V"⟩, 58), (⟨"SessionSimulatorModel", "sendsProtected", "(IIII)Z"⟩, 58)]
theorem lw_r2 : ∀ q ∈ lw_privs_2, lw_okq q := List.forall_mem_cons.mpr ⟨lw_p16, List.forall_mem_cons.mpr ⟨lw_p17, List.forall_mem_cons.mpr ⟨lw_p18, List.forall_mem_cons.mpr ⟨lw_p19, List.forall_mem_cons.mpr ⟨lw_p20, List.forall_mem_cons.mpr ⟨lw_p21, List.forall_mem_cons.mpr ⟨lw_p22, List.forall_mem_cons.mpr ⟨lw_p23, List.forall_mem_cons.mpr ⟨lw_p24, List.forall_mem_cons.mpr ⟨lw_p25, List.forall_mem_cons.mpr ⟨lw_p26, List.forall_mem_cons.mpr ⟨lw_p27, List.forall_mem_cons.mpr ⟨lw_p28, List.forall_mem_cons.mpr ⟨lw_p29, List.forall_mem_cons.mpr ⟨lw_p30, List.forall_mem_cons.mpr ⟨lw_p31, fun _ h => absurd h List.not_mem_nil⟩⟩⟩⟩⟩⟩⟩⟩⟩⟩⟩⟩⟩⟩⟩⟩
theorem lw_p32 : lw_okq (⟨"SessionSimulatorModel", "isPacket", "(I)Z"⟩, 58) := ⟨⟨by decide +kernel, by decide +kernel⟩, List.mem_of_getElem? (i := 862) (by decide +kernel), List.mem_of_getElem? (i := 1135) (by decide +kernel), List.mem_of_getElem? (i := 1136) (by decide +kernel)⟩
theorem lw_p33 : lw_okq (⟨"SessionSimulatorModel", "resultOf", "(I)I"⟩, 58) := ⟨⟨by decide +kernel, by decide +kernel⟩, List.mem_of_getElem? (i := 862) (by decide +kernel), List.mem_of_getElem? (i := 1139) (by decide +kernel), List.mem_of_getElem? (i := 1140) (by decide +kernel)⟩
theorem lw_p34 : lw_okq (⟨"SessionSimulatorModel", "at", "(II)I"⟩, 58) := ⟨⟨by decide +kernel, by decide +kernel⟩, List.mem_of_getElem? (i := 862) (by decide +kernel), List.mem_of_getElem? (i := 1143) (by decide +kernel), List.mem_of_getElem? (i := 1144) (by decide +kernel)⟩
theorem lw_p35 : lw_okq (⟨"SessionSimulatorModel", "takesKind", "(II)Z"⟩, 58) := ⟨⟨by decide +kernel, by decide +kernel⟩, List.mem_of_getElem? (i := 862) (by decide +kernel), List.mem_of_getElem? (i := 1147) (by decide +kernel), List.mem_of_getElem? (i := 1148) (by decide +kernel)⟩
theorem lw_p36 : lw_okq (⟨"SessionSimulatorModel", "isTicket", "(I)Z"⟩, 58) := ⟨⟨by decide +kernel, by decide +kernel⟩, List.mem_of_getElem? (i := 862) (by decide +kernel), List.mem_of_getElem? (i := 1151) (by decide +kernel), List.mem_of_getElem? (i := 1152) (by decide +kernel)⟩
theorem lw_p37 : lw_okq (⟨"SessionSimulatorModel", "protectedResult", "(III)I"⟩, 58) := ⟨⟨by decide +kernel, by decide +kernel⟩, List.mem_of_getElem? (i := 862) (by decide +kernel), List.mem_of_getElem? (i := 1155) (by decide +kernel), List.mem_of_getElem? (i := 1156) (by decide +kernel)⟩
theorem lw_p38 : lw_okq (⟨"SessionSimulatorModel", "isOwnEpoch", "(II)Z"⟩, 58) := ⟨⟨by decide +kernel, by decide +kernel⟩, List.mem_of_getElem? (i := 862) (by decide +kernel), List.mem_of_getElem? (i := 1159) (by decide +kernel), List.mem_of_getElem? (i := 1160) (by decide +kernel)⟩
theorem lw_p39 : lw_okq (⟨"SessionSimulatorModel", "hasOld", "(I)Z"⟩, 58) := ⟨⟨by decide +kernel, by decide +kernel⟩, List.mem_of_getElem? (i := 862) (by decide +kernel), List.mem_of_getElem? (i := 1163) (by decide +kernel), List.mem_of_getElem? (i := 1164) (by decide +kernel)⟩
theorem lw_p40 : lw_okq (⟨"SessionSimulatorModel", "removes", "(I)V"⟩, 58) := ⟨⟨by decide +kernel, by decide +kernel⟩, List.mem_of_getElem? (i := 862) (by decide +kernel), List.mem_of_getElem? (i := 1167) (by decide +kernel), List.mem_of_getElem? (i := 1168) (by decide +kernel)⟩
theorem lw_p41 : lw_okq (⟨"SessionSimulatorModel", "answersHello", "()V"⟩, 58) := ⟨⟨by decide +kernel, by decide +kernel⟩, List.mem_of_getElem? (i := 862) (by decide +kernel), List.mem_of_getElem? (i := 1171) (by decide +kernel), List.mem_of_getElem? (i := 1172) (by decide +kernel)⟩
theorem lw_p42 : lw_okq (⟨"SessionSimulatorModel", "beginsWindows", "(I)V"⟩, 58) := ⟨⟨by decide +kernel, by decide +kernel⟩, List.mem_of_getElem? (i := 862) (by decide +kernel), List.mem_of_getElem? (i := 1175) (by decide +kernel), List.mem_of_getElem? (i := 1176) (by decide +kernel)⟩
theorem lw_p43 : lw_okq (⟨"SessionSimulatorModel", "hasReply", "()V"⟩, 58) := ⟨⟨by decide +kernel, by decide +kernel⟩, List.mem_of_getElem? (i := 862) (by decide +kernel), List.mem_of_getElem? (i := 1179) (by decide +kernel), List.mem_of_getElem? (i := 1180) (by decide +kernel)⟩
theorem lw_p44 : lw_okq (⟨"SessionSimulatorModel", "hasProtected", "(I)V"⟩, 58) := ⟨⟨by decide +kernel, by decide +kernel⟩, List.mem_of_getElem? (i := 862) (by decide +kernel), List.mem_of_getElem? (i := 1183) (by decide +kernel), List.mem_of_getElem? (i := 1184) (by decide +kernel)⟩
theorem lw_p45 : lw_okq (⟨"SessionSimulatorModel", "enters", "(III)V"⟩, 58) := ⟨⟨by decide +kernel, by decide +kernel⟩, List.mem_of_getElem? (i := 862) (by decide +kernel), List.mem_of_getElem? (i := 1187) (by decide +kernel), List.mem_of_getElem? (i := 1188) (by decide +kernel)⟩
theorem lw_p46 : lw_okq (⟨"SessionSimulatorModel", "issues", "()V"⟩, 58) := ⟨⟨by decide +kernel, by decide +kernel⟩, List.mem_of_getElem? (i := 862) (by decide +kernel), List.mem_of_getElem? (i := 1194) (by decide +kernel), List.mem_of_getElem? (i := 1195) (by decide +kernel)⟩
theorem lw_p47 : lw_okq (⟨"SessionSimulatorModel", "acknowledges", "(II)V"⟩, 58) := ⟨⟨by decide +kernel, by decide +kernel⟩, List.mem_of_getElem? (i := 862) (by decide +kernel), List.mem_of_getElem? (i := 1198) (by decide +kernel), List.mem_of_getElem? (i := 1199) (by decide +kernel)⟩
def lw_privs_3 : List (MethodName × Nat) := [(⟨"SessionSimulatorModel", "isPacket", "(I)Z"⟩, 58), (⟨"SessionSimulatorModel", "resultOf", "(I)I"⟩, 58), (⟨"SessionSimulatorModel", "at", "(II)I"⟩, 58), (⟨"SessionSimulatorModel", "takesKind", "(II)Z"⟩, 58), (⟨"SessionSimulatorModel", "isTicket", "(I)Z"⟩, 58), (⟨"SessionSimulatorModel", "protectedResult", "(III)I"⟩, 58), (⟨"SessionSimulatorModel", "isOwnEpoch", "(II)Z"⟩, 58), (⟨"SessionSimulatorModel", "hasOld", "(I)Z"⟩, 58), (⟨"SessionSimulatorModel", "removes", "(I)V"⟩, 58), (⟨"SessionSimulatorModel", "answersHello", "()V"⟩, 58), (⟨"SessionSimulatorModel", "beginsWindows", "(I)V"⟩, 58), (⟨"SessionSimulatorModel", "hasReply", "()V"⟩, 58), (⟨"SessionSimulatorModel", "hasProtected", "(I)V"⟩, 58), (⟨"SessionSimulatorModel", "enters", "(III)V"⟩, 58), (⟨"SessionSimulatorModel", "issues", "()V"⟩, 58), (⟨"SessionSimulatorModel", "acknowledges", "(II)V"⟩, 58)]
theorem lw_r3 : ∀ q ∈ lw_privs_3, lw_okq q := List.forall_mem_cons.mpr ⟨lw_p32, List.forall_mem_cons.mpr ⟨lw_p33, List.forall_mem_cons.mpr ⟨lw_p34, List.forall_mem_cons.mpr ⟨lw_p35, List.forall_mem_cons.mpr ⟨lw_p36, List.forall_mem_cons.mpr ⟨lw_p37, List.forall_mem_cons.mpr ⟨lw_p38, List.forall_mem_cons.mpr ⟨lw_p39, List.forall_mem_cons.mpr ⟨lw_p40, List.forall_mem_cons.mpr ⟨lw_p41, List.forall_mem_cons.mpr ⟨lw_p42, List.forall_mem_cons.mpr ⟨lw_p43, List.forall_mem_cons.mpr ⟨lw_p44, List.forall_mem_cons.mpr ⟨lw_p45, List.forall_mem_cons.mpr ⟨lw_p46, List.forall_mem_cons.mpr ⟨lw_p47, fun _ h => absurd h List.not_mem_nil⟩⟩⟩⟩⟩⟩⟩⟩⟩⟩⟩⟩⟩⟩⟩⟩
theorem lw_p48 : lw_okq (⟨"SessionSimulatorModel", "takes", "(IIIZ)V"⟩, 58) := ⟨⟨by decide +kernel, by decide +kernel⟩, List.mem_of_getElem? (i := 862) (by decide +kernel), List.mem_of_getElem? (i := 1202) (by decide +kernel), List.mem_of_getElem? (i := 1203) (by decide +kernel)⟩
theorem lw_p49 : lw_okq (⟨"SessionSimulatorModel", "takesExpected", "(IIIZ)V"⟩, 58) := ⟨⟨by decide +kernel, by decide +kernel⟩, List.mem_of_getElem? (i := 862) (by decide +kernel), List.mem_of_getElem? (i := 1206) (by decide +kernel), List.mem_of_getElem? (i := 1207) (by decide +kernel)⟩
theorem lw_p50 : lw_okq (⟨"SessionSimulatorModel", "ticks", "()V"⟩, 58) := ⟨⟨by decide +kernel, by decide +kernel⟩, List.mem_of_getElem? (i := 862) (by decide +kernel), List.mem_of_getElem? (i := 1230) (by decide +kernel), List.mem_of_getElem? (i := 1231) (by decide +kernel)⟩
theorem lw_p51 : lw_okq (⟨"SessionSimulatorModel", "waiting", "(I)I"⟩, 58) := ⟨⟨by decide +kernel, by decide +kernel⟩, List.mem_of_getElem? (i := 862) (by decide +kernel), List.mem_of_getElem? (i := 1242) (by decide +kernel), List.mem_of_getElem? (i := 1243) (by decide +kernel)⟩
theorem lw_p52 : lw_okq (⟨"SessionSimulatorModel", "takesScript", "()Z"⟩, 58) := ⟨⟨by decide +kernel, by decide +kernel⟩, List.mem_of_getElem? (i := 862) (by decide +kernel), List.mem_of_getElem? (i := 1282) (by decide +kernel), List.mem_of_getElem? (i := 1283) (by decide +kernel)⟩
theorem lw_p53 : lw_okq (⟨"SessionSimulatorModel", "takesAction", "()Z"⟩, 58) := ⟨⟨by decide +kernel, by decide +kernel⟩, List.mem_of_getElem? (i := 862) (by decide +kernel), List.mem_of_getElem? (i := 1286) (by decide +kernel), List.mem_of_getElem? (i := 1287) (by decide +kernel)⟩
theorem lw_p54 : lw_okq (⟨"SessionSimulatorModel", "isDigit", "()Z"⟩, 58) := ⟨⟨by decide +kernel, by decide +kernel⟩, List.mem_of_getElem? (i := 862) (by decide +kernel), List.mem_of_getElem? (i := 1290) (by decide +kernel), List.mem_of_getElem? (i := 1291) (by decide +kernel)⟩
theorem lw_p55 : lw_okq (⟨"SessionSimulatorModel", "takesNumber", "()Z"⟩, 58) := ⟨⟨by decide +kernel, by decide +kernel⟩, List.mem_of_getElem? (i := 862) (by decide +kernel), List.mem_of_getElem? (i := 1294) (by decide +kernel), List.mem_of_getElem? (i := 1295) (by decide +kernel)⟩
theorem lw_p56 : lw_okq (⟨"SessionSimulatorModel", "does", "(I)I"⟩, 58) := ⟨⟨by decide +kernel, by decide +kernel⟩, List.mem_of_getElem? (i := 862) (by decide +kernel), List.mem_of_getElem? (i := 1298) (by decide +kernel), List.mem_of_getElem? (i := 1299) (by decide +kernel)⟩
theorem lw_p57 : lw_okq (⟨"SessionSimulatorModel", "handsAll", "(Z)V"⟩, 58) := ⟨⟨by decide +kernel, by decide +kernel⟩, List.mem_of_getElem? (i := 862) (by decide +kernel), List.mem_of_getElem? (i := 1314) (by decide +kernel), List.mem_of_getElem? (i := 1315) (by decide +kernel)⟩
theorem lw_p58 : lw_okq (⟨"SessionSimulatorModel", "handsEndpoints", "()V"⟩, 58) := ⟨⟨by decide +kernel, by decide +kernel⟩, List.mem_of_getElem? (i := 862) (by decide +kernel), List.mem_of_getElem? (i := 1318) (by decide +kernel), List.mem_of_getElem? (i := 1319) (by decide +kernel)⟩
theorem lw_p59 : lw_okq (⟨"SessionSimulatorModel", "hands", "([I)V"⟩, 58) := ⟨⟨by decide +kernel, by decide +kernel⟩, List.mem_of_getElem? (i := 862) (by decide +kernel), List.mem_of_getElem? (i := 1322) (by decide +kernel), List.mem_of_getElem? (i := 1323) (by decide +kernel)⟩
theorem lw_p60 : lw_okq (⟨"SessionSimulatorModel", "hand", "(I)I"⟩, 58) := ⟨⟨by decide +kernel, by decide +kernel⟩, List.mem_of_getElem? (i := 862) (by decide +kernel), List.mem_of_getElem? (i := 1326) (by decide +kernel), List.mem_of_getElem? (i := 1327) (by decide +kernel)⟩
def lw_privs_4 : List (MethodName × Nat) := [(⟨"SessionSimulatorModel", "takes", "(IIIZ)V"⟩, 58), (⟨"SessionSimulatorModel", "takesExpected", "(IIIZ)V"⟩, 58), (⟨"SessionSimulatorModel", "ticks", "()V"⟩, 58), (⟨"SessionSimulatorModel", "waiting", "(I)I"⟩, 58), (⟨"SessionSimulatorModel", "takesScript", "()Z"⟩, 58), (⟨"SessionSimulatorModel", "takesAction", "()Z"⟩, 58), (⟨"SessionSimulatorModel", "isDigit", "()Z"⟩, 58), (⟨"SessionSimulatorModel", "takesNumber", "()Z"⟩, 58), (⟨"SessionSimulatorModel", "does", "(I)I"⟩, 58), (⟨"SessionSimulatorModel", "handsAll", "(Z)V"⟩, 58), (⟨"SessionSimulatorModel", "handsEndpoints", "()V"⟩, 58), (⟨"SessionSimulatorModel", "hands", "([I)V"⟩, 58), (⟨"SessionSimulatorModel", "hand", "(I)I"⟩, 58)]
theorem lw_r4 : ∀ q ∈ lw_privs_4, lw_okq q := List.forall_mem_cons.mpr ⟨lw_p48, List.forall_mem_cons.mpr ⟨lw_p49, List.forall_mem_cons.mpr ⟨lw_p50, List.forall_mem_cons.mpr ⟨lw_p51, List.forall_mem_cons.mpr ⟨lw_p52, List.forall_mem_cons.mpr ⟨lw_p53, List.forall_mem_cons.mpr ⟨lw_p54, List.forall_mem_cons.mpr ⟨lw_p55, List.forall_mem_cons.mpr ⟨lw_p56, List.forall_mem_cons.mpr ⟨lw_p57, List.forall_mem_cons.mpr ⟨lw_p58, List.forall_mem_cons.mpr ⟨lw_p59, List.forall_mem_cons.mpr ⟨lw_p60, fun _ h => absurd h List.not_mem_nil⟩⟩⟩⟩⟩⟩⟩⟩⟩⟩⟩⟩⟩
def lw_privs : List (MethodName × Nat) := lw_privs_1 ++ (lw_privs_2 ++ (lw_privs_3 ++ (lw_privs_4)))
def lw_tbl : List Cond := k2_sels lw_privs ++ tables_1
theorem lw_privs_ok : ∀ q ∈ lw_privs, lw_okq q := by
  show ∀ q ∈ lw_privs_1 ++ (lw_privs_2 ++ (lw_privs_3 ++ (lw_privs_4))), lw_okq q
  exact List.forall_mem_append.mpr ⟨lw_r1, List.forall_mem_append.mpr ⟨lw_r2, List.forall_mem_append.mpr ⟨lw_r3, lw_r4⟩⟩⟩
-- ===== end of PART A; then your names; then what follows =====
def RX0 : String := "SessionSimulator$Endpoint"
def TX0 : u_T := fun k => match k with
  | 0 => ("SessionSimulator$Endpoint", "number", "I", true)
  | 1 => ("SessionSimulator$Endpoint", "resultCounts", "[I", true)
  | 2 => ("SessionSimulator$Endpoint", "outbox", "LSessionSimulator$Outbox;", true)
  | 3 => ("SessionSimulator$Endpoint", "inbox", "LSessionSimulator$Inbox;", true)
  | 4 => ("SessionSimulator$Endpoint", "window", "LSessionSimulator$Window;", true)
  | 5 => ("SessionSimulator$Endpoint", "previous", "LSessionSimulator$Window;", true)
  | 6 => ("SessionSimulator$Endpoint", "hasPrevious", "Z", false)
  | 7 => ("SessionSimulator$Endpoint", "previousPacketsLeft", "I", false)
  | 8 => ("SessionSimulator$Endpoint", "state", "I", false)
  | 9 => ("SessionSimulator$Endpoint", "session", "I", false)
  | 10 => ("SessionSimulator$Endpoint", "base", "I", false)
  | 11 => ("SessionSimulator$Endpoint", "sendingEpoch", "I", false)
  | 12 => ("SessionSimulator$Endpoint", "nextSequence", "I", false)
  | 13 => ("SessionSimulator$Endpoint", "receivingEpoch", "I", false)
  | 14 => ("SessionSimulator$Endpoint", "ticket", "I", false)
  | 15 => ("SessionSimulator$Endpoint", "helloNonce", "I", false)
  | 16 => ("SessionSimulator$Endpoint", "helloTicket", "I", false)
  | _ => ("SessionSimulator$Endpoint", "helloTime", "I", false)
def tyX0 : Nat → FieldType := fun k => match k with
  | 0 => .int
  | 1 => .array .int
  | 2 => .object "SessionSimulator$Outbox"
  | 3 => .object "SessionSimulator$Inbox"
  | 4 => .object "SessionSimulator$Window"
  | 5 => .object "SessionSimulator$Window"
  | 6 => .boolean
  | 7 => .int
  | 8 => .int
  | 9 => .int
  | 10 => .int
  | 11 => .int
  | 12 => .int
  | 13 => .int
  | 14 => .int
  | 15 => .int
  | 16 => .int
  | _ => .int
theorem nmX0 : ∀ a, a < 18 → ∀ b, b < 18 → a ≠ b → (TX0 a).2.1 ≠ (TX0 b).2.1 := by decide +kernel
theorem tyX0_ok : ∀ k, k < 18 → parseFieldDescriptor (TX0 k).2.2.1 = some (tyX0 k) := by decide +kernel
abbrev cX0_init : ByteArray := prog_2_method_1_code
def yX0_init : MethodName := ⟨RX0, "<init>", "(I)V"⟩
abbrev cX0_copyFrom : ByteArray := prog_2_method_2_code
def yX0_copyFrom : MethodName := ⟨RX0, "copyFrom", "(LSessionSimulator$Endpoint;)V"⟩
abbrev cX0_beginStream : ByteArray := prog_2_method_3_code
def yX0_beginStream : MethodName := ⟨RX0, "beginStream", "()V"⟩
abbrev cX0_beginKeys : ByteArray := prog_2_method_4_code
def yX0_beginKeys : MethodName := ⟨RX0, "beginKeys", "()V"⟩
abbrev cX0_countResult : ByteArray := prog_2_method_5_code
def yX0_countResult : MethodName := ⟨RX0, "countResult", "(I)V"⟩
abbrev cX0_takesKind : ByteArray := prog_2_method_6_code
def yX0_takesKind : MethodName := ⟨RX0, "takesKind", "(I)Z"⟩
abbrev cX0_takesEpoch : ByteArray := prog_2_method_7_code
def yX0_takesEpoch : MethodName := ⟨RX0, "takesEpoch", "(I)Z"⟩
abbrev cX0_windowOf : ByteArray := prog_2_method_8_code
def yX0_windowOf : MethodName := ⟨RX0, "windowOf", "(I)LSessionSimulator$Window;"⟩
abbrev cX0_enterInWindow : ByteArray := prog_2_method_9_code
def yX0_enterInWindow : MethodName := ⟨RX0, "enterInWindow", "(II)V"⟩
abbrev cX0_hasEnded : ByteArray := prog_2_method_10_code
def yX0_hasEnded : MethodName := ⟨RX0, "hasEnded", "()Z"⟩
abbrev cX0_part : ByteArray := prog_2_method_11_code
def yX0_part : MethodName := ⟨RX0, "part", "(I)I"⟩
def RX1 : String := "SessionSimulator$Inbox"
def TX1 : u_T := fun k => match k with
  | 0 => ("SessionSimulator$Inbox", "takenValues", "[I", true)
  | 1 => ("SessionSimulator$Inbox", "waits", "[Z", true)
  | 2 => ("SessionSimulator$Inbox", "waitingCloses", "[Z", true)
  | 3 => ("SessionSimulator$Inbox", "waitingValues", "[I", true)
  | 4 => ("SessionSimulator$Inbox", "takenCount", "I", false)
  | 5 => ("SessionSimulator$Inbox", "expected", "I", false)
  | _ => ("SessionSimulator$Inbox", "closeNumber", "I", false)
def tyX1 : Nat → FieldType := fun k => match k with
  | 0 => .array .int
  | 1 => .array .boolean
  | 2 => .array .boolean
  | 3 => .array .int
  | 4 => .int
  | 5 => .int
  | _ => .int
theorem nmX1 : ∀ a, a < 7 → ∀ b, b < 7 → a ≠ b → (TX1 a).2.1 ≠ (TX1 b).2.1 := by decide +kernel
theorem tyX1_ok : ∀ k, k < 7 → parseFieldDescriptor (TX1 k).2.2.1 = some (tyX1 k) := by decide +kernel
abbrev cX1_init : ByteArray := prog_3_method_1_code
def yX1_init : MethodName := ⟨RX1, "<init>", "()V"⟩
abbrev cX1_begin : ByteArray := prog_3_method_2_code
def yX1_begin : MethodName := ⟨RX1, "begin", "()V"⟩
abbrev cX1_copyFrom : ByteArray := prog_3_method_3_code
def yX1_copyFrom : MethodName := ⟨RX1, "copyFrom", "(LSessionSimulator$Inbox;)V"⟩
abbrev cX1_discardWaiting : ByteArray := prog_3_method_4_code
def yX1_discardWaiting : MethodName := ⟨RX1, "discardWaiting", "()V"⟩
abbrev cX1_waitingCount : ByteArray := prog_3_method_5_code
def yX1_waitingCount : MethodName := ⟨RX1, "waitingCount", "()I"⟩
abbrev cX1_isAfterClose : ByteArray := prog_3_method_6_code
def yX1_isAfterClose : MethodName := ⟨RX1, "isAfterClose", "(I)Z"⟩
abbrev cX1_take : ByteArray := prog_3_method_7_code
def yX1_take : MethodName := ⟨RX1, "take", "(IIZ)V"⟩
abbrev cX1_takeExpected : ByteArray := prog_3_method_8_code
def yX1_takeExpected : MethodName := ⟨RX1, "takeExpected", "(I)V"⟩
abbrev cX1_valueAt : ByteArray := prog_3_method_9_code
def yX1_valueAt : MethodName := ⟨RX1, "valueAt", "(I)I"⟩
def RX2 : String := "SessionSimulator$Log"
def TX2 : u_T := fun k => match k with
  | 0 => ("SessionSimulator$Log", "types", "[I", true)
  | 1 => ("SessionSimulator$Log", "firsts", "[I", true)
  | 2 => ("SessionSimulator$Log", "seconds", "[I", true)
  | 3 => ("SessionSimulator$Log", "size", "I", false)
  | _ => ("SessionSimulator$Log", "latest", "I", false)
def tyX2 : Nat → FieldType := fun k => match k with
  | 0 => .array .int
  | 1 => .array .int
  | 2 => .array .int
  | 3 => .int
  | _ => .int
theorem nmX2 : ∀ a, a < 5 → ∀ b, b < 5 → a ≠ b → (TX2 a).2.1 ≠ (TX2 b).2.1 := by decide +kernel
theorem tyX2_ok : ∀ k, k < 5 → parseFieldDescriptor (TX2 k).2.2.1 = some (tyX2 k) := by decide +kernel
abbrev cX2_init : ByteArray := prog_4_method_1_code
def yX2_init : MethodName := ⟨RX2, "<init>", "()V"⟩
abbrev cX2_add : ByteArray := prog_4_method_2_code
def yX2_add : MethodName := ⟨RX2, "add", "(III)V"⟩
abbrev cX2_copyFrom : ByteArray := prog_4_method_3_code
def yX2_copyFrom : MethodName := ⟨RX2, "copyFrom", "(LSessionSimulator$Log;)V"⟩
abbrev cX2_part : ByteArray := prog_4_method_4_code
def yX2_part : MethodName := ⟨RX2, "part", "(II)I"⟩
def RX3 : String := "SessionSimulator$Network"
def TX3 : u_T := fun k => match k with
  | 0 => ("SessionSimulator$Network", "packets", "[LSessionSimulator$Packet;", true)
  | _ => ("SessionSimulator$Network", "size", "I", false)
def tyX3 : Nat → FieldType := fun k => match k with
  | 0 => .array (.object "SessionSimulator$Packet")
  | _ => .int
theorem nmX3 : ∀ a, a < 2 → ∀ b, b < 2 → a ≠ b → (TX3 a).2.1 ≠ (TX3 b).2.1 := by decide +kernel
theorem tyX3_ok : ∀ k, k < 2 → parseFieldDescriptor (TX3 k).2.2.1 = some (tyX3 k) := by decide +kernel
abbrev cX3_init : ByteArray := prog_5_method_1_code
def yX3_init : MethodName := ⟨RX3, "<init>", "()V"⟩
abbrev cX3_isFull : ByteArray := prog_5_method_2_code
def yX3_isFull : MethodName := ⟨RX3, "isFull", "()Z"⟩
abbrev cX3_at : ByteArray := prog_5_method_3_code
def yX3_at : MethodName := ⟨RX3, "at", "(I)LSessionSimulator$Packet;"⟩
abbrev cX3_extend : ByteArray := prog_5_method_4_code
def yX3_extend : MethodName := ⟨RX3, "extend", "()LSessionSimulator$Packet;"⟩
abbrev cX3_remove : ByteArray := prog_5_method_5_code
def yX3_remove : MethodName := ⟨RX3, "remove", "(I)V"⟩
abbrev cX3_copyFrom : ByteArray := prog_5_method_6_code
def yX3_copyFrom : MethodName := ⟨RX3, "copyFrom", "(LSessionSimulator$Network;)V"⟩
def RX4 : String := "SessionSimulator$Outbox"
def TX4 : u_T := fun k => match k with
  | 0 => ("SessionSimulator$Outbox", "values", "[I", true)
  | 1 => ("SessionSimulator$Outbox", "sentTimes", "[I", true)
  | 2 => ("SessionSimulator$Outbox", "size", "I", false)
  | 3 => ("SessionSimulator$Outbox", "lowest", "I", false)
  | _ => ("SessionSimulator$Outbox", "closeNumber", "I", false)
def tyX4 : Nat → FieldType := fun k => match k with
  | 0 => .array .int
  | 1 => .array .int
  | 2 => .int
  | 3 => .int
  | _ => .int
theorem nmX4 : ∀ a, a < 5 → ∀ b, b < 5 → a ≠ b → (TX4 a).2.1 ≠ (TX4 b).2.1 := by decide +kernel
theorem tyX4_ok : ∀ k, k < 5 → parseFieldDescriptor (TX4 k).2.2.1 = some (tyX4 k) := by decide +kernel
abbrev cX4_init : ByteArray := prog_6_method_1_code
def yX4_init : MethodName := ⟨RX4, "<init>", "()V"⟩
abbrev cX4_begin : ByteArray := prog_6_method_2_code
def yX4_begin : MethodName := ⟨RX4, "begin", "()V"⟩
abbrev cX4_copyFrom : ByteArray := prog_6_method_3_code
def yX4_copyFrom : MethodName := ⟨RX4, "copyFrom", "(LSessionSimulator$Outbox;)V"⟩
abbrev cX4_isFull : ByteArray := prog_6_method_4_code
def yX4_isFull : MethodName := ⟨RX4, "isFull", "()Z"⟩
abbrev cX4_isClose : ByteArray := prog_6_method_5_code
def yX4_isClose : MethodName := ⟨RX4, "isClose", "(I)Z"⟩
abbrev cX4_isCloseAcknowledged : ByteArray := prog_6_method_6_code
def yX4_isCloseAcknowledged : MethodName := ⟨RX4, "isCloseAcknowledged", "()Z"⟩
abbrev cX4_add : ByteArray := prog_6_method_7_code
def yX4_add : MethodName := ⟨RX4, "add", "(IZ)I"⟩
abbrev cX4_acknowledge : ByteArray := prog_6_method_8_code
def yX4_acknowledge : MethodName := ⟨RX4, "acknowledge", "(I)V"⟩
abbrev cX4_forgetSent : ByteArray := prog_6_method_9_code
def yX4_forgetSent : MethodName := ⟨RX4, "forgetSent", "()V"⟩
abbrev cX4_forgetSentUntil : ByteArray := prog_6_method_10_code
def yX4_forgetSentUntil : MethodName := ⟨RX4, "forgetSentUntil", "(I)V"⟩
abbrev cX4_part : ByteArray := prog_6_method_11_code
def yX4_part : MethodName := ⟨RX4, "part", "(II)I"⟩
def RX5 : String := "SessionSimulator$Packet"
def TX5 : u_T := fun k => match k with
  | 0 => ("SessionSimulator$Packet", "sender", "I", false)
  | 1 => ("SessionSimulator$Packet", "kind", "I", false)
  | 2 => ("SessionSimulator$Packet", "session", "I", false)
  | 3 => ("SessionSimulator$Packet", "epoch", "I", false)
  | 4 => ("SessionSimulator$Packet", "sequence", "I", false)
  | 5 => ("SessionSimulator$Packet", "a", "I", false)
  | 6 => ("SessionSimulator$Packet", "b", "I", false)
  | 7 => ("SessionSimulator$Packet", "acknowledgement", "I", false)
  | _ => ("SessionSimulator$Packet", "tag", "I", false)
def tyX5 : Nat → FieldType := fun k => match k with
  | 0 => .int
  | 1 => .int
  | 2 => .int
  | 3 => .int
  | 4 => .int
  | 5 => .int
  | 6 => .int
  | 7 => .int
  | _ => .int
theorem nmX5 : ∀ a, a < 9 → ∀ b, b < 9 → a ≠ b → (TX5 a).2.1 ≠ (TX5 b).2.1 := by decide +kernel
theorem tyX5_ok : ∀ k, k < 9 → parseFieldDescriptor (TX5 k).2.2.1 = some (tyX5 k) := by decide +kernel
abbrev cX5_init : ByteArray := prog_7_method_1_code
def yX5_init : MethodName := ⟨RX5, "<init>", "()V"⟩
abbrev cX5_fill : ByteArray := prog_7_method_2_code
def yX5_fill : MethodName := ⟨RX5, "fill", "(IIIII)V"⟩
abbrev cX5_copyFrom : ByteArray := prog_7_method_3_code
def yX5_copyFrom : MethodName := ⟨RX5, "copyFrom", "(LSessionSimulator$Packet;)V"⟩
abbrev cX5_isProtected : ByteArray := prog_7_method_4_code
def yX5_isProtected : MethodName := ⟨RX5, "isProtected", "()Z"⟩
abbrev cX5_bringsMessage : ByteArray := prog_7_method_5_code
def yX5_bringsMessage : MethodName := ⟨RX5, "bringsMessage", "()Z"⟩
abbrev cX5_part : ByteArray := prog_7_method_6_code
def yX5_part : MethodName := ⟨RX5, "part", "(I)I"⟩
def RX6 : String := "SessionSimulator$Script"
def TX6 : u_T := fun k => match k with
  | 0 => ("SessionSimulator$Script", "text", "[I", true)
  | 1 => ("SessionSimulator$Script", "codes", "[I", true)
  | 2 => ("SessionSimulator$Script", "endpoints", "[I", true)
  | 3 => ("SessionSimulator$Script", "numbers", "[I", true)
  | 4 => ("SessionSimulator$Script", "length", "I", false)
  | 5 => ("SessionSimulator$Script", "actions", "I", false)
  | _ => ("SessionSimulator$Script", "cursor", "I", false)
def tyX6 : Nat → FieldType := fun k => match k with
  | 0 => .array .int
  | 1 => .array .int
  | 2 => .array .int
  | 3 => .array .int
  | 4 => .int
  | 5 => .int
  | _ => .int
theorem nmX6 : ∀ a, a < 7 → ∀ b, b < 7 → a ≠ b → (TX6 a).2.1 ≠ (TX6 b).2.1 := by decide +kernel
theorem tyX6_ok : ∀ k, k < 7 → parseFieldDescriptor (TX6 k).2.2.1 = some (tyX6 k) := by decide +kernel
abbrev cX6_init : ByteArray := prog_8_method_1_code
def yX6_init : MethodName := ⟨RX6, "<init>", "()V"⟩
abbrev cX6_extend : ByteArray := prog_8_method_2_code
def yX6_extend : MethodName := ⟨RX6, "extend", "(II)V"⟩
abbrev cX6_parse : ByteArray := prog_8_method_3_code
def yX6_parse : MethodName := ⟨RX6, "parse", "()Z"⟩
abbrev cX6_readAction : ByteArray := prog_8_method_4_code
def yX6_readAction : MethodName := ⟨RX6, "readAction", "()Z"⟩
abbrev cX6_readNumber : ByteArray := prog_8_method_5_code
def yX6_readNumber : MethodName := ⟨RX6, "readNumber", "()I"⟩
abbrev cX6_readDigit : ByteArray := prog_8_method_6_code
def yX6_readDigit : MethodName := ⟨RX6, "readDigit", "()I"⟩
abbrev cX6_isDigit : ByteArray := prog_8_method_7_code
def yX6_isDigit : MethodName := ⟨RX6, "isDigit", "()Z"⟩
abbrev cX6_here : ByteArray := prog_8_method_8_code
def yX6_here : MethodName := ⟨RX6, "here", "()I"⟩
abbrev cX6_addAction : ByteArray := prog_8_method_9_code
def yX6_addAction : MethodName := ⟨RX6, "addAction", "(III)V"⟩
def RX7 : String := "SessionSimulator$Tickets"
def TX7 : u_T := fun k => match k with
  | 0 => ("SessionSimulator$Tickets", "issueTimes", "[I", true)
  | 1 => ("SessionSimulator$Tickets", "used", "[Z", true)
  | _ => ("SessionSimulator$Tickets", "issued", "I", false)
def tyX7 : Nat → FieldType := fun k => match k with
  | 0 => .array .int
  | 1 => .array .boolean
  | _ => .int
theorem nmX7 : ∀ a, a < 3 → ∀ b, b < 3 → a ≠ b → (TX7 a).2.1 ≠ (TX7 b).2.1 := by decide +kernel
theorem tyX7_ok : ∀ k, k < 3 → parseFieldDescriptor (TX7 k).2.2.1 = some (tyX7 k) := by decide +kernel
abbrev cX7_init : ByteArray := prog_9_method_1_code
def yX7_init : MethodName := ⟨RX7, "<init>", "()V"⟩
abbrev cX7_copyFrom : ByteArray := prog_9_method_2_code
def yX7_copyFrom : MethodName := ⟨RX7, "copyFrom", "(LSessionSimulator$Tickets;)V"⟩
abbrev cX7_isIssued : ByteArray := prog_9_method_3_code
def yX7_isIssued : MethodName := ⟨RX7, "isIssued", "(I)Z"⟩
abbrev cX7_isValid : ByteArray := prog_9_method_4_code
def yX7_isValid : MethodName := ⟨RX7, "isValid", "(III)Z"⟩
abbrev cX7_issue : ByteArray := prog_9_method_5_code
def yX7_issue : MethodName := ⟨RX7, "issue", "(I)I"⟩
abbrev cX7_use : ByteArray := prog_9_method_6_code
def yX7_use : MethodName := ⟨RX7, "use", "(I)V"⟩
def RX8 : String := "SessionSimulator$Window"
def TX8 : u_T := fun k => match k with
  | 0 => ("SessionSimulator$Window", "highest", "I", false)
  | _ => ("SessionSimulator$Window", "set", "I", false)
def tyX8 : Nat → FieldType := fun k => match k with
  | 0 => .int
  | _ => .int
theorem nmX8 : ∀ a, a < 2 → ∀ b, b < 2 → a ≠ b → (TX8 a).2.1 ≠ (TX8 b).2.1 := by decide +kernel
theorem tyX8_ok : ∀ k, k < 2 → parseFieldDescriptor (TX8 k).2.2.1 = some (tyX8 k) := by decide +kernel
abbrev cX8_init : ByteArray := prog_10_method_1_code
def yX8_init : MethodName := ⟨RX8, "<init>", "()V"⟩
abbrev cX8_clear : ByteArray := prog_10_method_2_code
def yX8_clear : MethodName := ⟨RX8, "clear", "()V"⟩
abbrev cX8_copyFrom : ByteArray := prog_10_method_3_code
def yX8_copyFrom : MethodName := ⟨RX8, "copyFrom", "(LSessionSimulator$Window;)V"⟩
abbrev cX8_isBehind : ByteArray := prog_10_method_4_code
def yX8_isBehind : MethodName := ⟨RX8, "isBehind", "(I)Z"⟩
abbrev cX8_holds : ByteArray := prog_10_method_5_code
def yX8_holds : MethodName := ⟨RX8, "holds", "(I)Z"⟩
abbrev cX8_enter : ByteArray := prog_10_method_6_code
def yX8_enter : MethodName := ⟨RX8, "enter", "(I)V"⟩
abbrev cX8_asNumber : ByteArray := prog_10_method_7_code
def yX8_asNumber : MethodName := ⟨RX8, "asNumber", "()I"⟩
def RX9 : String := "SessionSimulator$World"
def TX9 : u_T := fun k => match k with
  | 0 => ("SessionSimulator$World", "first", "LSessionSimulator$Endpoint;", true)
  | 1 => ("SessionSimulator$World", "second", "LSessionSimulator$Endpoint;", true)
  | 2 => ("SessionSimulator$World", "network", "LSessionSimulator$Network;", true)
  | 3 => ("SessionSimulator$World", "tickets", "LSessionSimulator$Tickets;", true)
  | 4 => ("SessionSimulator$World", "log", "LSessionSimulator$Log;", true)
  | 5 => ("SessionSimulator$World", "keyLimit", "I", false)
  | 6 => ("SessionSimulator$World", "timeout", "I", false)
  | 7 => ("SessionSimulator$World", "life", "I", false)
  | 8 => ("SessionSimulator$World", "time", "I", false)
  | 9 => ("SessionSimulator$World", "sessionNumber", "I", false)
  | 10 => ("SessionSimulator$World", "sentCount", "I", false)
  | 11 => ("SessionSimulator$World", "deliveredCount", "I", false)
  | 12 => ("SessionSimulator$World", "droppedCount", "I", false)
  | _ => ("SessionSimulator$World", "repeatedCount", "I", false)
def tyX9 : Nat → FieldType := fun k => match k with
  | 0 => .object "SessionSimulator$Endpoint"
  | 1 => .object "SessionSimulator$Endpoint"
  | 2 => .object "SessionSimulator$Network"
  | 3 => .object "SessionSimulator$Tickets"
  | 4 => .object "SessionSimulator$Log"
  | 5 => .int
  | 6 => .int
  | 7 => .int
  | 8 => .int
  | 9 => .int
  | 10 => .int
  | 11 => .int
  | 12 => .int
  | _ => .int
theorem nmX9 : ∀ a, a < 14 → ∀ b, b < 14 → a ≠ b → (TX9 a).2.1 ≠ (TX9 b).2.1 := by decide +kernel
theorem tyX9_ok : ∀ k, k < 14 → parseFieldDescriptor (TX9 k).2.2.1 = some (tyX9 k) := by decide +kernel
abbrev cX9_init : ByteArray := prog_11_method_1_code
def yX9_init : MethodName := ⟨RX9, "<init>", "()V"⟩
abbrev cX9_copyFrom : ByteArray := prog_11_method_2_code
def yX9_copyFrom : MethodName := ⟨RX9, "copyFrom", "(LSessionSimulator$World;)V"⟩
def RX10 : String := "SessionSimulator"
def TX10 : u_T := fun k => match k with
  | 0 => ("SessionSimulator", "world", "LSessionSimulator$World;", true)
  | 1 => ("SessionSimulator", "snapshot", "LSessionSimulator$World;", true)
  | 2 => ("SessionSimulator", "script", "LSessionSimulator$Script;", true)
  | 3 => ("SessionSimulator", "arrived", "LSessionSimulator$Packet;", true)
  | _ => ("SessionSimulator", "hasSnapshot", "Z", false)
def tyX10 : Nat → FieldType := fun k => match k with
  | 0 => .object "SessionSimulator$World"
  | 1 => .object "SessionSimulator$World"
  | 2 => .object "SessionSimulator$Script"
  | 3 => .object "SessionSimulator$Packet"
  | _ => .boolean
theorem nmX10 : ∀ a, a < 5 → ∀ b, b < 5 → a ≠ b → (TX10 a).2.1 ≠ (TX10 b).2.1 := by decide +kernel
theorem tyX10_ok : ∀ k, k < 5 → parseFieldDescriptor (TX10 k).2.2.1 = some (tyX10 k) := by decide +kernel
abbrev cX10_init : ByteArray := prog_1_method_1_code
def yX10_init : MethodName := ⟨RX10, "<init>", "()V"⟩
abbrev cX10_configure : ByteArray := prog_1_method_2_code
def yX10_configure : MethodName := ⟨RX10, "configure", "(III)I"⟩
abbrev cX10_connect : ByteArray := prog_1_method_3_code
def yX10_connect : MethodName := ⟨RX10, "connect", "(I)I"⟩
abbrev cX10_resume : ByteArray := prog_1_method_4_code
def yX10_resume : MethodName := ⟨RX10, "resume", "(I)I"⟩
abbrev cX10_disconnect : ByteArray := prog_1_method_5_code
def yX10_disconnect : MethodName := ⟨RX10, "disconnect", "()I"⟩
abbrev cX10_send : ByteArray := prog_1_method_6_code
def yX10_send : MethodName := ⟨RX10, "send", "(II)I"⟩
abbrev cX10_close : ByteArray := prog_1_method_7_code
def yX10_close : MethodName := ⟨RX10, "close", "(I)I"⟩
abbrev cX10_deliver : ByteArray := prog_1_method_8_code
def yX10_deliver : MethodName := ⟨RX10, "deliver", "(I)I"⟩
abbrev cX10_foresee : ByteArray := prog_1_method_9_code
def yX10_foresee : MethodName := ⟨RX10, "foresee", "(I)I"⟩
abbrev cX10_drop : ByteArray := prog_1_method_10_code
def yX10_drop : MethodName := ⟨RX10, "drop", "(I)I"⟩
abbrev cX10_repeat : ByteArray := prog_1_method_11_code
def yX10_repeat : MethodName := ⟨RX10, "repeat", "(I)I"⟩
abbrev cX10_alter : ByteArray := prog_1_method_12_code
def yX10_alter : MethodName := ⟨RX10, "alter", "(II)I"⟩
abbrev cX10_tick : ByteArray := prog_1_method_13_code
def yX10_tick : MethodName := ⟨RX10, "tick", "(I)I"⟩
abbrev cX10_packet : ByteArray := prog_1_method_14_code
def yX10_packet : MethodName := ⟨RX10, "packet", "(II)I"⟩
abbrev cX10_endpoint : ByteArray := prog_1_method_15_code
def yX10_endpoint : MethodName := ⟨RX10, "endpoint", "(II)I"⟩
abbrev cX10_window : ByteArray := prog_1_method_16_code
def yX10_window : MethodName := ⟨RX10, "window", "(II)I"⟩
abbrev cX10_taken : ByteArray := prog_1_method_17_code
def yX10_taken : MethodName := ⟨RX10, "taken", "(II)I"⟩
abbrev cX10_kept : ByteArray := prog_1_method_18_code
def yX10_kept : MethodName := ⟨RX10, "kept", "(III)I"⟩
abbrev cX10_results : ByteArray := prog_1_method_19_code
def yX10_results : MethodName := ⟨RX10, "results", "(II)I"⟩
abbrev cX10_count : ByteArray := prog_1_method_20_code
def yX10_count : MethodName := ⟨RX10, "count", "(I)I"⟩
abbrev cX10_event : ByteArray := prog_1_method_21_code
def yX10_event : MethodName := ⟨RX10, "event", "(II)I"⟩
abbrev cX10_agree : ByteArray := prog_1_method_22_code
def yX10_agree : MethodName := ⟨RX10, "agree", "()I"⟩
abbrev cX10_append : ByteArray := prog_1_method_23_code
def yX10_append : MethodName := ⟨RX10, "append", "(II)I"⟩
abbrev cX10_runScript : ByteArray := prog_1_method_24_code
def yX10_runScript : MethodName := ⟨RX10, "runScript", "()I"⟩
abbrev cX10_save : ByteArray := prog_1_method_25_code
def yX10_save : MethodName := ⟨RX10, "save", "()I"⟩
abbrev cX10_restore : ByteArray := prog_1_method_26_code
def yX10_restore : MethodName := ⟨RX10, "restore", "()I"⟩
abbrev cX10_isEndpoint : ByteArray := prog_1_method_27_code
def yX10_isEndpoint : MethodName := ⟨RX10, "isEndpoint", "(I)Z"⟩
abbrev cX10_isError : ByteArray := prog_1_method_28_code
def yX10_isError : MethodName := ⟨RX10, "isError", "(I)Z"⟩
abbrev cX10_mix : ByteArray := prog_1_method_29_code
def yX10_mix : MethodName := ⟨RX10, "mix", "(II)I"⟩
abbrev cX10_baseOf : ByteArray := prog_1_method_30_code
def yX10_baseOf : MethodName := ⟨RX10, "baseOf", "(III)I"⟩
abbrev cX10_tagOf : ByteArray := prog_1_method_31_code
def yX10_tagOf : MethodName := ⟨RX10, "tagOf", "(LSessionSimulator$Packet;I)I"⟩
abbrev cX10_endpointOf : ByteArray := prog_1_method_32_code
def yX10_endpointOf : MethodName := ⟨RX10, "endpointOf", "(I)LSessionSimulator$Endpoint;"⟩
abbrev cX10_changeState : ByteArray := prog_1_method_33_code
def yX10_changeState : MethodName := ⟨RX10, "changeState", "(LSessionSimulator$Endpoint;I)V"⟩
abbrev cX10_beginSession : ByteArray := prog_1_method_34_code
def yX10_beginSession : MethodName := ⟨RX10, "beginSession", "(II)V"⟩
abbrev cX10_breakOff : ByteArray := prog_1_method_35_code
def yX10_breakOff : MethodName := ⟨RX10, "breakOff", "(LSessionSimulator$Endpoint;)V"⟩
abbrev cX10_addMessage : ByteArray := prog_1_method_36_code
def yX10_addMessage : MethodName := ⟨RX10, "addMessage", "(LSessionSimulator$Endpoint;IZ)I"⟩
abbrev cX10_sendHello : ByteArray := prog_1_method_37_code
def yX10_sendHello : MethodName := ⟨RX10, "sendHello", "()V"⟩
abbrev cX10_sendPlain : ByteArray := prog_1_method_38_code
def yX10_sendPlain : MethodName := ⟨RX10, "sendPlain", "(LSessionSimulator$Endpoint;IIII)Z"⟩
abbrev cX10_sendProtected : ByteArray := prog_1_method_39_code
def yX10_sendProtected : MethodName := ⟨RX10, "sendProtected", "(LSessionSimulator$Endpoint;III)Z"⟩
abbrev cX10_noteSent : ByteArray := prog_1_method_40_code
def yX10_noteSent : MethodName := ⟨RX10, "noteSent", "(LSessionSimulator$Packet;)V"⟩
abbrev cX10_sendDue : ByteArray := prog_1_method_41_code
def yX10_sendDue : MethodName := ⟨RX10, "sendDue", "(LSessionSimulator$Endpoint;)V"⟩
abbrev cX10_repeatHello : ByteArray := prog_1_method_42_code
def yX10_repeatHello : MethodName := ⟨RX10, "repeatHello", "()V"⟩
abbrev cX10_resendLateMessages : ByteArray := prog_1_method_43_code
def yX10_resendLateMessages : MethodName := ⟨RX10, "resendLateMessages", "(LSessionSimulator$Endpoint;)V"⟩
abbrev cX10_resultOf : ByteArray := prog_1_method_44_code
def yX10_resultOf : MethodName := ⟨RX10, "resultOf", "(LSessionSimulator$Packet;LSessionSimulator$Endpoint;)I"⟩
abbrev cX10_isRefused : ByteArray := prog_1_method_45_code
def yX10_isRefused : MethodName := ⟨RX10, "isRefused", "(I)Z"⟩
abbrev cX10_protectedResultOf : ByteArray := prog_1_method_46_code
def yX10_protectedResultOf : MethodName := ⟨RX10, "protectedResultOf", "(LSessionSimulator$Packet;LSessionSimulator$Endpoint;)I"⟩
abbrev cX10_acceptPlain : ByteArray := prog_1_method_47_code
def yX10_acceptPlain : MethodName := ⟨RX10, "acceptPlain", "(LSessionSimulator$Endpoint;LSessionSimulator$Packet;)V"⟩
abbrev cX10_acceptHello : ByteArray := prog_1_method_48_code
def yX10_acceptHello : MethodName := ⟨RX10, "acceptHello", "(LSessionSimulator$Endpoint;LSessionSimulator$Packet;)V"⟩
abbrev cX10_acceptReply : ByteArray := prog_1_method_49_code
def yX10_acceptReply : MethodName := ⟨RX10, "acceptReply", "(LSessionSimulator$Endpoint;LSessionSimulator$Packet;)V"⟩
abbrev cX10_acceptProtected : ByteArray := prog_1_method_50_code
def yX10_acceptProtected : MethodName := ⟨RX10, "acceptProtected", "(LSessionSimulator$Endpoint;LSessionSimulator$Packet;)V"⟩
abbrev cX10_issueTicket : ByteArray := prog_1_method_51_code
def yX10_issueTicket : MethodName := ⟨RX10, "issueTicket", "(LSessionSimulator$Endpoint;)V"⟩
def RX11 : String := "SessionSimulatorModel"
def TX11 : u_T := fun k => match k with
  | 0 => ("SessionSimulatorModel", "keyLimit", "I", false)
  | 1 => ("SessionSimulatorModel", "timeout", "I", false)
  | 2 => ("SessionSimulatorModel", "life", "I", false)
  | 3 => ("SessionSimulatorModel", "sessions", "I", false)
  | 4 => ("SessionSimulatorModel", "time", "I", false)
  | 5 => ("SessionSimulatorModel", "sent", "I", false)
  | 6 => ("SessionSimulatorModel", "delivered", "I", false)
  | 7 => ("SessionSimulatorModel", "dropped", "I", false)
  | 8 => ("SessionSimulatorModel", "repeated", "I", false)
  | 9 => ("SessionSimulatorModel", "state", "[I", true)
  | 10 => ("SessionSimulatorModel", "session", "[I", true)
  | 11 => ("SessionSimulatorModel", "nonce", "[I", true)
  | 12 => ("SessionSimulatorModel", "base", "[I", true)
  | 13 => ("SessionSimulatorModel", "sendEpoch", "[I", true)
  | 14 => ("SessionSimulatorModel", "sequence", "[I", true)
  | 15 => ("SessionSimulatorModel", "epoch", "[I", true)
  | 16 => ("SessionSimulatorModel", "highest", "[I", true)
  | 17 => ("SessionSimulatorModel", "accepted", "[I", true)
  | 18 => ("SessionSimulatorModel", "oldHighest", "[I", true)
  | 19 => ("SessionSimulatorModel", "oldAccepted", "[I", true)
  | 20 => ("SessionSimulatorModel", "oldLeft", "[I", true)
  | 21 => ("SessionSimulatorModel", "expected", "[I", true)
  | 22 => ("SessionSimulatorModel", "nextNumber", "[I", true)
  | 23 => ("SessionSimulatorModel", "closeNumber", "[I", true)
  | 24 => ("SessionSimulatorModel", "closeTaken", "[I", true)
  | 25 => ("SessionSimulatorModel", "takenMany", "[I", true)
  | 26 => ("SessionSimulatorModel", "keptMany", "[I", true)
  | 27 => ("SessionSimulatorModel", "taken", "[I", true)
  | 28 => ("SessionSimulatorModel", "keptNumber", "[I", true)
  | 29 => ("SessionSimulatorModel", "keptValue", "[I", true)
  | 30 => ("SessionSimulatorModel", "keptClose", "[I", true)
  | 31 => ("SessionSimulatorModel", "keptTime", "[I", true)
  | 32 => ("SessionSimulatorModel", "waits", "[I", true)
  | 33 => ("SessionSimulatorModel", "waitValue", "[I", true)
  | 34 => ("SessionSimulatorModel", "waitClose", "[I", true)
  | 35 => ("SessionSimulatorModel", "ticket", "I", false)
  | 36 => ("SessionSimulatorModel", "helloTicket", "I", false)
  | 37 => ("SessionSimulatorModel", "helloTime", "I", false)
  | 38 => ("SessionSimulatorModel", "issued", "I", false)
  | 39 => ("SessionSimulatorModel", "issuedAt", "[I", true)
  | 40 => ("SessionSimulatorModel", "used", "[I", true)
  | 41 => ("SessionSimulatorModel", "log", "[I", true)
  | 42 => ("SessionSimulatorModel", "events", "I", false)
  | 43 => ("SessionSimulatorModel", "network", "[I", true)
  | 44 => ("SessionSimulatorModel", "packet", "[I", true)
  | 45 => ("SessionSimulatorModel", "packets", "I", false)
  | 46 => ("SessionSimulatorModel", "results", "[I", true)
  | 47 => ("SessionSimulatorModel", "text", "[I", true)
  | 48 => ("SessionSimulatorModel", "sign", "[I", true)
  | 49 => ("SessionSimulatorModel", "number", "[I", true)
  | 50 => ("SessionSimulatorModel", "whose", "[I", true)
  | 51 => ("SessionSimulatorModel", "length", "I", false)
  | 52 => ("SessionSimulatorModel", "reading", "I", false)
  | 53 => ("SessionSimulatorModel", "actions", "I", false)
  | 54 => ("SessionSimulatorModel", "saved", "[I", true)
  | 55 => ("SessionSimulatorModel", "isSaved", "Z", false)
  | 56 => ("SessionSimulatorModel", "isKeeping", "Z", false)
  | _ => ("SessionSimulatorModel", "cursor", "I", false)
def tyX11 : Nat → FieldType := fun k => match k with
  | 0 => .int
  | 1 => .int
  | 2 => .int
  | 3 => .int
  | 4 => .int
  | 5 => .int
  | 6 => .int
  | 7 => .int
  | 8 => .int
  | 9 => .array .int
  | 10 => .array .int
  | 11 => .array .int
  | 12 => .array .int
  | 13 => .array .int
  | 14 => .array .int
  | 15 => .array .int
  | 16 => .array .int
  | 17 => .array .int
  | 18 => .array .int
  | 19 => .array .int
  | 20 => .array .int
  | 21 => .array .int
  | 22 => .array .int
  | 23 => .array .int
  | 24 => .array .int
  | 25 => .array .int
  | 26 => .array .int
  | 27 => .array .int
  | 28 => .array .int
  | 29 => .array .int
  | 30 => .array .int
  | 31 => .array .int
  | 32 => .array .int
  | 33 => .array .int
  | 34 => .array .int
  | 35 => .int
  | 36 => .int
  | 37 => .int
  | 38 => .int
  | 39 => .array .int
  | 40 => .array .int
  | 41 => .array .int
  | 42 => .int
  | 43 => .array .int
  | 44 => .array .int
  | 45 => .int
  | 46 => .array .int
  | 47 => .array .int
  | 48 => .array .int
  | 49 => .array .int
  | 50 => .array .int
  | 51 => .int
  | 52 => .int
  | 53 => .int
  | 54 => .array .int
  | 55 => .boolean
  | 56 => .boolean
  | _ => .int
theorem nmX11 : ∀ a, a < 58 → ∀ b, b < 58 → a ≠ b → (TX11 a).2.1 ≠ (TX11 b).2.1 := by decide +kernel
theorem tyX11_ok : ∀ k, k < 58 → parseFieldDescriptor (TX11 k).2.2.1 = some (tyX11 k) := by decide +kernel
abbrev cX11_init : ByteArray := prog_13_method_1_code
def yX11_init : MethodName := ⟨RX11, "<init>", "()V"⟩
abbrev cX11_isBetween : ByteArray := prog_13_method_2_code
def yX11_isBetween : MethodName := ⟨RX11, "isBetween", "(III)Z"⟩
abbrev cX11_mix : ByteArray := prog_13_method_3_code
def yX11_mix : MethodName := ⟨RX11, "mix", "(II)I"⟩
abbrev cX11_configure : ByteArray := prog_13_method_4_code
def yX11_configure : MethodName := ⟨RX11, "configure", "(III)I"⟩
abbrev cX11_isEndpoint : ByteArray := prog_13_method_5_code
def yX11_isEndpoint : MethodName := ⟨RX11, "isEndpoint", "(I)Z"⟩
abbrev cX11_becomes : ByteArray := prog_13_method_6_code
def yX11_becomes : MethodName := ⟨RX11, "becomes", "(II)V"⟩
abbrev cX11_clearsWaiting : ByteArray := prog_13_method_7_code
def yX11_clearsWaiting : MethodName := ⟨RX11, "clearsWaiting", "(I)V"⟩
abbrev cX11_beginsStream : ByteArray := prog_13_method_8_code
def yX11_beginsStream : MethodName := ⟨RX11, "beginsStream", "(I)V"⟩
abbrev cX11_beginsWindows : ByteArray := prog_13_method_9_code
def yX11_beginsWindows : MethodName := ⟨RX11, "beginsWindows", "(I)V"⟩
abbrev cX11_logs : ByteArray := prog_13_method_10_code
def yX11_logs : MethodName := ⟨RX11, "logs", "(III)V"⟩
abbrev cX11_at : ByteArray := prog_13_method_11_code
def yX11_at : MethodName := ⟨RX11, "at", "(II)I"⟩
abbrev cX11_isPacket : ByteArray := prog_13_method_12_code
def yX11_isPacket : MethodName := ⟨RX11, "isPacket", "(I)Z"⟩
abbrev cX11_hasRoom : ByteArray := prog_13_method_13_code
def yX11_hasRoom : MethodName := ⟨RX11, "hasRoom", "()Z"⟩
abbrev cX11_appends : ByteArray := prog_13_method_14_code
def yX11_appends : MethodName := ⟨RX11, "appends", "(IIIIIIIII)V"⟩
abbrev cX11_sendsPlain : ByteArray := prog_13_method_15_code
def yX11_sendsPlain : MethodName := ⟨RX11, "sendsPlain", "(IIIII)Z"⟩
abbrev cX11_tagOf : ByteArray := prog_13_method_16_code
def yX11_tagOf : MethodName := ⟨RX11, "tagOf", "(IIIIIIII)I"⟩
abbrev cX11_sendsProtected : ByteArray := prog_13_method_17_code
def yX11_sendsProtected : MethodName := ⟨RX11, "sendsProtected", "(IIII)Z"⟩
abbrev cX11_sendsDue : ByteArray := prog_13_method_18_code
def yX11_sendsDue : MethodName := ⟨RX11, "sendsDue", "(I)V"⟩
abbrev cX11_greets : ByteArray := prog_13_method_19_code
def yX11_greets : MethodName := ⟨RX11, "greets", "(II)V"⟩
abbrev cX11_connect : ByteArray := prog_13_method_20_code
def yX11_connect : MethodName := ⟨RX11, "connect", "(I)I"⟩
abbrev cX11_resume : ByteArray := prog_13_method_21_code
def yX11_resume : MethodName := ⟨RX11, "resume", "(I)I"⟩
abbrev cX11_disconnect : ByteArray := prog_13_method_22_code
def yX11_disconnect : MethodName := ⟨RX11, "disconnect", "()I"⟩
abbrev cX11_notSending : ByteArray := prog_13_method_23_code
def yX11_notSending : MethodName := ⟨RX11, "notSending", "(I)I"⟩
abbrev cX11_comes : ByteArray := prog_13_method_24_code
def yX11_comes : MethodName := ⟨RX11, "comes", "(IIZ)I"⟩
abbrev cX11_send : ByteArray := prog_13_method_25_code
def yX11_send : MethodName := ⟨RX11, "send", "(II)I"⟩
abbrev cX11_close : ByteArray := prog_13_method_26_code
def yX11_close : MethodName := ⟨RX11, "close", "(I)I"⟩
abbrev cX11_takesKind : ByteArray := prog_13_method_27_code
def yX11_takesKind : MethodName := ⟨RX11, "takesKind", "(II)Z"⟩
abbrev cX11_isTicket : ByteArray := prog_13_method_28_code
def yX11_isTicket : MethodName := ⟨RX11, "isTicket", "(I)Z"⟩
abbrev cX11_hasOld : ByteArray := prog_13_method_29_code
def yX11_hasOld : MethodName := ⟨RX11, "hasOld", "(I)Z"⟩
abbrev cX11_isOwnEpoch : ByteArray := prog_13_method_30_code
def yX11_isOwnEpoch : MethodName := ⟨RX11, "isOwnEpoch", "(II)Z"⟩
abbrev cX11_resultOf : ByteArray := prog_13_method_31_code
def yX11_resultOf : MethodName := ⟨RX11, "resultOf", "(I)I"⟩
abbrev cX11_protectedResult : ByteArray := prog_13_method_32_code
def yX11_protectedResult : MethodName := ⟨RX11, "protectedResult", "(III)I"⟩
abbrev cX11_setWith : ByteArray := prog_13_method_33_code
def yX11_setWith : MethodName := ⟨RX11, "setWith", "(III)I"⟩
abbrev cX11_enters : ByteArray := prog_13_method_34_code
def yX11_enters : MethodName := ⟨RX11, "enters", "(III)V"⟩
abbrev cX11_acknowledges : ByteArray := prog_13_method_35_code
def yX11_acknowledges : MethodName := ⟨RX11, "acknowledges", "(II)V"⟩
abbrev cX11_takesExpected : ByteArray := prog_13_method_36_code
def yX11_takesExpected : MethodName := ⟨RX11, "takesExpected", "(IIIZ)V"⟩
abbrev cX11_takes : ByteArray := prog_13_method_37_code
def yX11_takes : MethodName := ⟨RX11, "takes", "(IIIZ)V"⟩
abbrev cX11_answersHello : ByteArray := prog_13_method_38_code
def yX11_answersHello : MethodName := ⟨RX11, "answersHello", "()V"⟩
abbrev cX11_hasReply : ByteArray := prog_13_method_39_code
def yX11_hasReply : MethodName := ⟨RX11, "hasReply", "()V"⟩
abbrev cX11_issues : ByteArray := prog_13_method_40_code
def yX11_issues : MethodName := ⟨RX11, "issues", "()V"⟩
abbrev cX11_hasProtected : ByteArray := prog_13_method_41_code
def yX11_hasProtected : MethodName := ⟨RX11, "hasProtected", "(I)V"⟩
abbrev cX11_removes : ByteArray := prog_13_method_42_code
def yX11_removes : MethodName := ⟨RX11, "removes", "(I)V"⟩
abbrev cX11_deliver : ByteArray := prog_13_method_43_code
def yX11_deliver : MethodName := ⟨RX11, "deliver", "(I)I"⟩
abbrev cX11_foresee : ByteArray := prog_13_method_44_code
def yX11_foresee : MethodName := ⟨RX11, "foresee", "(I)I"⟩
abbrev cX11_drop : ByteArray := prog_13_method_45_code
def yX11_drop : MethodName := ⟨RX11, "drop", "(I)I"⟩
abbrev cX11_repeat : ByteArray := prog_13_method_46_code
def yX11_repeat : MethodName := ⟨RX11, "repeat", "(I)I"⟩
abbrev cX11_alter : ByteArray := prog_13_method_47_code
def yX11_alter : MethodName := ⟨RX11, "alter", "(II)I"⟩
abbrev cX11_ticks : ByteArray := prog_13_method_48_code
def yX11_ticks : MethodName := ⟨RX11, "ticks", "()V"⟩
abbrev cX11_tick : ByteArray := prog_13_method_49_code
def yX11_tick : MethodName := ⟨RX11, "tick", "(I)I"⟩
abbrev cX11_packet : ByteArray := prog_13_method_50_code
def yX11_packet : MethodName := ⟨RX11, "packet", "(II)I"⟩
abbrev cX11_waiting : ByteArray := prog_13_method_51_code
def yX11_waiting : MethodName := ⟨RX11, "waiting", "(I)I"⟩
abbrev cX11_endpoint : ByteArray := prog_13_method_52_code
def yX11_endpoint : MethodName := ⟨RX11, "endpoint", "(II)I"⟩
abbrev cX11_window : ByteArray := prog_13_method_53_code
def yX11_window : MethodName := ⟨RX11, "window", "(II)I"⟩
abbrev cX11_taken : ByteArray := prog_13_method_54_code
def yX11_taken : MethodName := ⟨RX11, "taken", "(II)I"⟩
abbrev cX11_kept : ByteArray := prog_13_method_55_code
def yX11_kept : MethodName := ⟨RX11, "kept", "(III)I"⟩
abbrev cX11_results : ByteArray := prog_13_method_56_code
def yX11_results : MethodName := ⟨RX11, "results", "(II)I"⟩
abbrev cX11_count : ByteArray := prog_13_method_57_code
def yX11_count : MethodName := ⟨RX11, "count", "(I)I"⟩
abbrev cX11_event : ByteArray := prog_13_method_58_code
def yX11_event : MethodName := ⟨RX11, "event", "(II)I"⟩
abbrev cX11_agree : ByteArray := prog_13_method_59_code
def yX11_agree : MethodName := ⟨RX11, "agree", "()I"⟩
abbrev cX11_append : ByteArray := prog_13_method_60_code
def yX11_append : MethodName := ⟨RX11, "append", "(II)I"⟩
abbrev cX11_isDigit : ByteArray := prog_13_method_61_code
def yX11_isDigit : MethodName := ⟨RX11, "isDigit", "()Z"⟩
abbrev cX11_takesNumber : ByteArray := prog_13_method_62_code
def yX11_takesNumber : MethodName := ⟨RX11, "takesNumber", "()Z"⟩
abbrev cX11_takesAction : ByteArray := prog_13_method_63_code
def yX11_takesAction : MethodName := ⟨RX11, "takesAction", "()Z"⟩
abbrev cX11_takesScript : ByteArray := prog_13_method_64_code
def yX11_takesScript : MethodName := ⟨RX11, "takesScript", "()Z"⟩
abbrev cX11_isError : ByteArray := prog_13_method_65_code
def yX11_isError : MethodName := ⟨RX11, "isError", "(I)Z"⟩
abbrev cX11_does : ByteArray := prog_13_method_66_code
def yX11_does : MethodName := ⟨RX11, "does", "(I)I"⟩
abbrev cX11_runScript : ByteArray := prog_13_method_67_code
def yX11_runScript : MethodName := ⟨RX11, "runScript", "()I"⟩
abbrev cX11_hands : ByteArray := prog_13_method_68_code
def yX11_hands : MethodName := ⟨RX11, "hands", "([I)V"⟩
abbrev cX11_hand : ByteArray := prog_13_method_69_code
def yX11_hand : MethodName := ⟨RX11, "hand", "(I)I"⟩
abbrev cX11_handsEndpoints : ByteArray := prog_13_method_70_code
def yX11_handsEndpoints : MethodName := ⟨RX11, "handsEndpoints", "()V"⟩
abbrev cX11_handsAll : ByteArray := prog_13_method_71_code
def yX11_handsAll : MethodName := ⟨RX11, "handsAll", "(Z)V"⟩
abbrev cX11_save : ByteArray := prog_13_method_72_code
def yX11_save : MethodName := ⟨RX11, "save", "()I"⟩
abbrev cX11_restore : ByteArray := prog_13_method_73_code
def yX11_restore : MethodName := ⟨RX11, "restore", "()I"⟩
def RJ9 : String := "java/lang/Math"
def TJ9 : u_T := fun k => match k with
  | _ => ("", "", "", false)
def tyJ9 : Nat → FieldType := fun k => match k with
  | _ => .int
theorem nmJ9 : ∀ a, a < 0 → ∀ b, b < 0 → a ≠ b → (TJ9 a).2.1 ≠ (TJ9 b).2.1 := by decide +kernel
theorem tyJ9_ok : ∀ k, k < 0 → parseFieldDescriptor (TJ9 k).2.2.1 = some (tyJ9 k) := by decide +kernel
abbrev cJ9_floorMod_7cf53 : ByteArray := prog_14_method_50_code
def yJ9_floorMod_7cf53 : MethodName := ⟨RJ9, "floorMod", "(II)I"⟩
abbrev cJ9_min_7cf53 : ByteArray := prog_14_method_69_code
def yJ9_min_7cf53 : MethodName := ⟨RJ9, "min", "(II)I"⟩
def RJ10 : String := "java/lang/System"
def TJ10 : u_T := fun k => match k with
  | _ => ("", "", "", false)
def tyJ10 : Nat → FieldType := fun k => match k with
  | _ => .int
theorem nmJ10 : ∀ a, a < 0 → ∀ b, b < 0 → a ≠ b → (TJ10 a).2.1 ≠ (TJ10 b).2.1 := by decide +kernel
theorem tyJ10_ok : ∀ k, k < 0 → parseFieldDescriptor (TJ10 k).2.2.1 = some (tyJ10 k) := by decide +kernel
def RL : String := "SessionSimulatorLaw"
abbrev cL_law : ByteArray := code
def yL_law : MethodName := ⟨RL, "law", "([I)Z"⟩
abbrev vwCl : List vw_C := [(RX0, TX0, 18), (RX1, TX1, 7), (RX2, TX2, 5), (RX3, TX3, 2), (RX4, TX4, 5), (RX5, TX5, 9), (RX6, TX6, 7), (RX7, TX7, 3), (RX8, TX8, 2), (RX9, TX9, 14), (RX10, TX10, 5), (RX11, TX11, 58)]
end
section
/-! THE WORDS that every method of the system may use: all good words of the tables -/
def gm_TB : List Cond := lw_tbl.filter goodWord
theorem gm_tb {w : Cond} (h : w ∈ lw_tbl) (hg : goodWord w = true) : w ∈ gm_TB := List.mem_filter.mpr ⟨h, hg⟩
theorem gm_tb_in {w : Cond} (h : w ∈ gm_TB) : w ∈ lw_tbl := (List.mem_filter.mp h).1
theorem gm_t1 {w : Cond} (h : w ∈ tables_1_1) (hg : goodWord w = true) : w ∈ gm_TB := gm_tb (List.mem_append_right _ (List.mem_append_left _ h)) hg
theorem gm_t2 {w : Cond} (h : w ∈ tables_1_2) (hg : goodWord w = true) : w ∈ gm_TB := gm_tb (List.mem_append_right _ (List.mem_append_right _ (List.mem_append_left _ h))) hg
theorem gm_t3 {w : Cond} (h : w ∈ tables_1_3) (hg : goodWord w = true) : w ∈ gm_TB := gm_tb (List.mem_append_right _ (List.mem_append_right _ (List.mem_append_right _ (List.mem_append_left _ h)))) hg
theorem gm_t4 {w : Cond} (h : w ∈ tables_1_4) (hg : goodWord w = true) : w ∈ gm_TB := gm_tb (List.mem_append_right _ (List.mem_append_right _ (List.mem_append_right _ (List.mem_append_right _ (List.mem_append_left _ h))))) hg
theorem gm_t5 {w : Cond} (h : w ∈ tables_1_5) (hg : goodWord w = true) : w ∈ gm_TB := gm_tb (List.mem_append_right _ (List.mem_append_right _ (List.mem_append_right _ (List.mem_append_right _ (List.mem_append_right _ (List.mem_append_left _ h)))))) hg
theorem gm_t6 {w : Cond} (h : w ∈ tables_1_6) (hg : goodWord w = true) : w ∈ gm_TB := gm_tb (List.mem_append_right _ (List.mem_append_right _ (List.mem_append_right _ (List.mem_append_right _ (List.mem_append_right _ (List.mem_append_right _ h)))))) hg
theorem gm_tp {w : Cond} (h : w ∈ k2_sels lw_privs) (hg : goodWord w = true) : w ∈ gm_TB := gm_tb (List.mem_append_left _ h) hg
theorem gm_good {ws : List Cond} (hw : ∀ w ∈ ws, w ∈ gm_TB) : GoodIn gm_TB ws := fun w h => ⟨hw w h, good_of_word (List.mem_filter.mp (hw w h)).2⟩
theorem gm_inX0 : ∀ w ∈ u_ws RX0 TX0 18, w ∈ gm_TB := by
  intro w hw
  obtain ⟨k, hk, rfl⟩ := List.mem_map.mp hw
  have hk2 : k < 18 := List.mem_range.mp hk
  clear hw hk
  match k, hk2 with
  | 0, _ => exact gm_t1 (List.mem_of_getElem? (i := 145) (by decide +kernel)) rfl
  | 1, _ => exact gm_t1 (List.mem_of_getElem? (i := 147) (by decide +kernel)) rfl
  | 2, _ => exact gm_t1 (List.mem_of_getElem? (i := 149) (by decide +kernel)) rfl
  | 3, _ => exact gm_t1 (List.mem_of_getElem? (i := 151) (by decide +kernel)) rfl
  | 4, _ => exact gm_t1 (List.mem_of_getElem? (i := 153) (by decide +kernel)) rfl
  | 5, _ => exact gm_t1 (List.mem_of_getElem? (i := 155) (by decide +kernel)) rfl
  | 6, _ => exact gm_t1 (List.mem_of_getElem? (i := 157) (by decide +kernel)) rfl
  | 7, _ => exact gm_t1 (List.mem_of_getElem? (i := 159) (by decide +kernel)) rfl
  | 8, _ => exact gm_t1 (List.mem_of_getElem? (i := 161) (by decide +kernel)) rfl
  | 9, _ => exact gm_t1 (List.mem_of_getElem? (i := 163) (by decide +kernel)) rfl
  | 10, _ => exact gm_t1 (List.mem_of_getElem? (i := 165) (by decide +kernel)) rfl
  | 11, _ => exact gm_t1 (List.mem_of_getElem? (i := 167) (by decide +kernel)) rfl
  | 12, _ => exact gm_t1 (List.mem_of_getElem? (i := 169) (by decide +kernel)) rfl
  | 13, _ => exact gm_t1 (List.mem_of_getElem? (i := 171) (by decide +kernel)) rfl
  | 14, _ => exact gm_t1 (List.mem_of_getElem? (i := 173) (by decide +kernel)) rfl
  | 15, _ => exact gm_t1 (List.mem_of_getElem? (i := 175) (by decide +kernel)) rfl
  | 16, _ => exact gm_t1 (List.mem_of_getElem? (i := 177) (by decide +kernel)) rfl
  | 17, _ => exact gm_t1 (List.mem_of_getElem? (i := 179) (by decide +kernel)) rfl
  | k + 18, h => exact absurd h (by omega)
theorem gm_inX1 : ∀ w ∈ u_ws RX1 TX1 7, w ∈ gm_TB := by
  intro w hw
  obtain ⟨k, hk, rfl⟩ := List.mem_map.mp hw
  have hk2 : k < 7 := List.mem_range.mp hk
  clear hw hk
  match k, hk2 with
  | 0, _ => exact gm_t1 (List.mem_of_getElem? (i := 81) (by decide +kernel)) rfl
  | 1, _ => exact gm_t1 (List.mem_of_getElem? (i := 83) (by decide +kernel)) rfl
  | 2, _ => exact gm_t1 (List.mem_of_getElem? (i := 85) (by decide +kernel)) rfl
  | 3, _ => exact gm_t1 (List.mem_of_getElem? (i := 87) (by decide +kernel)) rfl
  | 4, _ => exact gm_t1 (List.mem_of_getElem? (i := 89) (by decide +kernel)) rfl
  | 5, _ => exact gm_t1 (List.mem_of_getElem? (i := 91) (by decide +kernel)) rfl
  | 6, _ => exact gm_t1 (List.mem_of_getElem? (i := 93) (by decide +kernel)) rfl
  | k + 7, h => exact absurd h (by omega)
theorem gm_inX2 : ∀ w ∈ u_ws RX2 TX2 5, w ∈ gm_TB := by
  intro w hw
  obtain ⟨k, hk, rfl⟩ := List.mem_map.mp hw
  have hk2 : k < 5 := List.mem_range.mp hk
  clear hw hk
  match k, hk2 with
  | 0, _ => exact gm_t2 (List.mem_of_getElem? (i := 28) (by decide +kernel)) rfl
  | 1, _ => exact gm_t2 (List.mem_of_getElem? (i := 30) (by decide +kernel)) rfl
  | 2, _ => exact gm_t2 (List.mem_of_getElem? (i := 32) (by decide +kernel)) rfl
  | 3, _ => exact gm_t2 (List.mem_of_getElem? (i := 34) (by decide +kernel)) rfl
  | 4, _ => exact gm_t2 (List.mem_of_getElem? (i := 36) (by decide +kernel)) rfl
  | k + 5, h => exact absurd h (by omega)
theorem gm_inX3 : ∀ w ∈ u_ws RX3 TX3 2, w ∈ gm_TB := by
  intro w hw
  obtain ⟨k, hk, rfl⟩ := List.mem_map.mp hw
  have hk2 : k < 2 := List.mem_range.mp hk
  clear hw hk
  match k, hk2 with
  | 0, _ => exact gm_t1 (List.mem_of_getElem? (i := 235) (by decide +kernel)) rfl
  | 1, _ => exact gm_t1 (List.mem_of_getElem? (i := 237) (by decide +kernel)) rfl
  | k + 2, h => exact absurd h (by omega)
theorem gm_inX4 : ∀ w ∈ u_ws RX4 TX4 5, w ∈ gm_TB := by
  intro w hw
  obtain ⟨k, hk, rfl⟩ := List.mem_map.mp hw
  have hk2 : k < 5 := List.mem_range.mp hk
  clear hw hk
  match k, hk2 with
  | 0, _ => exact gm_t1 (List.mem_of_getElem? (i := 52) (by decide +kernel)) rfl
  | 1, _ => exact gm_t1 (List.mem_of_getElem? (i := 54) (by decide +kernel)) rfl
  | 2, _ => exact gm_t1 (List.mem_of_getElem? (i := 56) (by decide +kernel)) rfl
  | 3, _ => exact gm_t1 (List.mem_of_getElem? (i := 58) (by decide +kernel)) rfl
  | 4, _ => exact gm_t1 (List.mem_of_getElem? (i := 60) (by decide +kernel)) rfl
  | k + 5, h => exact absurd h (by omega)
theorem gm_inX5 : ∀ w ∈ u_ws RX5 TX5 9, w ∈ gm_TB := by
  intro w hw
  obtain ⟨k, hk, rfl⟩ := List.mem_map.mp hw
  have hk2 : k < 9 := List.mem_range.mp hk
  clear hw hk
  match k, hk2 with
  | 0, _ => exact gm_t1 (List.mem_of_getElem? (i := 213) (by decide +kernel)) rfl
  | 1, _ => exact gm_t1 (List.mem_of_getElem? (i := 215) (by decide +kernel)) rfl
  | 2, _ => exact gm_t1 (List.mem_of_getElem? (i := 217) (by decide +kernel)) rfl
  | 3, _ => exact gm_t1 (List.mem_of_getElem? (i := 219) (by decide +kernel)) rfl
  | 4, _ => exact gm_t1 (List.mem_of_getElem? (i := 221) (by decide +kernel)) rfl
  | 5, _ => exact gm_t1 (List.mem_of_getElem? (i := 223) (by decide +kernel)) rfl
  | 6, _ => exact gm_t1 (List.mem_of_getElem? (i := 225) (by decide +kernel)) rfl
  | 7, _ => exact gm_t1 (List.mem_of_getElem? (i := 227) (by decide +kernel)) rfl
  | 8, _ => exact gm_t1 (List.mem_of_getElem? (i := 229) (by decide +kernel)) rfl
  | k + 9, h => exact absurd h (by omega)
theorem gm_inX6 : ∀ w ∈ u_ws RX6 TX6 7, w ∈ gm_TB := by
  intro w hw
  obtain ⟨k, hk, rfl⟩ := List.mem_map.mp hw
  have hk2 : k < 7 := List.mem_range.mp hk
  clear hw hk
  match k, hk2 with
  | 0, _ => exact gm_t2 (List.mem_of_getElem? (i := 115) (by decide +kernel)) rfl
  | 1, _ => exact gm_t2 (List.mem_of_getElem? (i := 117) (by decide +kernel)) rfl
  | 2, _ => exact gm_t2 (List.mem_of_getElem? (i := 119) (by decide +kernel)) rfl
  | 3, _ => exact gm_t2 (List.mem_of_getElem? (i := 121) (by decide +kernel)) rfl
  | 4, _ => exact gm_t2 (List.mem_of_getElem? (i := 123) (by decide +kernel)) rfl
  | 5, _ => exact gm_t2 (List.mem_of_getElem? (i := 125) (by decide +kernel)) rfl
  | 6, _ => exact gm_t2 (List.mem_of_getElem? (i := 127) (by decide +kernel)) rfl
  | k + 7, h => exact absurd h (by omega)
theorem gm_inX7 : ∀ w ∈ u_ws RX7 TX7 3, w ∈ gm_TB := by
  intro w hw
  obtain ⟨k, hk, rfl⟩ := List.mem_map.mp hw
  have hk2 : k < 3 := List.mem_range.mp hk
  clear hw hk
  match k, hk2 with
  | 0, _ => exact gm_t2 (List.mem_of_getElem? (i := 10) (by decide +kernel)) rfl
  | 1, _ => exact gm_t2 (List.mem_of_getElem? (i := 12) (by decide +kernel)) rfl
  | 2, _ => exact gm_t2 (List.mem_of_getElem? (i := 14) (by decide +kernel)) rfl
  | k + 3, h => exact absurd h (by omega)
theorem gm_inX8 : ∀ w ∈ u_ws RX8 TX8 2, w ∈ gm_TB := by
  intro w hw
  obtain ⟨k, hk, rfl⟩ := List.mem_map.mp hw
  have hk2 : k < 2 := List.mem_range.mp hk
  clear hw hk
  match k, hk2 with
  | 0, _ => exact gm_t1 (List.mem_of_getElem? (i := 105) (by decide +kernel)) rfl
  | 1, _ => exact gm_t1 (List.mem_of_getElem? (i := 107) (by decide +kernel)) rfl
  | k + 2, h => exact absurd h (by omega)
theorem gm_inX9 : ∀ w ∈ u_ws RX9 TX9 14, w ∈ gm_TB := by
  intro w hw
  obtain ⟨k, hk, rfl⟩ := List.mem_map.mp hw
  have hk2 : k < 14 := List.mem_range.mp hk
  clear hw hk
  match k, hk2 with
  | 0, _ => exact gm_t2 (List.mem_of_getElem? (i := 67) (by decide +kernel)) rfl
  | 1, _ => exact gm_t2 (List.mem_of_getElem? (i := 69) (by decide +kernel)) rfl
  | 2, _ => exact gm_t2 (List.mem_of_getElem? (i := 71) (by decide +kernel)) rfl
  | 3, _ => exact gm_t2 (List.mem_of_getElem? (i := 73) (by decide +kernel)) rfl
  | 4, _ => exact gm_t2 (List.mem_of_getElem? (i := 75) (by decide +kernel)) rfl
  | 5, _ => exact gm_t2 (List.mem_of_getElem? (i := 77) (by decide +kernel)) rfl
  | 6, _ => exact gm_t2 (List.mem_of_getElem? (i := 79) (by decide +kernel)) rfl
  | 7, _ => exact gm_t2 (List.mem_of_getElem? (i := 81) (by decide +kernel)) rfl
  | 8, _ => exact gm_t2 (List.mem_of_getElem? (i := 83) (by decide +kernel)) rfl
  | 9, _ => exact gm_t2 (List.mem_of_getElem? (i := 85) (by decide +kernel)) rfl
  | 10, _ => exact gm_t2 (List.mem_of_getElem? (i := 87) (by decide +kernel)) rfl
  | 11, _ => exact gm_t2 (List.mem_of_getElem? (i := 89) (by decide +kernel)) rfl
  | 12, _ => exact gm_t2 (List.mem_of_getElem? (i := 91) (by decide +kernel)) rfl
  | 13, _ => exact gm_t2 (List.mem_of_getElem? (i := 93) (by decide +kernel)) rfl
  | k + 14, h => exact absurd h (by omega)
theorem gm_inX10 : ∀ w ∈ u_ws RX10 TX10 5, w ∈ gm_TB := by
  intro w hw
  obtain ⟨k, hk, rfl⟩ := List.mem_map.mp hw
  have hk2 : k < 5 := List.mem_range.mp hk
  clear hw hk
  match k, hk2 with
  | 0, _ => exact gm_t2 (List.mem_of_getElem? (i := 137) (by decide +kernel)) rfl
  | 1, _ => exact gm_t2 (List.mem_of_getElem? (i := 139) (by decide +kernel)) rfl
  | 2, _ => exact gm_t2 (List.mem_of_getElem? (i := 141) (by decide +kernel)) rfl
  | 3, _ => exact gm_t2 (List.mem_of_getElem? (i := 143) (by decide +kernel)) rfl
  | 4, _ => exact gm_t2 (List.mem_of_getElem? (i := 145) (by decide +kernel)) rfl
  | k + 5, h => exact absurd h (by omega)
theorem gm_inX11 : ∀ w ∈ u_ws RX11 TX11 58, w ∈ gm_TB := by
  intro w hw
  obtain ⟨k, hk, rfl⟩ := List.mem_map.mp hw
  have hk2 : k < 58 := List.mem_range.mp hk
  clear hw hk
  match k, hk2 with
  | 0, _ => exact gm_t4 (List.mem_of_getElem? (i := 205) (by decide +kernel)) rfl
  | 1, _ => exact gm_t4 (List.mem_of_getElem? (i := 207) (by decide +kernel)) rfl
  | 2, _ => exact gm_t4 (List.mem_of_getElem? (i := 209) (by decide +kernel)) rfl
  | 3, _ => exact gm_t4 (List.mem_of_getElem? (i := 211) (by decide +kernel)) rfl
  | 4, _ => exact gm_t4 (List.mem_of_getElem? (i := 213) (by decide +kernel)) rfl
  | 5, _ => exact gm_t4 (List.mem_of_getElem? (i := 215) (by decide +kernel)) rfl
  | 6, _ => exact gm_t4 (List.mem_of_getElem? (i := 217) (by decide +kernel)) rfl
  | 7, _ => exact gm_t4 (List.mem_of_getElem? (i := 219) (by decide +kernel)) rfl
  | 8, _ => exact gm_t4 (List.mem_of_getElem? (i := 221) (by decide +kernel)) rfl
  | 9, _ => exact gm_t4 (List.mem_of_getElem? (i := 223) (by decide +kernel)) rfl
  | 10, _ => exact gm_t4 (List.mem_of_getElem? (i := 225) (by decide +kernel)) rfl
  | 11, _ => exact gm_t4 (List.mem_of_getElem? (i := 227) (by decide +kernel)) rfl
  | 12, _ => exact gm_t4 (List.mem_of_getElem? (i := 229) (by decide +kernel)) rfl
  | 13, _ => exact gm_t4 (List.mem_of_getElem? (i := 231) (by decide +kernel)) rfl
  | 14, _ => exact gm_t4 (List.mem_of_getElem? (i := 233) (by decide +kernel)) rfl
  | 15, _ => exact gm_t4 (List.mem_of_getElem? (i := 235) (by decide +kernel)) rfl
  | 16, _ => exact gm_t4 (List.mem_of_getElem? (i := 237) (by decide +kernel)) rfl
  | 17, _ => exact gm_t4 (List.mem_of_getElem? (i := 239) (by decide +kernel)) rfl
  | 18, _ => exact gm_t5 (List.mem_of_getElem? (i := 1) (by decide +kernel)) rfl
  | 19, _ => exact gm_t5 (List.mem_of_getElem? (i := 3) (by decide +kernel)) rfl
  | 20, _ => exact gm_t5 (List.mem_of_getElem? (i := 5) (by decide +kernel)) rfl
  | 21, _ => exact gm_t5 (List.mem_of_getElem? (i := 7) (by decide +kernel)) rfl
  | 22, _ => exact gm_t5 (List.mem_of_getElem? (i := 9) (by decide +kernel)) rfl
  | 23, _ => exact gm_t5 (List.mem_of_getElem? (i := 11) (by decide +kernel)) rfl
  | 24, _ => exact gm_t5 (List.mem_of_getElem? (i := 13) (by decide +kernel)) rfl
  | 25, _ => exact gm_t5 (List.mem_of_getElem? (i := 15) (by decide +kernel)) rfl
  | 26, _ => exact gm_t5 (List.mem_of_getElem? (i := 17) (by decide +kernel)) rfl
  | 27, _ => exact gm_t5 (List.mem_of_getElem? (i := 19) (by decide +kernel)) rfl
  | 28, _ => exact gm_t5 (List.mem_of_getElem? (i := 21) (by decide +kernel)) rfl
  | 29, _ => exact gm_t5 (List.mem_of_getElem? (i := 23) (by decide +kernel)) rfl
  | 30, _ => exact gm_t5 (List.mem_of_getElem? (i := 25) (by decide +kernel)) rfl
  | 31, _ => exact gm_t5 (List.mem_of_getElem? (i := 27) (by decide +kernel)) rfl
  | 32, _ => exact gm_t5 (List.mem_of_getElem? (i := 29) (by decide +kernel)) rfl
  | 33, _ => exact gm_t5 (List.mem_of_getElem? (i := 31) (by decide +kernel)) rfl
  | 34, _ => exact gm_t5 (List.mem_of_getElem? (i := 33) (by decide +kernel)) rfl
  | 35, _ => exact gm_t5 (List.mem_of_getElem? (i := 35) (by decide +kernel)) rfl
  | 36, _ => exact gm_t5 (List.mem_of_getElem? (i := 37) (by decide +kernel)) rfl
  | 37, _ => exact gm_t5 (List.mem_of_getElem? (i := 39) (by decide +kernel)) rfl
  | 38, _ => exact gm_t5 (List.mem_of_getElem? (i := 41) (by decide +kernel)) rfl
  | 39, _ => exact gm_t5 (List.mem_of_getElem? (i := 43) (by decide +kernel)) rfl
  | 40, _ => exact gm_t5 (List.mem_of_getElem? (i := 45) (by decide +kernel)) rfl
  | 41, _ => exact gm_t5 (List.mem_of_getElem? (i := 47) (by decide +kernel)) rfl
  | 42, _ => exact gm_t5 (List.mem_of_getElem? (i := 49) (by decide +kernel)) rfl
  | 43, _ => exact gm_t5 (List.mem_of_getElem? (i := 51) (by decide +kernel)) rfl
  | 44, _ => exact gm_t5 (List.mem_of_getElem? (i := 53) (by decide +kernel)) rfl
  | 45, _ => exact gm_t5 (List.mem_of_getElem? (i := 55) (by decide +kernel)) rfl
  | 46, _ => exact gm_t5 (List.mem_of_getElem? (i := 57) (by decide +kernel)) rfl
  | 47, _ => exact gm_t5 (List.mem_of_getElem? (i := 59) (by decide +kernel)) rfl
  | 48, _ => exact gm_t5 (List.mem_of_getElem? (i := 61) (by decide +kernel)) rfl
  | 49, _ => exact gm_t5 (List.mem_of_getElem? (i := 63) (by decide +kernel)) rfl
  | 50, _ => exact gm_t5 (List.mem_of_getElem? (i := 65) (by decide +kernel)) rfl
  | 51, _ => exact gm_t5 (List.mem_of_getElem? (i := 67) (by decide +kernel)) rfl
  | 52, _ => exact gm_t5 (List.mem_of_getElem? (i := 69) (by decide +kernel)) rfl
  | 53, _ => exact gm_t5 (List.mem_of_getElem? (i := 71) (by decide +kernel)) rfl
  | 54, _ => exact gm_t5 (List.mem_of_getElem? (i := 73) (by decide +kernel)) rfl
  | 55, _ => exact gm_t5 (List.mem_of_getElem? (i := 75) (by decide +kernel)) rfl
  | 56, _ => exact gm_t5 (List.mem_of_getElem? (i := 77) (by decide +kernel)) rfl
  | 57, _ => exact gm_t5 (List.mem_of_getElem? (i := 79) (by decide +kernel)) rfl
  | k + 58, h => exact absurd h (by omega)
end
section
/-! THE ABSTRACT MACHINE: a world is a row of shapes g; a memory S gives each place (a number) its row of ints; gm_run: 'from here the method returns r, and the memory is S2' -/
abbrev gm_Mem : Type := Nat → Nat → Int32
abbrev gm_Sh : Type := (Nat × List (Option Nat)) ⊕ (Nat × Nat)
abbrev gm_W : Type := List gm_Sh
abbrev gm_Y : Type := MethodName × ByteArray × Nat × Option FieldType
abbrev gm_Ar : Type := ClassId × ClassId × ClassId
def gm_V (ad : Nat → Nat) (v : Value) : Value := match v with
  | .int x => .int x
  | .ref q => .ref (ad q)
  | _ => .null
theorem gm_Vcat (ad : Nat → Nat) (v : Value) : (gm_V ad v).category = 1 := by cases v <;> rfl
def gm_Fs (ad : Nat → Nat) (r : Nat → Int32) : Nat → List (Option Nat) → List Value
  | _, [] => []
  | k, none :: l => .int (r k) :: gm_Fs ad r (k + 1) l
  | k, some q :: l => .ref (ad q) :: gm_Fs ad r (k + 1) l
def gm_Cel (c : gm_Ar) (ad : Nat → Nat) (r : Nat → Int32) (h : gm_Sh) : va_E := match h with
  | .inl (ci, fs) => .inr (ci, gm_Fs ad r 0 fs)
  | .inr (0, n) => .inl (c.1, n, .inl r)
  | .inr (1, n) => .inl (c.2.1, n, .inl r)
  | .inr (_, n) => .inl (c.2.2, n, .inr (.inr (.inr (.inr (fun i => some (ad (r i).toNatClampNeg))))))
def gm_Cs (c : gm_Ar) (ad : Nat → Nat) (S : gm_Mem) : Nat → gm_W → va_W
  | _, [] => []
  | p, h :: l => (ad p, gm_Cel c ad (S p) h) :: gm_Cs c ad S (p + 1) l
def gm_Ws (c : gm_Ar) (ad : Nat → Nat) (S : gm_Mem) (g : gm_W) : va_W := gm_Cs c ad S 0 g
/-- one place of a memory is set -/
def gm_u (S : gm_Mem) (p k : Nat) (x : Int32) : gm_Mem := fun q => if q = p then (fun j => if j = k then x else S p j) else S q
theorem gm_u_eq (S : gm_Mem) (p k : Nat) (x : Int32) : gm_u S p k x = va_up S p (upd (S p) k x) := by
  funext q
  by_cases h : q = p
  · simp only [gm_u, va_up, if_pos h]
    funext j
    simp [upd]
  · simp only [gm_u, va_up, if_neg h]
theorem gm_Cs_get (c : gm_Ar) (ad : Nat → Nat) (S : gm_Mem) : ∀ (l : gm_W) (p i : Nat) (h : gm_Sh), l[i]? = some h → (gm_Cs c ad S p l)[i]? = some (ad (p + i), gm_Cel c ad (S (p + i)) h)
  | [], p, i, h, e => by simp at e
  | a :: l, p, 0, h, e => by
    simp at e
    subst e
    simp [gm_Cs]
  | a :: l, p, i + 1, h, e => by
    have e' : l[i]? = some h := by simpa using e
    have := gm_Cs_get c ad S l (p + 1) i h e'
    rw [show p + (i + 1) = p + 1 + i by omega]
    simpa [gm_Cs] using this
theorem gm_Cs_len (c : gm_Ar) (ad : Nat → Nat) (S : gm_Mem) : ∀ (l : gm_W) (p : Nat), (gm_Cs c ad S p l).length = l.length
  | [], p => rfl
  | a :: l, p => by simp [gm_Cs, gm_Cs_len c ad S l (p + 1)]
theorem gm_Cs_other (c : gm_Ar) (ad : Nat → Nat) (S : gm_Mem) (q : Nat) (r : Nat → Int32) : ∀ (l : gm_W) (p : Nat), q < p → gm_Cs c ad (va_up S q r) p l = gm_Cs c ad S p l
  | [], p, h => rfl
  | a :: l, p, h => by
    simp only [gm_Cs]
    rw [gm_Cs_other c ad S q r l (p + 1) (by omega)]
    have : va_up S q r p = S p := by simp [va_up]; omega
    rw [this]
theorem gm_Cs_set (c : gm_Ar) (ad : Nat → Nat) (S : gm_Mem) (r : Nat → Int32) (h : gm_Sh) : ∀ (l : gm_W) (p i : Nat), l[i]? = some h → (gm_Cs c ad S p l).set i (ad (p + i), gm_Cel c ad r h) = gm_Cs c ad (va_up S (p + i) r) p l
  | [], p, i, e => by simp at e
  | a :: l, p, 0, e => by
    simp at e
    subst e
    simp only [gm_Cs, List.set_cons_zero, Nat.add_zero]
    rw [gm_Cs_other c ad S p r l (p + 1) (by omega)]
    have : va_up S p r p = r := by simp [va_up]
    rw [this]
  | a :: l, p, i + 1, e => by
    have e' : l[i]? = some h := by simpa using e
    have := gm_Cs_set c ad S r h l (p + 1) i e'
    simp only [gm_Cs, List.set_cons_succ]
    rw [show p + (i + 1) = p + 1 + i by omega, this]
    have : va_up S (p + 1 + i) r p = S p := by simp [va_up]; omega
    rw [this]
theorem gm_Ws_get {c : gm_Ar} {ad : Nat → Nat} {S : gm_Mem} {g : gm_W} {p : Nat} {h : gm_Sh} (e : g[p]? = some h) : (gm_Ws c ad S g)[p]? = some (ad p, gm_Cel c ad (S p) h) := by
  have := gm_Cs_get c ad S g 0 p h e
  rw [Nat.zero_add] at this
  exact this
theorem gm_Ws_set {c : gm_Ar} {ad : Nat → Nat} {S : gm_Mem} {g : gm_W} {p : Nat} {h : gm_Sh} (e : g[p]? = some h) (r : Nat → Int32) : (gm_Ws c ad S g).set p (ad p, gm_Cel c ad r h) = gm_Ws c ad (va_up S p r) g := by
  have := gm_Cs_set c ad S r h g 0 p e
  rw [Nat.zero_add] at this
  exact this
theorem gm_Fs_get (ad : Nat → Nat) (r : Nat → Int32) : ∀ (l : List (Option Nat)) (k i : Nat), l[i]? = some none → (gm_Fs ad r k l)[i]? = some (.int (r (k + i)))
  | [], k, i, e => by simp at e
  | none :: l, k, 0, e => by simp [gm_Fs]
  | some q :: l, k, 0, e => by simp at e
  | none :: l, k, i + 1, e => by
    have := gm_Fs_get ad r l (k + 1) i (by simpa using e)
    rw [show k + (i + 1) = k + 1 + i by omega]
    simpa [gm_Fs] using this
  | some q :: l, k, i + 1, e => by
    have := gm_Fs_get ad r l (k + 1) i (by simpa using e)
    rw [show k + (i + 1) = k + 1 + i by omega]
    simpa [gm_Fs] using this
theorem gm_Fs_getR (ad : Nat → Nat) (r : Nat → Int32) : ∀ (l : List (Option Nat)) (k i q : Nat), l[i]? = some (some q) → (gm_Fs ad r k l)[i]? = some (.ref (ad q))
  | [], k, i, q, e => by simp at e
  | none :: l, k, 0, q, e => by simp at e
  | some q' :: l, k, 0, q, e => by
    simp at e
    simp [gm_Fs, e]
  | none :: l, k, i + 1, q, e => by
    have := gm_Fs_getR ad r l (k + 1) i q (by simpa using e)
    simpa [gm_Fs] using this
  | some q' :: l, k, i + 1, q, e => by
    have := gm_Fs_getR ad r l (k + 1) i q (by simpa using e)
    simpa [gm_Fs] using this
theorem gm_Fs_len (ad : Nat → Nat) (r : Nat → Int32) : ∀ (l : List (Option Nat)) (k : Nat), (gm_Fs ad r k l).length = l.length
  | [], k => rfl
  | none :: l, k => by simp [gm_Fs, gm_Fs_len ad r l (k + 1)]
  | some q :: l, k => by simp [gm_Fs, gm_Fs_len ad r l (k + 1)]
theorem gm_Fs_other (ad : Nat → Nat) (r : Nat → Int32) (i : Nat) (x : Int32) : ∀ (l : List (Option Nat)) (k : Nat), i < k → gm_Fs ad (upd r i x) k l = gm_Fs ad r k l
  | [], k, h => rfl
  | none :: l, k, h => by
    have : upd r i x k = r k := by simp [upd]; omega
    simp only [gm_Fs, gm_Fs_other ad r i x l (k + 1) (by omega), this]
  | some q :: l, k, h => by
    simp only [gm_Fs, gm_Fs_other ad r i x l (k + 1) (by omega)]
theorem gm_Fs_set (ad : Nat → Nat) (r : Nat → Int32) (x : Int32) : ∀ (l : List (Option Nat)) (k i : Nat), l[i]? = some none → (gm_Fs ad r k l).set i (.int x) = gm_Fs ad (upd r (k + i) x) k l
  | [], k, i, e => by simp at e
  | none :: l, k, 0, e => by
    have : upd r k x k = x := by simp [upd]
    simp only [gm_Fs, List.set_cons_zero, Nat.add_zero, gm_Fs_other ad r k x l (k + 1) (by omega), this]
  | some q :: l, k, 0, e => by simp at e
  | none :: l, k, i + 1, e => by
    have h := gm_Fs_set ad r x l (k + 1) i (by simpa using e)
    have : upd r (k + 1 + i) x k = r k := by simp [upd]; omega
    rw [show k + (i + 1) = k + 1 + i by omega]
    simp only [gm_Fs, List.set_cons_succ, h, this]
  | some q :: l, k, i + 1, e => by
    have h := gm_Fs_set ad r x l (k + 1) i (by simpa using e)
    rw [show k + (i + 1) = k + 1 + i by omega]
    simp only [gm_Fs, List.set_cons_succ, h]
/-- the addresses of a world's places are apart, and the method's own -/
def gm_D (g : gm_W) (ad : Nat → Nat) (A : Nat → Prop) : Prop := (∀ i j : Nat, i < g.length → j < g.length → ad i = ad j → i = j) ∧ ∀ i : Nat, i < g.length → A (ad i)
theorem gm_Cs_addr {c : gm_Ar} {ad : Nat → Nat} {S : gm_Mem} : ∀ (l : gm_W) (p i : Nat) (q : Nat × va_E), (gm_Cs c ad S p l)[i]? = some q → i < l.length ∧ q.1 = ad (p + i)
  | [], p, i, q, e => by simp [gm_Cs] at e
  | a :: l, p, 0, q, e => by
    simp [gm_Cs] at e
    subst e
    simp
  | a :: l, p, i + 1, q, e => by
    have h := gm_Cs_addr l (p + 1) i q (by simpa [gm_Cs] using e)
    refine ⟨by simp; omega, ?_⟩
    rw [show p + (i + 1) = p + 1 + i by omega]
    exact h.2
theorem gm_D.to {g : gm_W} {ad : Nat → Nat} {A : Nat → Prop} (h : gm_D g ad A) (c : gm_Ar) (S : gm_Mem) : va_D A (gm_Ws c ad S g) := by
  refine ⟨fun i j p q hp hq e => ?_, fun k q hq => ?_⟩
  · have h1 := gm_Cs_addr g 0 i p hp
    have h2 := gm_Cs_addr g 0 j q hq
    rw [h1.2, h2.2, Nat.zero_add, Nat.zero_add] at e
    exact h.1 i j h1.1 h2.1 e
  · have h1 := gm_Cs_addr g 0 k q hq
    rw [h1.2, Nat.zero_add]
    exact h.2 k h1.1
abbrev gm_Ty (c : gm_Ar) : List (ClassId × FieldType) := [(c.1, .int), (c.2.1, .boolean), (c.2.2, .object RX5)]
def gm_CX (Y : gm_Y) (p : Program) (s : State) (m : MethodId) (args : Array Value) (meth : Method) (c : Code) (D : va_G) (ca : gm_Ar) : Prop :=
  p.tables.exec = Jvm.exec ∧ c.code = Y.2.1 ∧ meth.sig.returnType = Y.2.2.2 ∧ c.maxLocals = Y.2.2.1 ∧ s.vm.findClass Y.1.cls = some m.cls ∧ (∀ w ∈ gm_TB, w.before args s = true) ∧ va_K D vwCl (gm_Ty ca) s ∧ meth.locks = false
def gm_St (g : gm_W) (ca : gm_Ar) (D : va_G) (ad : Nat → Nat) (A : Nat → Prop) (S : gm_Mem) (s : State) (H : Heap) (locs : List Loc) : Prop :=
  va_P D vwCl (gm_Ws ca ad S g) H ∧ gm_D g ad A ∧ va_S A s.heap H locs ∧ ∀ q : Nat, s.heap.size ≤ q → A q
def gm_Lv (ad : Nat → Nat) (ls : Array Slot) (nL : Nat) (L : List (Option Value)) : Prop := ∃ lv : List (Nat × Value), lv_has ls nL lv ∧ ∀ (i : Nat) (v : Value), L[i]? = some (some v) → (i, gm_V ad v) ∈ lv
def gm_Q (g : gm_W) (ca : gm_Ar) (D : va_G) (ad : Nat → Nat) (A : Nat → Prop) (r : Option Value) (S2 : gm_Mem) : Array Value → State → Outcome → State → Prop :=
  fun _ st oc t => oc = .returned (r.map (gm_V ad)) ∧ va_P D vwCl (gm_Ws ca ad S2 g) t.heap ∧ va_F A st t
def gm_R (h : Nat) : Room := { frames := h, cells := 0, slots := 0, locals := 40 * h }
def gm_run (g : gm_W) (k : Nat) (Y : gm_Y) (pc : Nat) (L : List (Option Value)) (st : List Value) (S : gm_Mem) (r : Option Value) (S2 : gm_Mem) : Prop :=
  ∀ (h : Nat), k ≤ h → ∀ (p : Program) (l : Launch) (e : Env) (s : State) (m : MethodId) (args : Array Value) (below : List Frame) (meth : Method) (c : Code) (D : va_G) (ca : gm_Ar) (ad : Nat → Nat) (A : Nat → Prop), gm_CX Y p s m args meth c D ca →
  ∀ (H : Heap) (locs : List Loc) (ls : Array Slot), gm_St g ca D ad A S s H locs → gm_Lv ad ls Y.2.2.1 L → W p l e (gm_R h) s m args below meth c H locs 0 0 (MQ below (gm_Q g ca D ad A r S2) args s 0 0 A) (F0 m pc ls (st.map (gm_V ad)))
theorem gm_Lv.at {ad : Nat → Nat} {ls : Array Slot} {n : Nat} {L : List (Option Value)} (h : gm_Lv ad ls n L) {i : Nat} {v : Value} (hl : L[i]? = some (some v)) : ls[i]? = some (.val (gm_V ad v)) := by
  obtain ⟨lv, h1, h2⟩ := h
  exact h1.2.2 _ (h2 i v hl)
theorem gm_Lv.set {ad : Nat → Nat} {n i : Nat} {v : Value} {L : List (Option Value)} {lv : List (Nat × Value)} (h2 : ∀ (j : Nat) (w : Value), L[j]? = some (some w) → (j, gm_V ad w) ∈ lv) {ls' : Array Slot}
    (h : lv_has ls' n ((i, gm_V ad v) :: lv.filter (fun q => !(q.1 == i) && !(q.1 + 1 == i && q.2.category == 2)))) : gm_Lv ad ls' n (L.set i (some v)) := by
  refine ⟨_, h, fun j w hj => ?_⟩
  by_cases e : j = i
  · subst e
    rw [List.getElem?_set_self' ] at hj
    cases hL : L[j]? with
    | none => rw [hL] at hj; simp at hj
    | some z =>
      rw [hL] at hj
      simp at hj
      subst hj
      exact List.mem_cons_self
  · rw [List.getElem?_set_ne (fun q => e q.symm)] at hj
    refine List.mem_cons_of_mem _ (List.mem_filter.mpr ⟨h2 j w hj, ?_⟩)
    simp [e, gm_Vcat]
section GM
variable {g : gm_W} {k : Nat} {Y : gm_Y} {pc : Nat} {L : List (Option Value)} {st : List Value} {S : gm_Mem} {r : Option Value} {S2 : gm_Mem}
theorem gm_iload {i : Nat} {x : Int32} (hd : decode Y.2.1 pc = .ok (.iload i, 2)) (hl : L[i]? = some (some (.int x))) (K : gm_run g k Y (pc + 2) L (.int x :: st) S r S2) : gm_run g k Y pc L st S r S2 :=
  fun h hk p l e s m args below meth c D ca ad A C H locs ls hS hL => lv_iload C.1 C.2.1 hd (hL.at hl) (K h hk p l e s m args below meth c D ca ad A C H locs ls hS hL)
theorem gm_iload_n {i : Fin 4} {x : Int32} (hd : decode Y.2.1 pc = .ok (.iload_n i, 1)) (hl : L[(i : Nat)]? = some (some (.int x))) (K : gm_run g k Y (pc + 1) L (.int x :: st) S r S2) : gm_run g k Y pc L st S r S2 :=
  fun h hk p l e s m args below meth c D ca ad A C H locs ls hS hL => lv_iload_n C.1 C.2.1 hd rfl (hL.at hl) (K h hk p l e s m args below meth c D ca ad A C H locs ls hS hL)
theorem gm_aload {i : Nat} {x : Nat} (hd : decode Y.2.1 pc = .ok (.aload i, 2)) (hl : L[i]? = some (some (.ref x))) (K : gm_run g k Y (pc + 2) L (.ref x :: st) S r S2) : gm_run g k Y pc L st S r S2 :=
  fun h hk p l e s m args below meth c D ca ad A C H locs ls hS hL => lv_aload C.1 C.2.1 hd (hL.at hl) (K h hk p l e s m args below meth c D ca ad A C H locs ls hS hL)
theorem gm_aload_n {i : Fin 4} {x : Nat} (hd : decode Y.2.1 pc = .ok (.aload_n i, 1)) (hl : L[(i : Nat)]? = some (some (.ref x))) (K : gm_run g k Y (pc + 1) L (.ref x :: st) S r S2) : gm_run g k Y pc L st S r S2 :=
  fun h hk p l e s m args below meth c D ca ad A C H locs ls hS hL => lv_aload_n C.1 C.2.1 hd rfl (hL.at hl) (K h hk p l e s m args below meth c D ca ad A C H locs ls hS hL)
theorem gm_istore {i : Nat} {x : Int32} {L' : List (Option Value)} (hd : decode Y.2.1 pc = .ok (.istore i, 2)) (hi : i < Y.2.2.1) (hl : L.set i (some (.int x)) = L') (K : gm_run g k Y (pc + 2) L' st S r S2) : gm_run g k Y pc L (.int x :: st) S r S2 := by
  intro h hk p l e s m args below meth c D ca ad A C H locs ls hS hL
  obtain ⟨lv, h1, h2⟩ := hL
  refine lv_istore (x := x) C.1 C.2.1 hd h1 hi rfl (fun ls' hl' => ?_)
  subst hl
  exact K h hk p l e s m args below meth c D ca ad A C H locs ls' hS (gm_Lv.set (v := .int x) h2 hl')
theorem gm_istore_n {i : Fin 4} {x : Int32} {L' : List (Option Value)} (hd : decode Y.2.1 pc = .ok (.istore_n i, 1)) (hi : (i : Nat) < Y.2.2.1) (hl : L.set i (some (.int x)) = L') (K : gm_run g k Y (pc + 1) L' st S r S2) : gm_run g k Y pc L (.int x :: st) S r S2 := by
  intro h hk p l e s m args below meth c D ca ad A C H locs ls hS hL
  obtain ⟨lv, h1, h2⟩ := hL
  refine lv_istore_n (x := x) C.1 C.2.1 hd rfl h1 hi rfl (fun ls' hl' => ?_)
  subst hl
  exact K h hk p l e s m args below meth c D ca ad A C H locs ls' hS (gm_Lv.set (v := .int x) h2 hl')
theorem gm_astore {i : Nat} {x : Nat} {L' : List (Option Value)} (hd : decode Y.2.1 pc = .ok (.astore i, 2)) (hi : i < Y.2.2.1) (hl : L.set i (some (.ref x)) = L') (K : gm_run g k Y (pc + 2) L' st S r S2) : gm_run g k Y pc L (.ref x :: st) S r S2 := by
  intro h hk p l e s m args below meth c D ca ad A C H locs ls hS hL
  obtain ⟨lv, h1, h2⟩ := hL
  refine lv_astore (x := ad x) C.1 C.2.1 hd h1 hi rfl (fun ls' hl' => ?_)
  subst hl
  exact K h hk p l e s m args below meth c D ca ad A C H locs ls' hS (gm_Lv.set (v := .ref x) h2 hl')
theorem gm_astore_n {i : Fin 4} {x : Nat} {L' : List (Option Value)} (hd : decode Y.2.1 pc = .ok (.astore_n i, 1)) (hi : (i : Nat) < Y.2.2.1) (hl : L.set i (some (.ref x)) = L') (K : gm_run g k Y (pc + 1) L' st S r S2) : gm_run g k Y pc L (.ref x :: st) S r S2 := by
  intro h hk p l e s m args below meth c D ca ad A C H locs ls hS hL
  obtain ⟨lv, h1, h2⟩ := hL
  refine lv_astore_n (x := ad x) C.1 C.2.1 hd rfl h1 hi rfl (fun ls' hl' => ?_)
  subst hl
  exact K h hk p l e s m args below meth c D ca ad A C H locs ls' hS (gm_Lv.set (v := .ref x) h2 hl')
theorem gm_iinc {i : Nat} {n : Int} {x v : Int32} {L' : List (Option Value)} (hd : decode Y.2.1 pc = .ok (.iinc i n, 3)) (hx : L[i]? = some (some (.int x))) (hv : x + Int32.ofInt n = v) (hi : i < Y.2.2.1) (hl : L.set i (some (.int v)) = L') (K : gm_run g k Y (pc + 3) L' st S r S2) : gm_run g k Y pc L st S r S2 := by
  intro h hk p l e s m args below meth c D ca ad A C H locs ls hS hL
  obtain ⟨lv, h1, h2⟩ := hL
  obtain ⟨kk, hkk⟩ := List.getElem?_of_mem (h2 i _ hx)
  refine lv_iinc (x := x) (v := v) C.1 C.2.1 hd h1 hkk hv hi rfl (fun ls' hl' => ?_)
  subst hl
  exact K h hk p l e s m args below meth c D ca ad A C H locs ls' hS (gm_Lv.set (v := .int v) h2 hl')
theorem gm_iconst {n : Int} {v : Int32} (hd : decode Y.2.1 pc = .ok (.iconst n, 1)) (hv : Int32.ofInt n = v) (K : gm_run g k Y (pc + 1) L (.int v :: st) S r S2) : gm_run g k Y pc L st S r S2 :=
  fun h hk p l e s m args below meth c D ca ad A C H locs ls hS hL => lv_iconst C.1 C.2.1 hd hv (K h hk p l e s m args below meth c D ca ad A C H locs ls hS hL)
theorem gm_bipush {n : Int} {v : Int32} (hd : decode Y.2.1 pc = .ok (.bipush n, 2)) (hv : (Int8.ofInt n).toInt32 = v) (K : gm_run g k Y (pc + 2) L (.int v :: st) S r S2) : gm_run g k Y pc L st S r S2 :=
  fun h hk p l e s m args below meth c D ca ad A C H locs ls hS hL => lv_bipush C.1 C.2.1 hd hv (K h hk p l e s m args below meth c D ca ad A C H locs ls hS hL)
theorem gm_sipush {n : Int} {v : Int32} (hd : decode Y.2.1 pc = .ok (.sipush n, 3)) (hv : (Int16.ofInt n).toInt32 = v) (K : gm_run g k Y (pc + 3) L (.int v :: st) S r S2) : gm_run g k Y pc L st S r S2 :=
  fun h hk p l e s m args below meth c D ca ad A C H locs ls hS hL => lv_sipush C.1 C.2.1 hd hv (K h hk p l e s m args below meth c D ca ad A C H locs ls hS hL)
theorem gm_ldc {own : String} {i : Nat} {v : Int32} (ho : Y.1.cls = own) (hc : Cond.constant own i v ∈ gm_TB) (hd : decode Y.2.1 pc = .ok (.ldc i, 2)) (K : gm_run g k Y (pc + 2) L (.int v :: st) S r S2) : gm_run g k Y pc L st S r S2 :=
  fun h hk p l e s m args below meth c D ca ad A C H locs ls hS hL => lv_ldc C.1 C.2.1 (by rw [← ho]; exact C.2.2.2.2.1) (C.2.2.2.2.2.1 _ hc) hd (K h hk p l e s m args below meth c D ca ad A C H locs ls hS hL)
theorem gm_dup {v : Value} (hd : decode Y.2.1 pc = .ok (.dup, 1)) (K : gm_run g k Y (pc + 1) L (v :: v :: st) S r S2) : gm_run g k Y pc L (v :: st) S r S2 :=
  fun h hk p l e s m args below meth c D ca ad A C H locs ls hS hL => lv_dup C.1 C.2.1 hd (gm_Vcat ad v) (K h hk p l e s m args below meth c D ca ad A C H locs ls hS hL)
theorem gm_pop {v : Value} (hd : decode Y.2.1 pc = .ok (.pop, 1)) (K : gm_run g k Y (pc + 1) L st S r S2) : gm_run g k Y pc L (v :: st) S r S2 :=
  fun h hk p l e s m args below meth c D ca ad A C H locs ls hS hL => lv_pop C.1 C.2.1 hd (gm_Vcat ad v) (K h hk p l e s m args below meth c D ca ad A C H locs ls hS hL)
theorem gm_dup2 {v w : Value} (hd : decode Y.2.1 pc = .ok (.dup2, 1)) (K : gm_run g k Y (pc + 1) L (v :: w :: v :: w :: st) S r S2) : gm_run g k Y pc L (v :: w :: st) S r S2 :=
  fun h hk p l e s m args below meth c D ca ad A C H locs ls hS hL => lv_dup2_11 C.1 C.2.1 hd (gm_Vcat ad v) (gm_Vcat ad w) (K h hk p l e s m args below meth c D ca ad A C H locs ls hS hL)
theorem gm_goto {off : Int} {tgt : Nat} (hd : decode Y.2.1 pc = .ok (.goto off, 3)) (ht : (pc : Int) + off = (tgt : Int)) (K : gm_run g k Y tgt L st S r S2) : gm_run g k Y pc L st S r S2 :=
  fun h hk p l e s m args below meth c D ca ad A C H locs ls hS hL => lv_goto C.1 C.2.1 hd ht (K h hk p l e s m args below meth c D ca ad A C H locs ls hS hL)
theorem gm_null (hd : decode Y.2.1 pc = .ok (.aconst_null, 1)) (K : gm_run g k Y (pc + 1) L (.null :: st) S r S2) : gm_run g k Y pc L st S r S2 :=
  fun h hk p l e s m args below meth c D ca ad A C H locs ls hS hL => lv_null C.1 C.2.1 hd (K h hk p l e s m args below meth c D ca ad A C H locs ls hS hL)
theorem gm_iadd {x y v : Int32} (hd : decode Y.2.1 pc = .ok (.iadd, 1)) (hv : x + y = v) (K : gm_run g k Y (pc + 1) L (.int v :: st) S r S2) : gm_run g k Y pc L (.int y :: .int x :: st) S r S2 := by
  subst hv
  exact fun h hk p l e s m args below meth c D ca ad A C H locs ls hS hL => lv_iadd C.1 C.2.1 hd (K h hk p l e s m args below meth c D ca ad A C H locs ls hS hL)
theorem gm_isub {x y v : Int32} (hd : decode Y.2.1 pc = .ok (.isub, 1)) (hv : x - y = v) (K : gm_run g k Y (pc + 1) L (.int v :: st) S r S2) : gm_run g k Y pc L (.int y :: .int x :: st) S r S2 := by
  subst hv
  exact fun h hk p l e s m args below meth c D ca ad A C H locs ls hS hL => lv_isub C.1 C.2.1 hd (K h hk p l e s m args below meth c D ca ad A C H locs ls hS hL)
theorem gm_imul {x y v : Int32} (hd : decode Y.2.1 pc = .ok (.imul, 1)) (hv : x * y = v) (K : gm_run g k Y (pc + 1) L (.int v :: st) S r S2) : gm_run g k Y pc L (.int y :: .int x :: st) S r S2 := by
  subst hv
  exact fun h hk p l e s m args below meth c D ca ad A C H locs ls hS hL => lv_imul C.1 C.2.1 hd (K h hk p l e s m args below meth c D ca ad A C H locs ls hS hL)
theorem gm_iand {x y v : Int32} (hd : decode Y.2.1 pc = .ok (.iand, 1)) (hv : x &&& y = v) (K : gm_run g k Y (pc + 1) L (.int v :: st) S r S2) : gm_run g k Y pc L (.int y :: .int x :: st) S r S2 := by
  subst hv
  exact fun h hk p l e s m args below meth c D ca ad A C H locs ls hS hL => lv_iand C.1 C.2.1 hd (K h hk p l e s m args below meth c D ca ad A C H locs ls hS hL)
theorem gm_ior {x y v : Int32} (hd : decode Y.2.1 pc = .ok (.ior, 1)) (hv : x ||| y = v) (K : gm_run g k Y (pc + 1) L (.int v :: st) S r S2) : gm_run g k Y pc L (.int y :: .int x :: st) S r S2 := by
  subst hv
  exact fun h hk p l e s m args below meth c D ca ad A C H locs ls hS hL => lv_ior C.1 C.2.1 hd (K h hk p l e s m args below meth c D ca ad A C H locs ls hS hL)
theorem gm_ixor {x y v : Int32} (hd : decode Y.2.1 pc = .ok (.ixor, 1)) (hv : x ^^^ y = v) (K : gm_run g k Y (pc + 1) L (.int v :: st) S r S2) : gm_run g k Y pc L (.int y :: .int x :: st) S r S2 := by
  subst hv
  exact fun h hk p l e s m args below meth c D ca ad A C H locs ls hS hL => lv_ixor C.1 C.2.1 hd (K h hk p l e s m args below meth c D ca ad A C H locs ls hS hL)
theorem gm_ishl {x y v : Int32} (hd : decode Y.2.1 pc = .ok (.ishl, 1)) (hv : x <<< (y &&& 31) = v) (K : gm_run g k Y (pc + 1) L (.int v :: st) S r S2) : gm_run g k Y pc L (.int y :: .int x :: st) S r S2 := by
  subst hv
  exact fun h hk p l e s m args below meth c D ca ad A C H locs ls hS hL => lv_ishl C.1 C.2.1 hd (K h hk p l e s m args below meth c D ca ad A C H locs ls hS hL)
theorem gm_ishr {x y v : Int32} (hd : decode Y.2.1 pc = .ok (.ishr, 1)) (hv : x >>> (y &&& 31) = v) (K : gm_run g k Y (pc + 1) L (.int v :: st) S r S2) : gm_run g k Y pc L (.int y :: .int x :: st) S r S2 := by
  subst hv
  exact fun h hk p l e s m args below meth c D ca ad A C H locs ls hS hL => lv_ishr C.1 C.2.1 hd (K h hk p l e s m args below meth c D ca ad A C H locs ls hS hL)
theorem gm_iushr {x y v : Int32} (hd : decode Y.2.1 pc = .ok (.iushr, 1)) (hv : (x.toUInt32 >>> (y.toUInt32 &&& Int32.toUInt32 31)).toInt32 = v) (K : gm_run g k Y (pc + 1) L (.int v :: st) S r S2) : gm_run g k Y pc L (.int y :: .int x :: st) S r S2 :=
  fun h hk p l e s m args below meth c D ca ad A C H locs ls hS hL => lv_iushr C.1 C.2.1 hd hv (K h hk p l e s m args below meth c D ca ad A C H locs ls hS hL)
theorem gm_ineg {x v : Int32} (hd : decode Y.2.1 pc = .ok (.ineg, 1)) (hv : -x = v) (K : gm_run g k Y (pc + 1) L (.int v :: st) S r S2) : gm_run g k Y pc L (.int x :: st) S r S2 := by
  subst hv
  exact fun h hk p l e s m args below meth c D ca ad A C H locs ls hS hL => lv_ineg C.1 C.2.1 hd (K h hk p l e s m args below meth c D ca ad A C H locs ls hS hL)
theorem gm_irem {x y v : Int32} (hd : decode Y.2.1 pc = .ok (.irem, 1)) (hne : ¬ y = 0) (hv : x - x / y * y = v) (K : gm_run g k Y (pc + 1) L (.int v :: st) S r S2) : gm_run g k Y pc L (.int y :: .int x :: st) S r S2 := by
  subst hv
  exact fun h hk p l e s m args below meth c D ca ad A C H locs ls hS hL => lv_irem C.1 C.2.1 hd hne (K h hk p l e s m args below meth c D ca ad A C H locs ls hS hL)
theorem gm_icmp_eq_t {x y : Int32} {off : Int} {tgt : Nat} (hd : decode Y.2.1 pc = .ok (.if_icmp .eq off, 3)) (ht : (pc : Int) + off = (tgt : Int)) (c0 : x = y) (K : gm_run g k Y tgt L st S r S2) : gm_run g k Y pc L (.int y :: .int x :: st) S r S2 :=
  fun h hk p l e s m args below meth c D ca ad A C H locs ls hS hL => lv_icmp_eq C.1 C.2.1 hd ht (fun _ => (K h hk p l e s m args below meth c D ca ad A C H locs ls hS hL)) (fun q => absurd c0 q)
theorem gm_icmp_eq_f {x y : Int32} {off : Int} (hd : decode Y.2.1 pc = .ok (.if_icmp .eq off, 3)) (ht : ∃ tgt : Nat, (pc : Int) + off = (tgt : Int)) (c0 : ¬ x = y) (K : gm_run g k Y (pc + 3) L st S r S2) : gm_run g k Y pc L (.int y :: .int x :: st) S r S2 := by
  obtain ⟨tgt, ht⟩ := ht
  exact fun h hk p l e s m args below meth c D ca ad A C H locs ls hS hL => lv_icmp_eq C.1 C.2.1 hd ht (fun q => absurd q c0) (fun _ => (K h hk p l e s m args below meth c D ca ad A C H locs ls hS hL))
theorem gm_icmp_ne_t {x y : Int32} {off : Int} {tgt : Nat} (hd : decode Y.2.1 pc = .ok (.if_icmp .ne off, 3)) (ht : (pc : Int) + off = (tgt : Int)) (c0 : ¬ x = y) (K : gm_run g k Y tgt L st S r S2) : gm_run g k Y pc L (.int y :: .int x :: st) S r S2 :=
  fun h hk p l e s m args below meth c D ca ad A C H locs ls hS hL => lv_icmp_ne C.1 C.2.1 hd ht (fun _ => (K h hk p l e s m args below meth c D ca ad A C H locs ls hS hL)) (fun q => absurd q c0)
theorem gm_icmp_ne_f {x y : Int32} {off : Int} (hd : decode Y.2.1 pc = .ok (.if_icmp .ne off, 3)) (ht : ∃ tgt : Nat, (pc : Int) + off = (tgt : Int)) (c0 : x = y) (K : gm_run g k Y (pc + 3) L st S r S2) : gm_run g k Y pc L (.int y :: .int x :: st) S r S2 := by
  obtain ⟨tgt, ht⟩ := ht
  exact fun h hk p l e s m args below meth c D ca ad A C H locs ls hS hL => lv_icmp_ne C.1 C.2.1 hd ht (fun q => absurd c0 q) (fun _ => (K h hk p l e s m args below meth c D ca ad A C H locs ls hS hL))
theorem gm_icmp_lt_t {x y : Int32} {off : Int} {tgt : Nat} (hd : decode Y.2.1 pc = .ok (.if_icmp .lt off, 3)) (ht : (pc : Int) + off = (tgt : Int)) (c0 : x < y) (K : gm_run g k Y tgt L st S r S2) : gm_run g k Y pc L (.int y :: .int x :: st) S r S2 :=
  fun h hk p l e s m args below meth c D ca ad A C H locs ls hS hL => lv_icmp_lt C.1 C.2.1 hd ht (fun _ => (K h hk p l e s m args below meth c D ca ad A C H locs ls hS hL)) (fun q => absurd c0 q)
theorem gm_icmp_lt_f {x y : Int32} {off : Int} (hd : decode Y.2.1 pc = .ok (.if_icmp .lt off, 3)) (ht : ∃ tgt : Nat, (pc : Int) + off = (tgt : Int)) (c0 : ¬ x < y) (K : gm_run g k Y (pc + 3) L st S r S2) : gm_run g k Y pc L (.int y :: .int x :: st) S r S2 := by
  obtain ⟨tgt, ht⟩ := ht
  exact fun h hk p l e s m args below meth c D ca ad A C H locs ls hS hL => lv_icmp_lt C.1 C.2.1 hd ht (fun q => absurd q c0) (fun _ => (K h hk p l e s m args below meth c D ca ad A C H locs ls hS hL))
theorem gm_icmp_ge_t {x y : Int32} {off : Int} {tgt : Nat} (hd : decode Y.2.1 pc = .ok (.if_icmp .ge off, 3)) (ht : (pc : Int) + off = (tgt : Int)) (c0 : ¬ x < y) (K : gm_run g k Y tgt L st S r S2) : gm_run g k Y pc L (.int y :: .int x :: st) S r S2 :=
  fun h hk p l e s m args below meth c D ca ad A C H locs ls hS hL => lv_icmp_ge C.1 C.2.1 hd ht (fun _ => (K h hk p l e s m args below meth c D ca ad A C H locs ls hS hL)) (fun q => absurd (Int32.not_lt.mp c0) q)
theorem gm_icmp_ge_f {x y : Int32} {off : Int} (hd : decode Y.2.1 pc = .ok (.if_icmp .ge off, 3)) (ht : ∃ tgt : Nat, (pc : Int) + off = (tgt : Int)) (c0 : x < y) (K : gm_run g k Y (pc + 3) L st S r S2) : gm_run g k Y pc L (.int y :: .int x :: st) S r S2 := by
  obtain ⟨tgt, ht⟩ := ht
  exact fun h hk p l e s m args below meth c D ca ad A C H locs ls hS hL => lv_icmp_ge C.1 C.2.1 hd ht (fun q => absurd c0 (Int32.not_lt.mpr q)) (fun _ => (K h hk p l e s m args below meth c D ca ad A C H locs ls hS hL))
theorem gm_icmp_gt_t {x y : Int32} {off : Int} {tgt : Nat} (hd : decode Y.2.1 pc = .ok (.if_icmp .gt off, 3)) (ht : (pc : Int) + off = (tgt : Int)) (c0 : y < x) (K : gm_run g k Y tgt L st S r S2) : gm_run g k Y pc L (.int y :: .int x :: st) S r S2 :=
  fun h hk p l e s m args below meth c D ca ad A C H locs ls hS hL => lv_icmp_gt C.1 C.2.1 hd ht (fun _ => (K h hk p l e s m args below meth c D ca ad A C H locs ls hS hL)) (fun q => absurd c0 q)
theorem gm_icmp_gt_f {x y : Int32} {off : Int} (hd : decode Y.2.1 pc = .ok (.if_icmp .gt off, 3)) (ht : ∃ tgt : Nat, (pc : Int) + off = (tgt : Int)) (c0 : ¬ y < x) (K : gm_run g k Y (pc + 3) L st S r S2) : gm_run g k Y pc L (.int y :: .int x :: st) S r S2 := by
  obtain ⟨tgt, ht⟩ := ht
  exact fun h hk p l e s m args below meth c D ca ad A C H locs ls hS hL => lv_icmp_gt C.1 C.2.1 hd ht (fun q => absurd q c0) (fun _ => (K h hk p l e s m args below meth c D ca ad A C H locs ls hS hL))
theorem gm_icmp_le_t {x y : Int32} {off : Int} {tgt : Nat} (hd : decode Y.2.1 pc = .ok (.if_icmp .le off, 3)) (ht : (pc : Int) + off = (tgt : Int)) (c0 : ¬ y < x) (K : gm_run g k Y tgt L st S r S2) : gm_run g k Y pc L (.int y :: .int x :: st) S r S2 :=
  fun h hk p l e s m args below meth c D ca ad A C H locs ls hS hL => lv_icmp_le C.1 C.2.1 hd ht (fun _ => (K h hk p l e s m args below meth c D ca ad A C H locs ls hS hL)) (fun q => absurd (Int32.not_lt.mp c0) q)
theorem gm_icmp_le_f {x y : Int32} {off : Int} (hd : decode Y.2.1 pc = .ok (.if_icmp .le off, 3)) (ht : ∃ tgt : Nat, (pc : Int) + off = (tgt : Int)) (c0 : y < x) (K : gm_run g k Y (pc + 3) L st S r S2) : gm_run g k Y pc L (.int y :: .int x :: st) S r S2 := by
  obtain ⟨tgt, ht⟩ := ht
  exact fun h hk p l e s m args below meth c D ca ad A C H locs ls hS hL => lv_icmp_le C.1 C.2.1 hd ht (fun q => absurd c0 (Int32.not_lt.mpr q)) (fun _ => (K h hk p l e s m args below meth c D ca ad A C H locs ls hS hL))
theorem gm_if_eq_t {x : Int32} {off : Int} {tgt : Nat} (hd : decode Y.2.1 pc = .ok (.ifCond .eq off, 3)) (ht : (pc : Int) + off = (tgt : Int)) (c0 : x = 0) (K : gm_run g k Y tgt L st S r S2) : gm_run g k Y pc L (.int x :: st) S r S2 :=
  fun h hk p l e s m args below meth c D ca ad A C H locs ls hS hL => lv_if_eq C.1 C.2.1 hd ht (fun _ => (K h hk p l e s m args below meth c D ca ad A C H locs ls hS hL)) (fun q => absurd c0 q)
theorem gm_if_eq_f {x : Int32} {off : Int} (hd : decode Y.2.1 pc = .ok (.ifCond .eq off, 3)) (ht : ∃ tgt : Nat, (pc : Int) + off = (tgt : Int)) (c0 : ¬ x = 0) (K : gm_run g k Y (pc + 3) L st S r S2) : gm_run g k Y pc L (.int x :: st) S r S2 := by
  obtain ⟨tgt, ht⟩ := ht
  exact fun h hk p l e s m args below meth c D ca ad A C H locs ls hS hL => lv_if_eq C.1 C.2.1 hd ht (fun q => absurd q c0) (fun _ => (K h hk p l e s m args below meth c D ca ad A C H locs ls hS hL))
theorem gm_if_ne_t {x : Int32} {off : Int} {tgt : Nat} (hd : decode Y.2.1 pc = .ok (.ifCond .ne off, 3)) (ht : (pc : Int) + off = (tgt : Int)) (c0 : ¬ x = 0) (K : gm_run g k Y tgt L st S r S2) : gm_run g k Y pc L (.int x :: st) S r S2 :=
  fun h hk p l e s m args below meth c D ca ad A C H locs ls hS hL => lv_if_ne C.1 C.2.1 hd ht (fun _ => (K h hk p l e s m args below meth c D ca ad A C H locs ls hS hL)) (fun q => absurd q c0)
theorem gm_if_ne_f {x : Int32} {off : Int} (hd : decode Y.2.1 pc = .ok (.ifCond .ne off, 3)) (ht : ∃ tgt : Nat, (pc : Int) + off = (tgt : Int)) (c0 : x = 0) (K : gm_run g k Y (pc + 3) L st S r S2) : gm_run g k Y pc L (.int x :: st) S r S2 := by
  obtain ⟨tgt, ht⟩ := ht
  exact fun h hk p l e s m args below meth c D ca ad A C H locs ls hS hL => lv_if_ne C.1 C.2.1 hd ht (fun q => absurd c0 q) (fun _ => (K h hk p l e s m args below meth c D ca ad A C H locs ls hS hL))
theorem gm_if_lt_t {x : Int32} {off : Int} {tgt : Nat} (hd : decode Y.2.1 pc = .ok (.ifCond .lt off, 3)) (ht : (pc : Int) + off = (tgt : Int)) (c0 : x < 0) (K : gm_run g k Y tgt L st S r S2) : gm_run g k Y pc L (.int x :: st) S r S2 :=
  fun h hk p l e s m args below meth c D ca ad A C H locs ls hS hL => lv_if_lt C.1 C.2.1 hd ht (fun _ => (K h hk p l e s m args below meth c D ca ad A C H locs ls hS hL)) (fun q => absurd c0 q)
theorem gm_if_lt_f {x : Int32} {off : Int} (hd : decode Y.2.1 pc = .ok (.ifCond .lt off, 3)) (ht : ∃ tgt : Nat, (pc : Int) + off = (tgt : Int)) (c0 : ¬ x < 0) (K : gm_run g k Y (pc + 3) L st S r S2) : gm_run g k Y pc L (.int x :: st) S r S2 := by
  obtain ⟨tgt, ht⟩ := ht
  exact fun h hk p l e s m args below meth c D ca ad A C H locs ls hS hL => lv_if_lt C.1 C.2.1 hd ht (fun q => absurd q c0) (fun _ => (K h hk p l e s m args below meth c D ca ad A C H locs ls hS hL))
theorem gm_if_ge_t {x : Int32} {off : Int} {tgt : Nat} (hd : decode Y.2.1 pc = .ok (.ifCond .ge off, 3)) (ht : (pc : Int) + off = (tgt : Int)) (c0 : ¬ x < 0) (K : gm_run g k Y tgt L st S r S2) : gm_run g k Y pc L (.int x :: st) S r S2 :=
  fun h hk p l e s m args below meth c D ca ad A C H locs ls hS hL => lv_if_ge C.1 C.2.1 hd ht (fun _ => (K h hk p l e s m args below meth c D ca ad A C H locs ls hS hL)) (fun q => absurd (Int32.not_lt.mp c0) q)
theorem gm_if_ge_f {x : Int32} {off : Int} (hd : decode Y.2.1 pc = .ok (.ifCond .ge off, 3)) (ht : ∃ tgt : Nat, (pc : Int) + off = (tgt : Int)) (c0 : x < 0) (K : gm_run g k Y (pc + 3) L st S r S2) : gm_run g k Y pc L (.int x :: st) S r S2 := by
  obtain ⟨tgt, ht⟩ := ht
  exact fun h hk p l e s m args below meth c D ca ad A C H locs ls hS hL => lv_if_ge C.1 C.2.1 hd ht (fun q => absurd c0 (Int32.not_lt.mpr q)) (fun _ => (K h hk p l e s m args below meth c D ca ad A C H locs ls hS hL))
theorem gm_if_gt_t {x : Int32} {off : Int} {tgt : Nat} (hd : decode Y.2.1 pc = .ok (.ifCond .gt off, 3)) (ht : (pc : Int) + off = (tgt : Int)) (c0 : 0 < x) (K : gm_run g k Y tgt L st S r S2) : gm_run g k Y pc L (.int x :: st) S r S2 :=
  fun h hk p l e s m args below meth c D ca ad A C H locs ls hS hL => lv_if_gt C.1 C.2.1 hd ht (fun _ => (K h hk p l e s m args below meth c D ca ad A C H locs ls hS hL)) (fun q => absurd c0 q)
theorem gm_if_gt_f {x : Int32} {off : Int} (hd : decode Y.2.1 pc = .ok (.ifCond .gt off, 3)) (ht : ∃ tgt : Nat, (pc : Int) + off = (tgt : Int)) (c0 : ¬ 0 < x) (K : gm_run g k Y (pc + 3) L st S r S2) : gm_run g k Y pc L (.int x :: st) S r S2 := by
  obtain ⟨tgt, ht⟩ := ht
  exact fun h hk p l e s m args below meth c D ca ad A C H locs ls hS hL => lv_if_gt C.1 C.2.1 hd ht (fun q => absurd q c0) (fun _ => (K h hk p l e s m args below meth c D ca ad A C H locs ls hS hL))
theorem gm_if_le_t {x : Int32} {off : Int} {tgt : Nat} (hd : decode Y.2.1 pc = .ok (.ifCond .le off, 3)) (ht : (pc : Int) + off = (tgt : Int)) (c0 : ¬ 0 < x) (K : gm_run g k Y tgt L st S r S2) : gm_run g k Y pc L (.int x :: st) S r S2 :=
  fun h hk p l e s m args below meth c D ca ad A C H locs ls hS hL => lv_if_le C.1 C.2.1 hd ht (fun _ => (K h hk p l e s m args below meth c D ca ad A C H locs ls hS hL)) (fun q => absurd (Int32.not_lt.mp c0) q)
theorem gm_if_le_f {x : Int32} {off : Int} (hd : decode Y.2.1 pc = .ok (.ifCond .le off, 3)) (ht : ∃ tgt : Nat, (pc : Int) + off = (tgt : Int)) (c0 : 0 < x) (K : gm_run g k Y (pc + 3) L st S r S2) : gm_run g k Y pc L (.int x :: st) S r S2 := by
  obtain ⟨tgt, ht⟩ := ht
  exact fun h hk p l e s m args below meth c D ca ad A C H locs ls hS hL => lv_if_le C.1 C.2.1 hd ht (fun q => absurd c0 (Int32.not_lt.mpr q)) (fun _ => (K h hk p l e s m args below meth c D ca ad A C H locs ls hS hL))
theorem gm_nonnull_t {x : Nat} {off : Int} {tgt : Nat} (hd : decode Y.2.1 pc = .ok (.ifnonnull off, 3)) (ht : (pc : Int) + off = (tgt : Int)) (K : gm_run g k Y tgt L st S r S2) : gm_run g k Y pc L (.ref x :: st) S r S2 :=
  fun h hk p l e s m args below meth c D ca ad A C H locs ls hS hL => lv_ifnonnull C.1 C.2.1 hd ht (K h hk p l e s m args below meth c D ca ad A C H locs ls hS hL)
theorem gm_nonnull_f {off : Int} (hd : decode Y.2.1 pc = .ok (.ifnonnull off, 3)) (K : gm_run g k Y (pc + 3) L st S r S2) : gm_run g k Y pc L (.null :: st) S r S2 :=
  fun h hk p l e s m args below meth c D ca ad A C H locs ls hS hL => lv_ifnonnullN C.1 C.2.1 hd (K h hk p l e s m args below meth c D ca ad A C H locs ls hS hL)
theorem gm_tabIn {dflt lo hi : Int} {offs : Array Int} {len : Nat} {x : Int32} {off : Int} {tgt : Nat} (hd : decode Y.2.1 pc = .ok (.tableswitch dflt lo hi offs, len)) (h1 : ¬ x.toInt < lo) (h2 : ¬ hi < x.toInt) (ho : offs[(x.toInt - lo).toNat]? = some off) (ht : (pc : Int) + off = (tgt : Int)) (K : gm_run g k Y tgt L st S r S2) : gm_run g k Y pc L (.int x :: st) S r S2 :=
  fun h hk p l e s m args below meth c D ca ad A C H locs ls hS hL => lv_tableIn C.1 C.2.1 hd h1 h2 ho ht (K h hk p l e s m args below meth c D ca ad A C H locs ls hS hL)
theorem gm_tabOut {dflt lo hi : Int} {offs : Array Int} {len : Nat} {x : Int32} {tgt : Nat} (hd : decode Y.2.1 pc = .ok (.tableswitch dflt lo hi offs, len)) (h1 : x.toInt < lo ∨ hi < x.toInt) (ht : (pc : Int) + dflt = (tgt : Int)) (K : gm_run g k Y tgt L st S r S2) : gm_run g k Y pc L (.int x :: st) S r S2 :=
  fun h hk p l e s m args below meth c D ca ad A C H locs ls hS hL => lv_tableOut C.1 C.2.1 hd h1 ht (K h hk p l e s m args below meth c D ca ad A C H locs ls hS hL)
theorem gm_look {dflt : Int} {ps : Array (Int × Int)} {len : Nat} {x : Int32} {off : Int} {tgt : Nat} (hd : decode Y.2.1 pc = .ok (.lookupswitch dflt ps, len)) (hp : (ps.toList.zip (ps.toList.drop 1)).all (fun (a, next) => a.1 < next.1) = true) (ho : Op.lookupswitch.offset ps.toList dflt x.toInt = off) (ht : (pc : Int) + off = (tgt : Int)) (K : gm_run g k Y tgt L st S r S2) : gm_run g k Y pc L (.int x :: st) S r S2 :=
  fun h hk p l e s m args below meth c D ca ad A C H locs ls hS hL => lv_lookup C.1 C.2.1 hd hp ho ht (K h hk p l e s m args below meth c D ca ad A C H locs ls hS hL)
/-- a field of the tables: the link from own's pool, class number, place of the field, its type, final or not -/
def gm_Fld (own : String) (idx ci k : Nat) (ty : FieldType) (fin : Bool) : Prop := ∃ (C : String) (T : u_T) (N : Nat) (ty0 : Nat → FieldType), vwCl[ci]? = some (C, T, N) ∧ k < N ∧ Cond.fieldLink own idx C (T k).2.1 (T k).2.2.1 ∈ gm_TB ∧ (T k).1 = C ∧ (∀ w ∈ u_ws C T N, w ∈ gm_TB) ∧ (∀ j, j < N → parseFieldDescriptor (T j).2.2.1 = some (ty0 j)) ∧ (∀ a, a < N → ∀ b, b < N → a ≠ b → (T a).2.1 ≠ (T b).2.1) ∧ ty0 k = ty ∧ (T k).2.2.2 = fin
theorem gm_getI {p0 i ci f : Nat} {ty : FieldType} {fin : Bool} {fl : List (Option Nat)} {own : String} {x : Int32} (ho : Y.1.cls = own) (hd : decode Y.2.1 pc = .ok (.getfield i, 3)) (hf : gm_Fld own i ci f ty fin) (hs : g[p0]? = some (.inl (ci, fl))) (hk : fl[f]? = some none) (hx : S p0 f = x) (K : gm_run g k Y (pc + 3) L (.int x :: st) S r S2) : gm_run g k Y pc L (.ref p0 :: st) S r S2 := by
  intro h hk2 p l e s m args below meth c D ca ad A C H locs ls hS hL
  obtain ⟨C1, T, N, ty0, e1, e2, e3, e4, e5, e6, e7, e8, e9⟩ := hf
  refine va_get (D := D) (q0 := p0) (ci := ci) (v := .int x) (C := C1) (T := T) (N := N) (own := own) C.1 C.2.1 C.2.2.2.2.2.1 e5 (by rw [← ho]; exact C.2.2.2.2.1) C.2.2.2.2.2.2.1 hS.1 (gm_Ws_get hs) e1 f e2 (C.2.2.2.2.2.1 _ e3) (fun z hz => by rw [← e4]; exact hz) ?_ hd (K h hk2 p l e s m args below meth c D ca ad A C H locs ls hS hL)
  rw [gm_Fs_get ad (S p0) fl 0 f hk, Nat.zero_add, hx]
theorem gm_getR {p0 i ci f q : Nat} {ty : FieldType} {fin : Bool} {fl : List (Option Nat)} {own : String} (ho : Y.1.cls = own) (hd : decode Y.2.1 pc = .ok (.getfield i, 3)) (hf : gm_Fld own i ci f ty fin) (hs : g[p0]? = some (.inl (ci, fl))) (hk : fl[f]? = some (some q)) (K : gm_run g k Y (pc + 3) L (.ref q :: st) S r S2) : gm_run g k Y pc L (.ref p0 :: st) S r S2 := by
  intro h hk2 p l e s m args below meth c D ca ad A C H locs ls hS hL
  obtain ⟨C1, T, N, ty0, e1, e2, e3, e4, e5, e6, e7, e8, e9⟩ := hf
  refine va_get (D := D) (q0 := p0) (ci := ci) (v := .ref (ad q)) (C := C1) (T := T) (N := N) (own := own) C.1 C.2.1 C.2.2.2.2.2.1 e5 (by rw [← ho]; exact C.2.2.2.2.1) C.2.2.2.2.2.2.1 hS.1 (gm_Ws_get hs) e1 f e2 (C.2.2.2.2.2.1 _ e3) (fun z hz => by rw [← e4]; exact hz) ?_ hd (K h hk2 p l e s m args below meth c D ca ad A C H locs ls hS hL)
  exact gm_Fs_getR ad (S p0) fl 0 f q hk
/-- what a store keeps -/
def gm_fit (ty : FieldType) (x : Int32) : Prop := narrow ty (.int x) = .int x ∧ fits ty (.int x) = true
theorem gm_fit_int (x : Int32) : gm_fit .int x := ⟨rfl, rfl⟩
theorem gm_fit_0 : gm_fit .boolean 0 := ⟨rfl, rfl⟩
theorem gm_fit_1 : gm_fit .boolean 1 := ⟨rfl, rfl⟩
theorem gm_put {p0 i ci f : Nat} {ty : FieldType} {fl : List (Option Nat)} {own : String} {x : Int32} (ho : Y.1.cls = own) (hd : decode Y.2.1 pc = .ok (.putfield i, 3)) (hf : gm_Fld own i ci f ty false) (hs : g[p0]? = some (.inl (ci, fl))) (hk : fl[f]? = some none) (hx : gm_fit ty x) (K : gm_run g k Y (pc + 3) L st (gm_u S p0 f x) r S2) : gm_run g k Y pc L (.int x :: .ref p0 :: st) S r S2 := by
  intro h hk2 p l e s m args below meth c D ca ad A C H locs ls hS hL
  obtain ⟨C1, T, N, ty0, e1, e2, e3, e4, e5, e6, e7, e8, e9⟩ := hf
  obtain ⟨s1, s2, s3, s4⟩ := hS
  have hfl : f < fl.length := (List.getElem?_eq_some_iff.mp hk).1
  refine va_put (D := D) (q0 := p0) (ci := ci) (v := .int x) (ty := ty) (C := C1) (T := T) (N := N) (own := own) C.1 C.2.1 C.2.2.2.2.2.1 e5 ty0 e6 e7 (by rw [← ho]; exact C.2.2.2.2.1) C.2.2.2.2.2.2.1 s1 (s2.to ca S) s3 (gm_Ws_get hs) e1 f e2 (C.2.2.2.2.2.1 _ e3) (fun z hz => by rw [← e4]; exact hz) e9 (by rw [e6 f e2, e8]) hx.1 hx.2 (by rw [gm_Fs_len]; exact hfl) hd (fun H1 locs1 hP1 hD1 hS1 => ?_)
  rw [gm_Fs_set ad (S p0) x fl 0 f hk, Nat.zero_add] at hP1
  have hP2 : va_P D vwCl ((gm_Ws ca ad S g).set p0 (ad p0, gm_Cel ca ad (upd (S p0) f x) (.inl (ci, fl)))) H1 := hP1
  rw [gm_Ws_set hs] at hP2
  exact K h hk2 p l e s m args below meth c D ca ad A C H1 locs1 ls ⟨by rw [gm_u_eq]; exact hP2, s2, hS1, s4⟩ hL
/-- an index -/
def gm_ix (i : Int32) (j n : Nat) : Prop := i.toInt = (j : Int) ∧ j < n
theorem gm_ix.in {i : Int32} {j n : Nat} (h : gm_ix i j n) : vp_in i n ∧ i.toNatClampNeg = j := by
  have h1 : i.toNatClampNeg = j := by
    have := Int32.toNat_toInt i
    rw [h.1] at this
    simpa using this.symm
  refine ⟨?_, h1⟩
  rw [vp_in_iff, h.1]
  have := h.2
  omega
theorem gm_iald {p0 j n : Nat} {i x : Int32} (hd : decode Y.2.1 pc = .ok (.iaload, 1)) (hs : g[p0]? = some (.inr (0, n))) (hi : gm_ix i j n) (hx : S p0 j = x) (K : gm_run g k Y (pc + 1) L (.int x :: st) S r S2) : gm_run g k Y pc L (.int i :: .ref p0 :: st) S r S2 := by
  intro h hk2 p l e s m args below meth c D ca ad A C H locs ls hS hL
  refine va_iald (D := D) (q0 := p0) (t0 := 0) (n := n) (f := S p0) (i := i) C.1 C.2.1 C.2.2.2.2.2.2.1 hS.1 (gm_Ws_get hs) rfl hi.in.1 hd ?_
  rw [hi.in.2, hx]
  exact K h hk2 p l e s m args below meth c D ca ad A C H locs ls hS hL
theorem gm_zald {p0 j n : Nat} {i x : Int32} (hd : decode Y.2.1 pc = .ok (.baload, 1)) (hs : g[p0]? = some (.inr (1, n))) (hi : gm_ix i j n) (hx : S p0 j = x) (K : gm_run g k Y (pc + 1) L (.int x :: st) S r S2) : gm_run g k Y pc L (.int i :: .ref p0 :: st) S r S2 := by
  intro h hk2 p l e s m args below meth c D ca ad A C H locs ls hS hL
  refine va_zald (D := D) (q0 := p0) (t0 := 1) (n := n) (f := S p0) (i := i) C.1 C.2.1 C.2.2.2.2.2.2.1 hS.1 (gm_Ws_get hs) rfl hi.in.1 hd ?_
  rw [hi.in.2, hx]
  exact K h hk2 p l e s m args below meth c D ca ad A C H locs ls hS hL
theorem gm_iast {p0 j n : Nat} {i x : Int32} (hd : decode Y.2.1 pc = .ok (.iastore, 1)) (hs : g[p0]? = some (.inr (0, n))) (hi : gm_ix i j n) (K : gm_run g k Y (pc + 1) L st (gm_u S p0 j x) r S2) : gm_run g k Y pc L (.int x :: .int i :: .ref p0 :: st) S r S2 := by
  intro h hk2 p l e s m args below meth c D ca ad A C H locs ls hS hL
  obtain ⟨s1, s2, s3, s4⟩ := hS
  refine va_iast (D := D) (q0 := p0) (t0 := 0) (n := n) (f := S p0) (i := i) (x := x) C.1 C.2.1 C.2.2.2.2.2.2.1 s1 (s2.to ca S) s3 (gm_Ws_get hs) rfl hi.in.1 hd (fun H1 locs1 hP1 hD1 hS1 => ?_)
  rw [hi.in.2] at hP1
  have hP2 : va_P D vwCl ((gm_Ws ca ad S g).set p0 (ad p0, gm_Cel ca ad (upd (S p0) j x) (.inr (0, n)))) H1 := hP1
  rw [gm_Ws_set hs] at hP2
  exact K h hk2 p l e s m args below meth c D ca ad A C H1 locs1 ls ⟨by rw [gm_u_eq]; exact hP2, s2, hS1, s4⟩ hL
theorem gm_zast {p0 j n : Nat} {i x : Int32} (hd : decode Y.2.1 pc = .ok (.bastore, 1)) (hs : g[p0]? = some (.inr (1, n))) (hi : gm_ix i j n) (hx : gm_fit .boolean x) (K : gm_run g k Y (pc + 1) L st (gm_u S p0 j x) r S2) : gm_run g k Y pc L (.int x :: .int i :: .ref p0 :: st) S r S2 := by
  intro h hk2 p l e s m args below meth c D ca ad A C H locs ls hS hL
  obtain ⟨s1, s2, s3, s4⟩ := hS
  refine va_zast (D := D) (q0 := p0) (t0 := 1) (n := n) (f := S p0) (i := i) (x := x) C.1 C.2.1 C.2.2.2.2.2.2.1 s1 (s2.to ca S) s3 (gm_Ws_get hs) rfl hi.in.1 hd (fun H1 locs1 hP1 hD1 hS1 => ?_)
  have hn : vp_nar .boolean x = x := by unfold vp_nar; rw [hx.1]
  rw [hi.in.2, hn] at hP1
  have hP2 : va_P D vwCl ((gm_Ws ca ad S g).set p0 (ad p0, gm_Cel ca ad (upd (S p0) j x) (.inr (1, n)))) H1 := hP1
  rw [gm_Ws_set hs] at hP2
  exact K h hk2 p l e s m args below meth c D ca ad A C H1 locs1 ls ⟨by rw [gm_u_eq]; exact hP2, s2, hS1, s4⟩ hL
theorem gm_aald {p0 j n q : Nat} {i : Int32} (hd : decode Y.2.1 pc = .ok (.aaload, 1)) (hs : g[p0]? = some (.inr (2, n))) (hi : gm_ix i j n) (hx : (S p0 j).toNatClampNeg = q) (K : gm_run g k Y (pc + 1) L (.ref q :: st) S r S2) : gm_run g k Y pc L (.int i :: .ref p0 :: st) S r S2 := by
  intro h hk2 p l e s m args below meth c D ca ad A C H locs ls hS hL
  refine va_aldq (D := D) (q0 := p0) (t0 := 2) (n := n) (f := fun i => some (ad (S p0 i).toNatClampNeg)) (i := i) C.1 C.2.1 C.2.2.2.2.2.2.1 hS.1 (gm_Ws_get hs) rfl hi.in.1 hd ?_
  show W p l e (gm_R h) s m args below meth c H locs 0 0 _ (F0 m (pc + 1) ls (.ref (ad (S p0 i.toNatClampNeg).toNatClampNeg) :: st.map (gm_V ad)))
  rw [hi.in.2, hx]
  exact K h hk2 p l e s m args below meth c D ca ad A C H locs ls hS hL
theorem gm_aast {p0 j n q : Nat} {i x : Int32} {fl : List (Option Nat)} (hd : decode Y.2.1 pc = .ok (.aastore, 1)) (hs : g[p0]? = some (.inr (2, n))) (hq : g[q]? = some (.inl (5, fl))) (hi : gm_ix i j n) (hx : x.toNatClampNeg = q) (K : gm_run g k Y (pc + 1) L st (gm_u S p0 j x) r S2) : gm_run g k Y pc L (.ref q :: .int i :: .ref p0 :: st) S r S2 := by
  intro h hk2 p l e s m args below meth c D ca ad A C H locs ls hS hL
  obtain ⟨s1, s2, s3, s4⟩ := hS
  refine va_astq (D := D) (q0 := p0) (t0 := 2) (qk := q) (ci := 5) (r := (RX5, TX5, 9)) (n := n) (f := fun i => some (ad (S p0 i).toNatClampNeg)) (i := i) (v := ad q) C.1 C.2.1 C.2.2.2.2.2.2.1 s1 (s2.to ca S) s3 (gm_Ws_get hs) rfl (gm_Ws_get hq) rfl hi.in.1 hd (fun H1 locs1 hP1 hD1 hS1 => ?_)
  rw [hi.in.2] at hP1
  have he : (va_up (fun i => some (ad (S p0 i).toNatClampNeg)) j (some (ad q))) = (fun i => some (ad (upd (S p0) j x i).toNatClampNeg)) := by
    funext i
    by_cases e : i = j
    · subst e
      simp [va_up, upd, hx]
    · simp [va_up, upd, e]
  rw [he] at hP1
  have hP2 : va_P D vwCl ((gm_Ws ca ad S g).set p0 (ad p0, gm_Cel ca ad (upd (S p0) j x) (.inr (2, n)))) H1 := hP1
  rw [gm_Ws_set hs] at hP2
  exact K h hk2 p l e s m args below meth c D ca ad A C H1 locs1 ls ⟨by rw [gm_u_eq]; exact hP2, s2, hS1, s4⟩ hL
theorem gm_alen {p0 n : Nat} {x : Int32} (hd : decode Y.2.1 pc = .ok (.arraylength, 1)) (hs : g[p0]? = some (.inr (0, n))) (hx : Int32.ofNat n = x) (K : gm_run g k Y (pc + 1) L (.int x :: st) S r S2) : gm_run g k Y pc L (.ref p0 :: st) S r S2 := by
  intro h hk2 p l e s m args below meth c D ca ad A C H locs ls hS hL
  exact va_alen (D := D) (q0 := p0) (t0 := 0) (ty := .int) C.1 C.2.1 C.2.2.2.2.2.2.1 hS.1 (gm_Ws_get hs) rfl hx hd (K h hk2 p l e s m args below meth c D ca ad A C H locs ls hS hL)
theorem gm_iret {v : Int32} (hd : decode Y.2.1 pc = .ok (.ireturn, 1)) (hr : Y.2.2.2 = some .int) : gm_run g k Y pc L [.int v] S (some (.int v)) S := by
  intro h hk p l e s m args below meth c D ca ad A C H locs ls hS hL
  exact W.iret C.1 C.2.1 (by rw [C.2.2.1, hr]) (fun t ht hW => ⟨rfl, by rw [ht]; exact hS.1, hS.2.2.1.F ht⟩) hS.2.2.1.2.2 hd C.2.2.2.2.2.2.2
theorem gm_zret {v : Int32} (hd : decode Y.2.1 pc = .ok (.ireturn, 1)) (hr : Y.2.2.2 = some .boolean) (hv : gm_fit .boolean v) : gm_run g k Y pc L [.int v] S (some (.int v)) S := by
  intro h hk p l e s m args below meth c D ca ad A C H locs ls hS hL
  exact W.zret C.1 C.2.1 (by rw [C.2.2.1, hr]) hv.1 (fun t ht hW => ⟨rfl, by rw [ht]; exact hS.1, hS.2.2.1.F ht⟩) hS.2.2.1.2.2 hd C.2.2.2.2.2.2.2
theorem gm_vret (hd : decode Y.2.1 pc = .ok (.return_, 1)) (hr : Y.2.2.2 = none) : gm_run g k Y pc L [] S none S := by
  intro h hk p l e s m args below meth c D ca ad A C H locs ls hS hL
  exact W.vret C.1 C.2.1 (by rw [C.2.2.1, hr]) (fun t ht hW => ⟨rfl, by rw [ht]; exact hS.1, hS.2.2.1.F ht⟩) hS.2.2.1.2.2 hd C.2.2.2.2.2.2.2
theorem gm_aret {q : Nat} {cn : String} (hd : decode Y.2.1 pc = .ok (.areturn, 1)) (hr : Y.2.2.2 = some (.object cn)) : gm_run g k Y pc L [.ref q] S (some (.ref q)) S := by
  intro h hk p l e s m args below meth c D ca ad A C H locs ls hS hL
  exact W.aret (v := .ref (ad q)) C.1 C.2.1 (by rw [C.2.2.1, hr]) (Or.inl ⟨_, rfl⟩) (Or.inr ⟨_, rfl⟩) (fun t ht hW => ⟨rfl, by rw [ht]; exact hS.1, hS.2.2.1.F ht⟩) hS.2.2.1.2.2 hd C.2.2.2.2.2.2.2
theorem gm_nret {cn : String} (hd : decode Y.2.1 pc = .ok (.areturn, 1)) (hr : Y.2.2.2 = some (.object cn)) : gm_run g k Y pc L [.null] S (some .null) S := by
  intro h hk p l e s m args below meth c D ca ad A C H locs ls hS hL
  exact W.aret (v := .null) C.1 C.2.1 (by rw [C.2.2.1, hr]) (Or.inl ⟨_, rfl⟩) (Or.inl rfl) (fun t ht hW => ⟨rfl, by rw [ht]; exact hS.1, hS.2.2.1.F ht⟩) hS.2.2.1.2.2 hd C.2.2.2.2.2.2.2
/-- a method's entry: its arguments, then unset locals -/
def gm_ent (n : Nat) (As : List Value) : List (Option Value) := As.map some ++ List.replicate (n - As.length) none
def gm_Mv (Y : gm_Y) (n : Nat) : Prop := Cond.instanceMethod Y.1 ∈ gm_TB ∧ Cond.selects Y.1.cls Y.1 Y.1 ∈ gm_TB ∧ Cond.initialized Y.1.cls ∈ gm_TB ∧ Cond.code Y.1 Y.2.1 Y.2.2.1 Y.2.2.2 ∈ gm_TB ∧ plainName Y.1.cls = true ∧ (Y.1.cls ≠ "java/lang/invoke/MethodHandle" ∧ Y.1.cls ≠ "java/lang/invoke/VarHandle") ∧ Y.2.2.1 ≤ 17 ∧ (parseMethodDescriptor Y.1.desc).map (fun d => d.parameters.length) = some n ∧ n + 1 ≤ Y.2.2.1
def gm_Ms (Y : gm_Y) (n : Nat) : Prop := Cond.static Y.1 ∈ gm_TB ∧ Cond.initialized Y.1.cls ∈ gm_TB ∧ Cond.code Y.1 Y.2.1 Y.2.2.1 Y.2.2.2 ∈ gm_TB ∧ plainName Y.1.cls = true ∧ (Y.1.cls ≠ "java/lang/invoke/MethodHandle" ∧ Y.1.cls ≠ "java/lang/invoke/VarHandle") ∧ Y.2.2.1 ≤ 17 ∧ (parseMethodDescriptor Y.1.desc).map (fun d => d.parameters.length) = some n ∧ n ≤ Y.2.2.1
end GM
theorem gm_sl_len (ad : Nat → Nat) : ∀ (As : List Value), (lg_sl (As.map (gm_V ad))).length = As.length
  | [] => rfl
  | v :: As => by
    have h := gm_sl_len ad As
    have hc : ¬ (gm_V ad v).category = 2 := by rw [gm_Vcat]; decide
    simp only [lg_sl, List.map_cons, List.flatMap_cons, hc, if_false, List.length_append, List.length_cons, List.length_nil] at h ⊢
    omega
theorem gm_args_in (ad : Nat → Nat) : ∀ (As : List Value) (o i : Nat) (v : Value), As[i]? = some v → (o + i, gm_V ad v) ∈ lv_args o (As.map (gm_V ad))
  | [], o, i, v, e => by simp at e
  | a :: As, o, 0, v, e => by
    simp at e
    subst e
    simp [lv_args]
  | a :: As, o, i + 1, v, e => by
    have h := gm_args_in ad As (o + 1) i v (by simpa using e)
    have hc : ¬ (gm_V ad a).category = 2 := by rw [gm_Vcat]; decide
    simp only [List.map_cons, lv_args, hc, if_false]
    rw [show o + (i + 1) = o + 1 + i by omega]
    exact List.mem_cons_of_mem _ h
def gm_Pc (g : gm_W) (D : va_G) (ca : gm_Ar) (ad : Nat → Nat) (A : Nat → Prop) (As : List Value) (S : gm_Mem) : Array Value → State → Prop :=
  fun v U => v = (As.map (gm_V ad)).toArray ∧ va_P D vwCl (gm_Ws ca ad S g) U.heap ∧ va_K D vwCl (gm_Ty ca) U ∧ gm_D g ad A ∧ ∀ q : Nat, U.heap.size ≤ q → A q
abbrev gm_wd (Y : gm_Y) : List Cond := Cond.code Y.1 Y.2.1 Y.2.2.1 Y.2.2.2 :: gm_TB
theorem gm_met {g : gm_W} {k : Nat} {Y : gm_Y} {As : List Value} {S S2 : gm_Mem} {r : Option Value} (l : Launch) (D : va_G) (ca : gm_Ar) (ad : Nat → Nat) (A : Nat → Prop) (hp : plainName Y.1.cls = true) (hn : As.length ≤ Y.2.2.1) (hc : gm_run g k Y 0 (gm_ent Y.2.2.1 As) [] S r S2) :
    Met l Y.1 (gm_wd Y) (gm_R k) (gm_Pc g D ca ad A As S) (gm_Q g ca D ad A r S2) 0 0 A := by
  refine Met.ofW (cc := Y.2.1) (maxL := Y.2.2.1) (ret := Y.2.2.2) hp rfl ?_
  intro p e s m args below meth c s₁ B hml hv
  obtain ⟨rfl, hP, hK, hD, hA⟩ := hv
  have hts := atoms_spec (ws := gm_wd Y) B.pre
  have hl := lv_entry (As.map (gm_V ad)) (n := Y.2.2.1) (by rw [gm_sl_len]; exact hn)
  rw [lg_entry_eq]
  refine hc k (Nat.le_refl k) p l e s m _ below meth c D ca ad A ⟨B.exec, B.bytes, B.returns, hml, findClass_of_methodNamed B.named, fun w hw => hts w (List.mem_cons_of_mem _ hw), hK, B.notSynchronized⟩ s.heap [] _ ⟨hP, hD, va_S.rf, hA⟩ ⟨_, hl, fun i v hi => ?_⟩
  unfold gm_ent at hi
  by_cases hlt : i < As.length
  · rw [List.getElem?_append_left (by simpa using hlt), List.getElem?_map] at hi
    cases ha : As[i]? with
    | none => rw [ha] at hi; cases hi
    | some w =>
      rw [ha] at hi
      have hw : w = v := Option.some.inj (Option.some.inj hi)
      subst hw
      have := gm_args_in ad As 0 i w ha
      rw [Nat.zero_add] at this
      exact this
  · rw [List.getElem?_append_right (by simpa using Nat.not_lt.mp hlt), List.getElem?_replicate] at hi
    split at hi <;> cases hi
theorem gm_blind {g : gm_W} {D : va_G} {ca : gm_Ar} {ad : Nat → Nat} {A : Nat → Prop} {As : List Value} {S : gm_Mem} : FrameBlind (gm_Pc g D ca ad A As S) :=
  fun a U f mk q => ⟨q.1, q.2.1, va_K.moved (u := U) (U := U.calling f mk a) (Vm.Alike.refl U.vm) q.2.2.1, q.2.2.2.1, q.2.2.2.2⟩
theorem gm_back {g : gm_W} {k : Nat} {Y : gm_Y} {As : List Value} {S S2 : gm_Mem} {r : Option Value} {l : Launch} {R : Room} {p : Program} {e : Env} {below : List Frame} {s : State} {args : Array Value} {wo : Nat} (D : va_G) (ca : gm_Ar) (ad : Nat → Nat) (A : Nat → Prop)
    (hts : ∀ w ∈ gm_TB, w.before args s = true) (hcode : Cond.code Y.1 Y.2.1 Y.2.2.1 Y.2.2.2 ∈ gm_TB) (hini : Cond.initialized Y.1.cls ∈ gm_TB) (hp : plainName Y.1.cls = true) (hn : As.length ≤ Y.2.2.1) (hf : k + 1 ≤ R.frames) (hl : wo + (Y.2.2.1 + 11) + 40 * k ≤ R.locals)
    (hc : gm_run g k Y 0 (gm_ent Y.2.2.1 As) [] S r S2) : Back l R p e below s args Y.1 3 wo (PreOf R 0 0 (gm_Pc g D ca ad A As S)) (PostOf (gm_Q g ca D ad A r S2) 0 0 A) := by
  have hG : GoodIn gm_TB (gm_wd Y) := gm_good (fun w hw => (List.mem_cons.mp hw).elim (fun q => by rw [q]; exact hcode) id)
  exact back_of (ws := gm_wd Y) (rm := gm_R k) (bytes := Y.2.1) (maxL := Y.2.2.1) (ret := Y.2.2.2) (gm_met l D ca ad A hp hn hc) gm_blind rfl rfl hf hl (pay_in hts hG) List.mem_cons_self
    (fun a' U hW => word_at hW (Or.inl (by first | rfl | simp [Cond.onTables, Cond.keeps, Cond.steady])) (hts _ hini))
theorem gm_sum (ad : Nat → Nat) : ∀ (st : List Value), ((st.map (gm_V ad)).map fun v => v.category).sum = st.length
  | [] => rfl
  | v :: st => by
    have h := gm_sum ad st
    simp only [List.map_cons, List.sum_cons, List.length_cons, gm_Vcat] at h ⊢
    omega
section GM2
variable {g : gm_W} {k : Nat} {Y : gm_Y} {pc : Nat} {L : List (Option Value)} {st : List Value} {S : gm_Mem} {r : Option Value} {S2 : gm_Mem}
theorem gm_callV {k1 i b ci n : Nat} {Y1 : gm_Y} {As st0 st1 rest : List Value} {L1 : List (Option Value)} {r1 : Option Value} {S1 : gm_Mem} {fl : List (Option Nat)} {own : String} (ho : Y.1.cls = own) (hd : decode Y.2.1 pc = .ok (.invokevirtual i, 3)) (hl : Cond.methodLink own i Y1.1 ∈ gm_TB) (hm : gm_Mv Y1 n) (hs : g[b]? = some (.inl (ci, fl))) (hcl : (vwCl[ci]?).map (fun q => q.1) = some Y1.1.cls)
    (As : List Value) (rest : List Value) (hst : st0 = As.reverse ++ .ref b :: rest) (hn : As.length = n) (hre : rest.length ≤ 12) (hk : k1 + 1 ≤ k) (hL1 : gm_ent Y1.2.2.1 (.ref b :: As) = L1) (hc : gm_run g k1 Y1 0 L1 [] S r1 S1) (hst1 : r1.toList ++ rest = st1)
    (K : gm_run g k Y (pc + 3) L st1 S1 r S2) : gm_run g k Y pc L st0 S r S2 := by
  intro h hkh p l e s m args below meth c D ca ad A C H locs ls hS hL
  subst hL1
  subst hst1
  subst hst
  obtain ⟨m1, m2, m3, m4, m5, m6, m7, m8, m9⟩ := hm
  obtain ⟨x1, x2, x3, x4, x5, x6, x7, x8⟩ := id C
  obtain ⟨s1, s2, s3, s4⟩ := hS
  have hAH : ∀ q : Nat, H.size ≤ q → A q := fun q hq => s4 q (Nat.le_trans s3.1 hq)
  obtain ⟨q', hq'⟩ : ∃ q', vwCl[ci]? = some q' := by
    cases hv : vwCl[ci]? with
    | none => rw [hv] at hcl; cases hcl
    | some q' => exact ⟨q', rfl⟩
  have hq1 : q'.1 = Y1.1.cls := by rw [hq'] at hcl; exact Option.some.inj hcl
  obtain ⟨cell, c1, c2, c3⟩ := va_recv x7 s1 hq' (gm_Ws_get hs)
  have hlen : (Value.ref b :: As).length ≤ Y1.2.2.1 := by simp; omega
  have hB := gm_back (l := l) (R := gm_R h) (p := p) (e := e) (below := below) (s := s) (args := args) (wo := 12) D ca ad A x6 m4 m3 m5 hlen (by show k1 + 1 ≤ h; omega) (by show 12 + (Y1.2.2.1 + 11) + 40 * k1 ≤ 40 * h; omega) hc
  intro T hT X
  have hstk : (F0 m pc ls ((As.reverse ++ Value.ref b :: rest).map (gm_V ad))).stack = (As.map (gm_V ad)).reverse ++ .ref (ad b) :: rest.map (gm_V ad) := by
    show (As.reverse ++ Value.ref b :: rest).map (gm_V ad) = _
    rw [List.map_append, List.map_reverse, List.map_cons]
    rfl
  have hsz : (F0 m pc ls ((As.reverse ++ Value.ref b :: rest).map (gm_V ad))).locals.size = c.maxLocals := by
    rw [x4]
    obtain ⟨lv, h1, -⟩ := hL
    exact h1.1
  obtain ⟨v, vm₁, ⟨U', l2, cc2, ss2⟩, hW₁, X', ⟨g', mk, t, LL, e1, e2, hq, h1, hLL, h2, h3⟩, stp⟩ := callV X x1 (C := q'.1) (bytes := Y1.2.1) (maxL := Y1.2.2.1) (ret := Y1.2.2.2) (by rw [← ho]; exact x5) (x6 _ hl) (x6 _ m1) (by rw [hq1]; exact x6 _ m2) (x6 _ m4) m6 hB (by rw [hT]; exact c1) c2 c3 (g := F0 m pc ls ((As.reverse ++ Value.ref b :: rest).map (gm_V ad))) rfl hsz (argsL := As.map (gm_V ad)) (rest := rest.map (gm_V ad))
    (fun sig hsg => by rw [hsg] at m8; rw [List.length_map, hn]; exact (Option.some.inj m8).symm) hstk (by show 2 * 0 + _ ≤ 12; rw [gm_sum]; omega) (by rw [x2]; exact hd)
    (fun vm1 hW => ⟨Nat.le_refl 0, Nat.le_refl 0, rfl, by show va_P D vwCl _ T.heap; rw [hT]; exact s1, va_K.moved hW.alike x7, s2, by show ∀ q : Nat, T.heap.size ≤ q → A q; rw [hT]; exact hAH⟩)
  dsimp only [Pt.U, Pt.locs, Pt.cells, Pt.slots] at X' e1 e2 h1 h2 h3 stp
  subst h1; subst h2; subst h3
  obtain ⟨ho1, hP1, hF1⟩ := hq
  have hv : v = r1.map (gm_V ad) := by injection ho1
  subst hv
  have hsH : ((T.setVm vm₁).calling g' mk (Value.ref (ad b) :: As.map (gm_V ad)).toArray).heap = H := hT
  rw [va_F, hsH] at hF1
  obtain ⟨t2, a1, b1⟩ := K h hkh p l e s m args below meth c D ca ad A C U'.heap (locs ++ LL) ls ⟨by rw [e1]; exact hP1, s2, ⟨Nat.le_trans s3.1 (by rw [e1]; exact hF1.1), fun q h1 h2 => by rw [e1, hF1.2 q (Nat.lt_of_lt_of_le h1 s3.1) h2]; exact s3.2.1 q h1 h2, fun q hq => by
      rcases List.mem_append.mp hq with h | h
      · exact s3.2.2 q h
      · exact hLL q h⟩, s4⟩ hL U' rfl X'
  refine ⟨t2, stp t2 ?_, b1⟩
  have hst2 : (r1.map (gm_V ad)).toList ++ rest.map (gm_V ad) = (r1.toList ++ rest).map (gm_V ad) := by
    cases r1 <;> simp
  rw [hst2]
  exact a1
theorem gm_callS {k1 i n : Nat} {Y1 : gm_Y} {As st0 st1 rest : List Value} {L1 : List (Option Value)} {r1 : Option Value} {S1 : gm_Mem} {own : String} (ho : Y.1.cls = own) (hd : decode Y.2.1 pc = .ok (.invokestatic i, 3)) (hl : Cond.methodLink own i Y1.1 ∈ gm_TB) (hm : gm_Ms Y1 n)
    (As : List Value) (rest : List Value) (hst : st0 = As.reverse ++ rest) (hn : As.length = n) (hre : rest.length ≤ 12) (hk : k1 + 1 ≤ k) (hL1 : gm_ent Y1.2.2.1 As = L1) (hc : gm_run g k1 Y1 0 L1 [] S r1 S1) (hst1 : r1.toList ++ rest = st1)
    (K : gm_run g k Y (pc + 3) L st1 S1 r S2) : gm_run g k Y pc L st0 S r S2 := by
  intro h hkh p l e s m args below meth c D ca ad A C H locs ls hS hL
  subst hL1
  subst hst1
  subst hst
  obtain ⟨m1, m3, m4, m5, m6, m7, m8, m9⟩ := hm
  obtain ⟨x1, x2, x3, x4, x5, x6, x7, x8⟩ := id C
  obtain ⟨s1, s2, s3, s4⟩ := hS
  have hAH : ∀ q : Nat, H.size ≤ q → A q := fun q hq => s4 q (Nat.le_trans s3.1 hq)
  have hlen : As.length ≤ Y1.2.2.1 := by omega
  have hB := gm_back (l := l) (R := gm_R h) (p := p) (e := e) (below := below) (s := s) (args := args) (wo := 12) D ca ad A x6 m4 m3 m5 hlen (by show k1 + 1 ≤ h; omega) (by show 12 + (Y1.2.2.1 + 11) + 40 * k1 ≤ 40 * h; omega) hc
  intro T hT X
  have hstk : (F0 m pc ls ((As.reverse ++ rest).map (gm_V ad))).stack = (As.map (gm_V ad)).reverse ++ rest.map (gm_V ad) := by
    show (As.reverse ++ rest).map (gm_V ad) = _
    rw [List.map_append, List.map_reverse]
  have hsz : (F0 m pc ls ((As.reverse ++ rest).map (gm_V ad))).locals.size = c.maxLocals := by
    rw [x4]
    obtain ⟨lv, h1, -⟩ := hL
    exact h1.1
  obtain ⟨v, vm₁, ⟨U', l2, cc2, ss2⟩, hW₁, X', ⟨g', mk, t, LL, e1, e2, hq, h1, hLL, h2, h3⟩, stp⟩ := callS X x1 (bytes := Y1.2.1) (maxL := Y1.2.2.1) (ret := Y1.2.2.2) (by rw [← ho]; exact x5) (x6 _ hl) (x6 _ m1) (x6 _ m3) (x6 _ m4) m6 hB (g := F0 m pc ls ((As.reverse ++ rest).map (gm_V ad))) rfl hsz (argsL := As.map (gm_V ad)) (rest := rest.map (gm_V ad))
    (fun sig hsg => by rw [hsg] at m8; rw [List.length_map, hn]; exact (Option.some.inj m8).symm) hstk (by show 2 * 0 + _ ≤ 12; rw [gm_sum]; omega) (by rw [x2]; exact hd)
    (fun vm1 hW => ⟨Nat.le_refl 0, Nat.le_refl 0, rfl, by show va_P D vwCl _ T.heap; rw [hT]; exact s1, va_K.moved hW.alike x7, s2, by show ∀ q : Nat, T.heap.size ≤ q → A q; rw [hT]; exact hAH⟩)
  dsimp only [Pt.U, Pt.locs, Pt.cells, Pt.slots] at X' e1 e2 h1 h2 h3 stp
  subst h1; subst h2; subst h3
  obtain ⟨ho1, hP1, hF1⟩ := hq
  have hv : v = r1.map (gm_V ad) := by injection ho1
  subst hv
  have hsH : ((T.setVm vm₁).calling g' mk (As.map (gm_V ad)).toArray).heap = H := hT
  rw [va_F, hsH] at hF1
  obtain ⟨t2, a1, b1⟩ := K h hkh p l e s m args below meth c D ca ad A C U'.heap (locs ++ LL) ls ⟨by rw [e1]; exact hP1, s2, ⟨Nat.le_trans s3.1 (by rw [e1]; exact hF1.1), fun q h1 h2 => by rw [e1, hF1.2 q (Nat.lt_of_lt_of_le h1 s3.1) h2]; exact s3.2.1 q h1 h2, fun q hq => by
      rcases List.mem_append.mp hq with h | h
      · exact s3.2.2 q h
      · exact hLL q h⟩, s4⟩ hL U' rfl X'
  refine ⟨t2, stp t2 ?_, b1⟩
  have hst2 : (r1.map (gm_V ad)).toList ++ rest.map (gm_V ad) = (r1.toList ++ rest).map (gm_V ad) := by
    cases r1 <;> simp
  rw [hst2]
  exact a1
/-- System.arraycopy of a whole row of ints or booleans, from 0 to 0 -/
def gm_cpy (S : gm_Mem) (p1 p0 n : Nat) : gm_Mem := fun q => if q = p1 then (fun j => if j < n then S p0 j else S p1 j) else S q
theorem gm_copy {i p0 p1 t n : Nat} {x : Int32} {own : String} (ho : Y.1.cls = own) (hd : decode Y.2.1 pc = .ok (.invokestatic i, 3)) (hl : Cond.methodLink own i arraycopyName ∈ gm_TB) (h0 : g[p0]? = some (.inr (t, n))) (h1 : g[p1]? = some (.inr (t, n))) (ht : t = 0 ∨ t = 1) (hx : gm_ix x n (n + 1)) (hz : t = 1 → ∀ j : Nat, j < n → gm_fit .boolean (S p0 j)) (hre : st.length ≤ 12) (hk : 1 ≤ k)
    (hn1 : Cond.native arraycopyName ∈ gm_TB) (hn2 : Cond.static arraycopyName ∈ gm_TB) (hn3 : Cond.initialized "java/lang/System" ∈ gm_TB) (K : gm_run g k Y (pc + 3) L st (gm_cpy S p1 p0 n) r S2) : gm_run g k Y pc L (.int x :: .int 0 :: .ref p1 :: .int 0 :: .ref p0 :: st) S r S2 := by
  intro h hkh p l e s m args below meth c D ca ad A C H locs ls hS hL
  obtain ⟨s1, s2, s3, s4⟩ := hS
  obtain ⟨x1, x2, x3, x4, x5, x6, x7, x8⟩ := id C
  have hsz : c.maxLocals = ls.size := by
    rw [x4]
    obtain ⟨lv, h1, -⟩ := hL
    exact h1.1.symm
  have hxn : x.toNatClampNeg = n := hx.in.2
  have hx0 : ¬ x < 0 := fun q => hx.in.1 (Or.inl q)
  have z0 : (0 : Int32).toNatClampNeg = 0 := by decide
  have hcel : ∃ (cA : ClassId) (ty : FieldType), gm_Cel ca ad (S p0) (.inr (t, n)) = .inl (cA, n, .inl (S p0)) ∧ gm_Cel ca ad (S p1) (.inr (t, n)) = .inl (cA, n, .inl (S p1)) ∧ (∀ f : Nat → Int32, gm_Cel ca ad f (.inr (t, n)) = .inl (cA, n, .inl f)) ∧ (gm_Ty ca)[t]? = some (cA, ty) ∧ refKind ty = false ∧ (∀ j, j < n → fits ty (.int (S p0 j)) = true) := by
    rcases ht with rfl | rfl
    · exact ⟨ca.1, .int, rfl, rfl, fun _ => rfl, rfl, rfl, fun _ _ => rfl⟩
    · exact ⟨ca.2.1, .boolean, rfl, rfl, fun _ => rfl, rfl, rfl, fun j hj => (hz rfl j hj).2⟩
  obtain ⟨cA, ty, k1, k2, k3, k4, k5, k6⟩ := hcel
  have g0 := gm_Ws_get (c := ca) (ad := ad) (S := S) h0
  have g1 := gm_Ws_get (c := ca) (ad := ad) (S := S) h1
  rw [k1] at g0
  rw [k2] at g1
  have hw : nativeFrameWords "java/lang/System" "arraycopy" 5 = 7 := by decide
  have hlo : ((st.map (gm_V ad)).map fun v => v.category).sum + (nativeFrameWords "java/lang/System" "arraycopy" 5 + 11) ≤ (gm_R h).locals := by
    rw [gm_sum, hw]
    show st.length + (7 + 11) ≤ 40 * h
    omega
  have hfr : 1 ≤ (gm_R h).frames := by
    show 1 ≤ h
    omega
  refine va_copyi (R := gm_R h) (rest := st.map (gm_V ad)) (D := D) (q0 := p0) (q1 := p1) (t0 := t) (t1 := t) (sp := 0) (dp := 0) (n := x) x1 x2 hsz (own := own) (by rw [← ho]; exact x5) (x6 _ hl) (x6 _ hn1) (x6 _ hn2) (x6 _ hn3) x7 s1 (s2.to ca S) s3 g0 g1 k4 k4 k5 (by decide) (by decide) hx0 (by rw [z0, hxn]; omega) (by rw [z0, hxn]; omega) (fun j hj => by rw [z0, Nat.zero_add]; exact k6 j (by rw [← hxn]; exact hj)) hfr hlo hd (fun H1 locs1 hP1 hD1 hS1 => ?_)
  have hrow : va_cpy (S p0) (S p1) (0 : Int32).toNatClampNeg (0 : Int32).toNatClampNeg x.toNatClampNeg = fun j => if j < n then S p0 j else S p1 j := by
    funext j
    rw [z0, hxn]
    simp [va_cpy]
  rw [hrow, ← k3] at hP1
  rw [gm_Ws_set h1] at hP1
  have he : va_up S p1 (fun j => if j < n then S p0 j else S p1 j) = gm_cpy S p1 p0 n := by
    funext q
    by_cases hq : q = p1 <;> simp [va_up, gm_cpy, hq]
  rw [he] at hP1
  exact K h hkh p l e s m args below meth c D ca ad A C H1 locs1 ls ⟨hP1, s2, hS1, s4⟩ hL
end GM2
end
