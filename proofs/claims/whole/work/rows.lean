section
-- ===== PART A: goes FIRST, ahead of the names: the tables' words, and 'selects' of the private methods out of them =====
/-- a private method of a class that the tables say can be made, by its rows of tables_1 -/
def lw_okq (q : MethodName × Nat) : Prop := (q.1.cls ≠ "java/lang/invoke/MethodHandle" ∧ q.1.cls ≠ "java/lang/invoke/VarHandle") ∧ Cond.instantiable q.1.cls q.2 ∈ tables_1 ∧ Cond.privateMethod q.1 ∈ tables_1 ∧ Cond.instanceMethod q.1 ∈ tables_1
theorem lw_p0 : lw_okq (⟨"NineLedges$Cliff", "ledgesBefore", "(I)I"⟩, 10) := ⟨⟨by decide +kernel, by decide +kernel⟩, List.mem_of_getElem? (i := 80) (by decide +kernel), List.mem_of_getElem? (i := 335) (by decide +kernel), List.mem_of_getElem? (i := 336) (by decide +kernel)⟩
theorem lw_p1 : lw_okq (⟨"NineLedges", "fail", "(I)I"⟩, 10) := ⟨⟨by decide +kernel, by decide +kernel⟩, List.mem_of_getElem? (i := 22) (by decide +kernel), List.mem_of_getElem? (i := 340) (by decide +kernel), List.mem_of_getElem? (i := 341) (by decide +kernel)⟩
theorem lw_p2 : lw_okq (⟨"NineLedges", "isGoer", "(I)Z"⟩, 10) := ⟨⟨by decide +kernel, by decide +kernel⟩, List.mem_of_getElem? (i := 22) (by decide +kernel), List.mem_of_getElem? (i := 460) (by decide +kernel), List.mem_of_getElem? (i := 461) (by decide +kernel)⟩
theorem lw_p3 : lw_okq (⟨"NineLedges$Text", "beginsOperand", "(I)Z"⟩, 9) := ⟨⟨by decide +kernel, by decide +kernel⟩, List.mem_of_getElem? (i := 187) (by decide +kernel), List.mem_of_getElem? (i := 541) (by decide +kernel), List.mem_of_getElem? (i := 542) (by decide +kernel)⟩
theorem lw_p4 : lw_okq (⟨"NineLedges$Text", "goesOn", "(I)Z"⟩, 9) := ⟨⟨by decide +kernel, by decide +kernel⟩, List.mem_of_getElem? (i := 187) (by decide +kernel), List.mem_of_getElem? (i := 630) (by decide +kernel), List.mem_of_getElem? (i := 631) (by decide +kernel)⟩
theorem lw_p5 : lw_okq (⟨"NineLedges$Text", "addsDigit", "(I)Z"⟩, 9) := ⟨⟨by decide +kernel, by decide +kernel⟩, List.mem_of_getElem? (i := 187) (by decide +kernel), List.mem_of_getElem? (i := 634) (by decide +kernel), List.mem_of_getElem? (i := 635) (by decide +kernel)⟩
theorem lw_p6 : lw_okq (⟨"NineLedges$Text", "closes", "()Z"⟩, 9) := ⟨⟨by decide +kernel, by decide +kernel⟩, List.mem_of_getElem? (i := 187) (by decide +kernel), List.mem_of_getElem? (i := 646) (by decide +kernel), List.mem_of_getElem? (i := 647) (by decide +kernel)⟩
theorem lw_p7 : lw_okq (⟨"NineLedges$Text", "release", "(I)V"⟩, 9) := ⟨⟨by decide +kernel, by decide +kernel⟩, List.mem_of_getElem? (i := 187) (by decide +kernel), List.mem_of_getElem? (i := 650) (by decide +kernel), List.mem_of_getElem? (i := 651) (by decide +kernel)⟩
theorem lw_p8 : lw_okq (⟨"NineLedges", "refusesMinutes", "(I)I"⟩, 10) := ⟨⟨by decide +kernel, by decide +kernel⟩, List.mem_of_getElem? (i := 22) (by decide +kernel), List.mem_of_getElem? (i := 679) (by decide +kernel), List.mem_of_getElem? (i := 680) (by decide +kernel)⟩
theorem lw_p9 : lw_okq (⟨"NineLedges$Cliff", "walk", "(LNineLedges$Goer;Z)Z"⟩, 10) := ⟨⟨by decide +kernel, by decide +kernel⟩, List.mem_of_getElem? (i := 80) (by decide +kernel), List.mem_of_getElem? (i := 687) (by decide +kernel), List.mem_of_getElem? (i := 688) (by decide +kernel)⟩
theorem lw_p10 : lw_okq (⟨"NineLedges$Cliff", "hearsSomebody", "(LNineLedges$Goer;)Z"⟩, 10) := ⟨⟨by decide +kernel, by decide +kernel⟩, List.mem_of_getElem? (i := 80) (by decide +kernel), List.mem_of_getElem? (i := 692) (by decide +kernel), List.mem_of_getElem? (i := 693) (by decide +kernel)⟩
theorem lw_p11 : lw_okq (⟨"NineLedges$Cliff", "isFree", "(I)Z"⟩, 10) := ⟨⟨by decide +kernel, by decide +kernel⟩, List.mem_of_getElem? (i := 80) (by decide +kernel), List.mem_of_getElem? (i := 705) (by decide +kernel), List.mem_of_getElem? (i := 706) (by decide +kernel)⟩
theorem lw_p12 : lw_okq (⟨"NineLedges$Cliff", "step", "(LNineLedges$Goer;I)V"⟩, 10) := ⟨⟨by decide +kernel, by decide +kernel⟩, List.mem_of_getElem? (i := 80) (by decide +kernel), List.mem_of_getElem? (i := 709) (by decide +kernel), List.mem_of_getElem? (i := 710) (by decide +kernel)⟩
theorem lw_p13 : lw_okq (⟨"NineLedges$Cliff", "meet", "(LNineLedges$Goer;I)Z"⟩, 10) := ⟨⟨by decide +kernel, by decide +kernel⟩, List.mem_of_getElem? (i := 80) (by decide +kernel), List.mem_of_getElem? (i := 718) (by decide +kernel), List.mem_of_getElem? (i := 719) (by decide +kernel)⟩
theorem lw_p14 : lw_okq (⟨"NineLedges$Cliff", "givesWay", "(LNineLedges$Goer;ILNineLedges$Goer;I)Z"⟩, 10) := ⟨⟨by decide +kernel, by decide +kernel⟩, List.mem_of_getElem? (i := 80) (by decide +kernel), List.mem_of_getElem? (i := 723) (by decide +kernel), List.mem_of_getElem? (i := 724) (by decide +kernel)⟩
theorem lw_p15 : lw_okq (⟨"NineLedges$Cliff", "allOver", "()Z"⟩, 10) := ⟨⟨by decide +kernel, by decide +kernel⟩, List.mem_of_getElem? (i := 80) (by decide +kernel), List.mem_of_getElem? (i := 767) (by decide +kernel), List.mem_of_getElem? (i := 768) (by decide +kernel)⟩
def lw_privs_1 : List (MethodName × Nat) := [(⟨"NineLedges$Cliff", "ledgesBefore", "(I)I"⟩, 10), (⟨"NineLedges", "fail", "(I)I"⟩, 10), (⟨"NineLedges", "isGoer", "(I)Z"⟩, 10), (⟨"NineLedges$Text", "beginsOperand", "(I)Z"⟩, 9), (⟨"NineLedges$Text", "goesOn", "(I)Z"⟩, 9), (⟨"NineLedges$Text", "addsDigit", "(I)Z"⟩, 9), (⟨"NineLedges$Text", "closes", "()Z"⟩, 9), (⟨"NineLedges$Text", "release", "(I)V"⟩, 9), (⟨"NineLedges", "refusesMinutes", "(I)I"⟩, 10), (⟨"NineLedges$Cliff", "walk", "(LNineLedges$Goer;Z)Z"⟩, 10), (⟨"NineLedges$Cliff", "hearsSomebody", "(LNineLedges$Goer;)Z"⟩, 10), (⟨"NineLedges$Cliff", "isFree", "(I)Z"⟩, 10), (⟨"NineLedges$Cliff", "step", "(LNineLedges$Goer;I)V"⟩, 10), (⟨"NineLedges$Cliff", "meet", "(LNineLedges$Goer;I)Z"⟩, 10), (⟨"NineLedges$Cliff", "givesWay", "(LNineLedges$Goer;ILNineLedges$Goer;I)Z"⟩, 10), (⟨"NineLedges$Cliff", "allOver", "()Z"⟩, 10)]
theorem lw_r1 : ∀ q ∈ lw_privs_1, lw_okq q := List.forall_mem_cons.mpr ⟨lw_p0, List.forall_mem_cons.mpr ⟨lw_p1, List.forall_mem_cons.mpr ⟨lw_p2, List.forall_mem_cons.mpr ⟨lw_p3, List.forall_mem_cons.mpr ⟨lw_p4, List.forall_mem_cons.mpr ⟨lw_p5, List.forall_mem_cons.mpr ⟨lw_p6, List.forall_mem_cons.mpr ⟨lw_p7, List.forall_mem_cons.mpr ⟨lw_p8, List.forall_mem_cons.mpr ⟨lw_p9, List.forall_mem_cons.mpr ⟨lw_p10, List.forall_mem_cons.mpr ⟨lw_p11, List.forall_mem_cons.mpr ⟨lw_p12, List.forall_mem_cons.mpr ⟨lw_p13, List.forall_mem_cons.mpr ⟨lw_p14, List.forall_mem_cons.mpr ⟨lw_p15, fun _ h => absurd h List.not_mem_nil⟩⟩⟩⟩⟩⟩⟩⟩⟩⟩⟩⟩⟩⟩⟩⟩
theorem lw_p16 : lw_okq (⟨"NineLedges$Cliff", "someStartLater", "()Z"⟩, 10) := ⟨⟨by decide +kernel, by decide +kernel⟩, List.mem_of_getElem? (i := 80) (by decide +kernel), List.mem_of_getElem? (i := 773) (by decide +kernel), List.mem_of_getElem? (i := 774) (by decide +kernel)⟩
theorem lw_p17 : lw_okq (⟨"NineLedges", "orNone", "(I)I"⟩, 10) := ⟨⟨by decide +kernel, by decide +kernel⟩, List.mem_of_getElem? (i := 22) (by decide +kernel), List.mem_of_getElem? (i := 777) (by decide +kernel), List.mem_of_getElem? (i := 778) (by decide +kernel)⟩
theorem lw_p18 : lw_okq (⟨"NineLedges", "refusesSheet", "(I)I"⟩, 10) := ⟨⟨by decide +kernel, by decide +kernel⟩, List.mem_of_getElem? (i := 22) (by decide +kernel), List.mem_of_getElem? (i := 932) (by decide +kernel), List.mem_of_getElem? (i := 933) (by decide +kernel)⟩
theorem lw_p19 : lw_okq (⟨"NineLedgesModel", "finds", "(I)I"⟩, 25) := ⟨⟨by decide +kernel, by decide +kernel⟩, List.mem_of_getElem? (i := 985) (by decide +kernel), List.mem_of_getElem? (i := 1075) (by decide +kernel), List.mem_of_getElem? (i := 1076) (by decide +kernel)⟩
theorem lw_p20 : lw_okq (⟨"NineLedgesModel", "worked", "(III)I"⟩, 25) := ⟨⟨by decide +kernel, by decide +kernel⟩, List.mem_of_getElem? (i := 985) (by decide +kernel), List.mem_of_getElem? (i := 1085) (by decide +kernel), List.mem_of_getElem? (i := 1086) (by decide +kernel)⟩
theorem lw_p21 : lw_okq (⟨"NineLedgesModel", "either", "()I"⟩, 25) := ⟨⟨by decide +kernel, by decide +kernel⟩, List.mem_of_getElem? (i := 985) (by decide +kernel), List.mem_of_getElem? (i := 1089) (by decide +kernel), List.mem_of_getElem? (i := 1090) (by decide +kernel)⟩
theorem lw_p22 : lw_okq (⟨"NineLedgesModel", "both", "()I"⟩, 25) := ⟨⟨by decide +kernel, by decide +kernel⟩, List.mem_of_getElem? (i := 985) (by decide +kernel), List.mem_of_getElem? (i := 1093) (by decide +kernel), List.mem_of_getElem? (i := 1094) (by decide +kernel)⟩
theorem lw_p23 : lw_okq (⟨"NineLedgesModel", "compared", "()I"⟩, 25) := ⟨⟨by decide +kernel, by decide +kernel⟩, List.mem_of_getElem? (i := 985) (by decide +kernel), List.mem_of_getElem? (i := 1097) (by decide +kernel), List.mem_of_getElem? (i := 1098) (by decide +kernel)⟩
theorem lw_p24 : lw_okq (⟨"NineLedgesModel", "sum", "()I"⟩, 25) := ⟨⟨by decide +kernel, by decide +kernel⟩, List.mem_of_getElem? (i := 985) (by decide +kernel), List.mem_of_getElem? (i := 1101) (by decide +kernel), List.mem_of_getElem? (i := 1102) (by decide +kernel)⟩
theorem lw_p25 : lw_okq (⟨"NineLedgesModel", "product", "()I"⟩, 25) := ⟨⟨by decide +kernel, by decide +kernel⟩, List.mem_of_getElem? (i := 985) (by decide +kernel), List.mem_of_getElem? (i := 1105) (by decide +kernel), List.mem_of_getElem? (i := 1106) (by decide +kernel)⟩
theorem lw_p26 : lw_okq (⟨"NineLedgesModel", "unit", "()I"⟩, 25) := ⟨⟨by decide +kernel, by decide +kernel⟩, List.mem_of_getElem? (i := 985) (by decide +kernel), List.mem_of_getElem? (i := 1109) (by decide +kernel), List.mem_of_getElem? (i := 1110) (by decide +kernel)⟩
theorem lw_p27 : lw_okq (⟨"NineLedgesModel", "here", "()I"⟩, 25) := ⟨⟨by decide +kernel, by decide +kernel⟩, List.mem_of_getElem? (i := 985) (by decide +kernel), List.mem_of_getElem? (i := 1113) (by decide +kernel), List.mem_of_getElem? (i := 1114) (by decide +kernel)⟩
theorem lw_p28 : lw_okq (⟨"NineLedgesModel", "wrong", "()I"⟩, 25) := ⟨⟨by decide +kernel, by decide +kernel⟩, List.mem_of_getElem? (i := 985) (by decide +kernel), List.mem_of_getElem? (i := 1117) (by decide +kernel), List.mem_of_getElem? (i := 1118) (by decide +kernel)⟩
theorem lw_p29 : lw_okq (⟨"NineLedgesModel", "takes", "(I)Z"⟩, 25) := ⟨⟨by decide +kernel, by decide +kernel⟩, List.mem_of_getElem? (i := 985) (by decide +kernel), List.mem_of_getElem? (i := 1121) (by decide +kernel), List.mem_of_getElem? (i := 1122) (by decide +kernel)⟩
theorem lw_p30 : lw_okq (⟨"NineLedgesModel", "nameOf", "(I)I"⟩, 25) := ⟨⟨by decide +kernel, by decide +kernel⟩, List.mem_of_getElem? (i := 985) (by decide +kernel), List.mem_of_getElem? (i := 1125) (by decide +kernel), List.mem_of_getElem? (i := 1126) (by decide +kernel)⟩
theorem lw_p31 : lw_okq (⟨"NineLedgesModel", "textGives", "(IIII)I"⟩, 25) := ⟨⟨by decide +kernel, by decide +kernel⟩, List.mem_of_getElem? (i := 985) (by decide +kernel), List.mem_of_getElem? (i := 1135) (by decide +kernel), List.mem_of_getElem? (i := 1136) (by decide +kernel)⟩
def lw_privs_2 : List (MethodName × Nat) := [(⟨"NineLedges$Cliff", "someStartLater", "()Z"⟩, 10), (⟨"NineLedges", "orNone", "(I)I"⟩, 10), (⟨"NineLedges", "refusesSheet", "(I)I"⟩, 10), (⟨"NineLedgesModel", "finds", "(I)I"⟩, 25), (⟨"NineLedgesModel", "worked", "(III)I"⟩, 25), (⟨"NineLedgesModel", "either", "()I"⟩, 25), (⟨"NineLedgesModel", "both", "()I"⟩, 25), (⟨"NineLedgesModel", "compared", "()I"⟩, 25), (⟨"NineLedgesModel", "sum", "()I"⟩, 25), (⟨"NineLedgesModel", "product", "()I"⟩, 25), (⟨"NineLedgesModel", "unit", "()I"⟩, 25), (⟨"NineLedgesModel", "here", "()I"⟩, 25), (⟨"NineLedgesModel", "wrong", "()I"⟩, 25), (⟨"NineLedgesModel", "takes", "(I)Z"⟩, 25), (⟨"NineLedgesModel", "nameOf", "(I)I"⟩, 25), (⟨"NineLedgesModel", "textGives", "(IIII)I"⟩, 25)]
theorem lw_r2 : ∀ q ∈ lw_privs_2, lw_okq q := List.forall_mem_cons.mpr ⟨lw_p16, List.forall_mem_cons.mpr ⟨lw_p17, List.forall_mem_cons.mpr ⟨lw_p18, List.forall_mem_cons.mpr ⟨lw_p19, List.forall_mem_cons.mpr ⟨lw_p20, List.forall_mem_cons.mpr ⟨lw_p21, List.forall_mem_cons.mpr ⟨lw_p22, List.forall_mem_cons.mpr ⟨lw_p23, List.forall_mem_cons.mpr ⟨lw_p24, List.forall_mem_cons.mpr ⟨lw_p25, List.forall_mem_cons.mpr ⟨lw_p26, List.forall_mem_cons.mpr ⟨lw_p27, List.forall_mem_cons.mpr ⟨lw_p28, List.forall_mem_cons.mpr ⟨lw_p29, List.forall_mem_cons.mpr ⟨lw_p30, List.forall_mem_cons.mpr ⟨lw_p31, fun _ h => absurd h List.not_mem_nil⟩⟩⟩⟩⟩⟩⟩⟩⟩⟩⟩⟩⟩⟩⟩⟩
theorem lw_p32 : lw_okq (⟨"NineLedgesModel", "roomFinds", "(II)I"⟩, 25) := ⟨⟨by decide +kernel, by decide +kernel⟩, List.mem_of_getElem? (i := 985) (by decide +kernel), List.mem_of_getElem? (i := 1146) (by decide +kernel), List.mem_of_getElem? (i := 1147) (by decide +kernel)⟩
theorem lw_p33 : lw_okq (⟨"NineLedgesModel", "atYard", "(I)I"⟩, 25) := ⟨⟨by decide +kernel, by decide +kernel⟩, List.mem_of_getElem? (i := 985) (by decide +kernel), List.mem_of_getElem? (i := 1155) (by decide +kernel), List.mem_of_getElem? (i := 1156) (by decide +kernel)⟩
theorem lw_p34 : lw_okq (⟨"NineLedgesModel", "of", "(II)I"⟩, 25) := ⟨⟨by decide +kernel, by decide +kernel⟩, List.mem_of_getElem? (i := 985) (by decide +kernel), List.mem_of_getElem? (i := 1159) (by decide +kernel), List.mem_of_getElem? (i := 1160) (by decide +kernel)⟩
theorem lw_p35 : lw_okq (⟨"NineLedgesModel", "isLedge", "(I)Z"⟩, 25) := ⟨⟨by decide +kernel, by decide +kernel⟩, List.mem_of_getElem? (i := 985) (by decide +kernel), List.mem_of_getElem? (i := 1163) (by decide +kernel), List.mem_of_getElem? (i := 1164) (by decide +kernel)⟩
theorem lw_p36 : lw_okq (⟨"NineLedgesModel", "ledgesBefore", "(I)I"⟩, 25) := ⟨⟨by decide +kernel, by decide +kernel⟩, List.mem_of_getElem? (i := 985) (by decide +kernel), List.mem_of_getElem? (i := 1167) (by decide +kernel), List.mem_of_getElem? (i := 1168) (by decide +kernel)⟩
theorem lw_p37 : lw_okq (⟨"NineLedgesModel", "sets", "(III)V"⟩, 25) := ⟨⟨by decide +kernel, by decide +kernel⟩, List.mem_of_getElem? (i := 985) (by decide +kernel), List.mem_of_getElem? (i := 1182) (by decide +kernel), List.mem_of_getElem? (i := 1183) (by decide +kernel)⟩
theorem lw_p38 : lw_okq (⟨"NineLedgesModel", "sendHome", "(I)V"⟩, 25) := ⟨⟨by decide +kernel, by decide +kernel⟩, List.mem_of_getElem? (i := 985) (by decide +kernel), List.mem_of_getElem? (i := 1186) (by decide +kernel), List.mem_of_getElem? (i := 1187) (by decide +kernel)⟩
theorem lw_p39 : lw_okq (⟨"NineLedgesModel", "isGoer", "(I)Z"⟩, 25) := ⟨⟨by decide +kernel, by decide +kernel⟩, List.mem_of_getElem? (i := 985) (by decide +kernel), List.mem_of_getElem? (i := 1194) (by decide +kernel), List.mem_of_getElem? (i := 1195) (by decide +kernel)⟩
theorem lw_p40 : lw_okq (⟨"NineLedgesModel", "paceOf", "(I)I"⟩, 25) := ⟨⟨by decide +kernel, by decide +kernel⟩, List.mem_of_getElem? (i := 985) (by decide +kernel), List.mem_of_getElem? (i := 1199) (by decide +kernel), List.mem_of_getElem? (i := 1200) (by decide +kernel)⟩
theorem lw_p41 : lw_okq (⟨"NineLedgesModel", "loadOf", "(I)I"⟩, 25) := ⟨⟨by decide +kernel, by decide +kernel⟩, List.mem_of_getElem? (i := 985) (by decide +kernel), List.mem_of_getElem? (i := 1203) (by decide +kernel), List.mem_of_getElem? (i := 1204) (by decide +kernel)⟩
theorem lw_p42 : lw_okq (⟨"NineLedgesModel", "rankOf", "(I)I"⟩, 25) := ⟨⟨by decide +kernel, by decide +kernel⟩, List.mem_of_getElem? (i := 985) (by decide +kernel), List.mem_of_getElem? (i := 1207) (by decide +kernel), List.mem_of_getElem? (i := 1208) (by decide +kernel)⟩
theorem lw_p43 : lw_okq (⟨"NineLedgesModel", "canBack", "(I)Z"⟩, 25) := ⟨⟨by decide +kernel, by decide +kernel⟩, List.mem_of_getElem? (i := 985) (by decide +kernel), List.mem_of_getElem? (i := 1211) (by decide +kernel), List.mem_of_getElem? (i := 1212) (by decide +kernel)⟩
theorem lw_p44 : lw_okq (⟨"NineLedgesModel", "hears", "(I)Z"⟩, 25) := ⟨⟨by decide +kernel, by decide +kernel⟩, List.mem_of_getElem? (i := 985) (by decide +kernel), List.mem_of_getElem? (i := 1215) (by decide +kernel), List.mem_of_getElem? (i := 1216) (by decide +kernel)⟩
theorem lw_p45 : lw_okq (⟨"NineLedgesModel", "passes", "(IZ)I"⟩, 25) := ⟨⟨by decide +kernel, by decide +kernel⟩, List.mem_of_getElem? (i := 985) (by decide +kernel), List.mem_of_getElem? (i := 1243) (by decide +kernel), List.mem_of_getElem? (i := 1244) (by decide +kernel)⟩
theorem lw_p46 : lw_okq (⟨"NineLedgesModel", "drawn", "()I"⟩, 25) := ⟨⟨by decide +kernel, by decide +kernel⟩, List.mem_of_getElem? (i := 985) (by decide +kernel), List.mem_of_getElem? (i := 1248) (by decide +kernel), List.mem_of_getElem? (i := 1249) (by decide +kernel)⟩
theorem lw_p47 : lw_okq (⟨"NineLedgesModel", "aMinute", "(Z)V"⟩, 25) := ⟨⟨by decide +kernel, by decide +kernel⟩, List.mem_of_getElem? (i := 985) (by decide +kernel), List.mem_of_getElem? (i := 1253) (by decide +kernel), List.mem_of_getElem? (i := 1254) (by decide +kernel)⟩
def lw_privs_3 : List (MethodName × Nat) := [(⟨"NineLedgesModel", "roomFinds", "(II)I"⟩, 25), (⟨"NineLedgesModel", "atYard", "(I)I"⟩, 25), (⟨"NineLedgesModel", "of", "(II)I"⟩, 25), (⟨"NineLedgesModel", "isLedge", "(I)Z"⟩, 25), (⟨"NineLedgesModel", "ledgesBefore", "(I)I"⟩, 25), (⟨"NineLedgesModel", "sets", "(III)V"⟩, 25), (⟨"NineLedgesModel", "sendHome", "(I)V"⟩, 25), (⟨"NineLedgesModel", "isGoer", "(I)Z"⟩, 25), (⟨"NineLedgesModel", "paceOf", "(I)I"⟩, 25), (⟨"NineLedgesModel", "loadOf", "(I)I"⟩, 25), (⟨"NineLedgesModel", "rankOf", "(I)I"⟩, 25), (⟨"NineLedgesModel", "canBack", "(I)Z"⟩, 25), (⟨"NineLedgesModel", "hears", "(I)Z"⟩, 25), (⟨"NineLedgesModel", "passes", "(IZ)I"⟩, 25), (⟨"NineLedgesModel", "drawn", "()I"⟩, 25), (⟨"NineLedgesModel", "aMinute", "(Z)V"⟩, 25)]
theorem lw_r3 : ∀ q ∈ lw_privs_3, lw_okq q := List.forall_mem_cons.mpr ⟨lw_p32, List.forall_mem_cons.mpr ⟨lw_p33, List.forall_mem_cons.mpr ⟨lw_p34, List.forall_mem_cons.mpr ⟨lw_p35, List.forall_mem_cons.mpr ⟨lw_p36, List.forall_mem_cons.mpr ⟨lw_p37, List.forall_mem_cons.mpr ⟨lw_p38, List.forall_mem_cons.mpr ⟨lw_p39, List.forall_mem_cons.mpr ⟨lw_p40, List.forall_mem_cons.mpr ⟨lw_p41, List.forall_mem_cons.mpr ⟨lw_p42, List.forall_mem_cons.mpr ⟨lw_p43, List.forall_mem_cons.mpr ⟨lw_p44, List.forall_mem_cons.mpr ⟨lw_p45, List.forall_mem_cons.mpr ⟨lw_p46, List.forall_mem_cons.mpr ⟨lw_p47, fun _ h => absurd h List.not_mem_nil⟩⟩⟩⟩⟩⟩⟩⟩⟩⟩⟩⟩⟩⟩⟩⟩
theorem lw_p48 : lw_okq (⟨"NineLedgesModel", "goesOn", "(IZ)V"⟩, 25) := ⟨⟨by decide +kernel, by decide +kernel⟩, List.mem_of_getElem? (i := 985) (by decide +kernel), List.mem_of_getElem? (i := 1257) (by decide +kernel), List.mem_of_getElem? (i := 1258) (by decide +kernel)⟩
theorem lw_p49 : lw_okq (⟨"NineLedgesModel", "isHeard", "(I)Z"⟩, 25) := ⟨⟨by decide +kernel, by decide +kernel⟩, List.mem_of_getElem? (i := 985) (by decide +kernel), List.mem_of_getElem? (i := 1261) (by decide +kernel), List.mem_of_getElem? (i := 1262) (by decide +kernel)⟩
theorem lw_p50 : lw_okq (⟨"NineLedgesModel", "faces", "(I)I"⟩, 25) := ⟨⟨by decide +kernel, by decide +kernel⟩, List.mem_of_getElem? (i := 985) (by decide +kernel), List.mem_of_getElem? (i := 1265) (by decide +kernel), List.mem_of_getElem? (i := 1266) (by decide +kernel)⟩
theorem lw_p51 : lw_okq (⟨"NineLedgesModel", "against", "(II)I"⟩, 25) := ⟨⟨by decide +kernel, by decide +kernel⟩, List.mem_of_getElem? (i := 985) (by decide +kernel), List.mem_of_getElem? (i := 1269) (by decide +kernel), List.mem_of_getElem? (i := 1270) (by decide +kernel)⟩
theorem lw_p52 : lw_okq (⟨"NineLedgesModel", "comes", "(II)V"⟩, 25) := ⟨⟨by decide +kernel, by decide +kernel⟩, List.mem_of_getElem? (i := 985) (by decide +kernel), List.mem_of_getElem? (i := 1273) (by decide +kernel), List.mem_of_getElem? (i := 1274) (by decide +kernel)⟩
theorem lw_p53 : lw_okq (⟨"NineLedgesModel", "meets", "(II)V"⟩, 25) := ⟨⟨by decide +kernel, by decide +kernel⟩, List.mem_of_getElem? (i := 985) (by decide +kernel), List.mem_of_getElem? (i := 1279) (by decide +kernel), List.mem_of_getElem? (i := 1280) (by decide +kernel)⟩
theorem lw_p54 : lw_okq (⟨"NineLedgesModel", "howMany", "(I)I"⟩, 25) := ⟨⟨by decide +kernel, by decide +kernel⟩, List.mem_of_getElem? (i := 985) (by decide +kernel), List.mem_of_getElem? (i := 1283) (by decide +kernel), List.mem_of_getElem? (i := 1284) (by decide +kernel)⟩
theorem lw_p55 : lw_okq (⟨"NineLedgesModel", "keepAside", "()V"⟩, 25) := ⟨⟨by decide +kernel, by decide +kernel⟩, List.mem_of_getElem? (i := 985) (by decide +kernel), List.mem_of_getElem? (i := 1296) (by decide +kernel), List.mem_of_getElem? (i := 1297) (by decide +kernel)⟩
theorem lw_p56 : lw_okq (⟨"NineLedgesModel", "putBack", "()V"⟩, 25) := ⟨⟨by decide +kernel, by decide +kernel⟩, List.mem_of_getElem? (i := 985) (by decide +kernel), List.mem_of_getElem? (i := 1300) (by decide +kernel), List.mem_of_getElem? (i := 1301) (by decide +kernel)⟩
theorem lw_p57 : lw_okq (⟨"NineLedgesModel", "findOver", "()V"⟩, 25) := ⟨⟨by decide +kernel, by decide +kernel⟩, List.mem_of_getElem? (i := 985) (by decide +kernel), List.mem_of_getElem? (i := 1308) (by decide +kernel), List.mem_of_getElem? (i := 1309) (by decide +kernel)⟩
theorem lw_p58 : lw_okq (⟨"NineLedgesModel", "mayBeStuck", "()Z"⟩, 25) := ⟨⟨by decide +kernel, by decide +kernel⟩, List.mem_of_getElem? (i := 985) (by decide +kernel), List.mem_of_getElem? (i := 1316) (by decide +kernel), List.mem_of_getElem? (i := 1317) (by decide +kernel)⟩
theorem lw_p59 : lw_okq (⟨"NineLedgesModel", "keepStood", "()V"⟩, 25) := ⟨⟨by decide +kernel, by decide +kernel⟩, List.mem_of_getElem? (i := 985) (by decide +kernel), List.mem_of_getElem? (i := 1320) (by decide +kernel), List.mem_of_getElem? (i := 1321) (by decide +kernel)⟩
theorem lw_p60 : lw_okq (⟨"NineLedgesModel", "isAsItStood", "()Z"⟩, 25) := ⟨⟨by decide +kernel, by decide +kernel⟩, List.mem_of_getElem? (i := 985) (by decide +kernel), List.mem_of_getElem? (i := 1324) (by decide +kernel), List.mem_of_getElem? (i := 1325) (by decide +kernel)⟩
theorem lw_p61 : lw_okq (⟨"NineLedgesModel", "findBestStart", "(I)V"⟩, 25) := ⟨⟨by decide +kernel, by decide +kernel⟩, List.mem_of_getElem? (i := 985) (by decide +kernel), List.mem_of_getElem? (i := 1332) (by decide +kernel), List.mem_of_getElem? (i := 1333) (by decide +kernel)⟩
theorem lw_p62 : lw_okq (⟨"NineLedgesModel", "spareOf", "(II)I"⟩, 25) := ⟨⟨by decide +kernel, by decide +kernel⟩, List.mem_of_getElem? (i := 985) (by decide +kernel), List.mem_of_getElem? (i := 1340) (by decide +kernel), List.mem_of_getElem? (i := 1341) (by decide +kernel)⟩
theorem lw_p63 : lw_okq (⟨"NineLedgesModel", "overWith", "(II)I"⟩, 25) := ⟨⟨by decide +kernel, by decide +kernel⟩, List.mem_of_getElem? (i := 985) (by decide +kernel), List.mem_of_getElem? (i := 1348) (by decide +kernel), List.mem_of_getElem? (i := 1349) (by decide +kernel)⟩
def lw_privs_4 : List (MethodName × Nat) := [(⟨"NineLedgesModel", "goesOn", "(IZ)V"⟩, 25), (⟨"NineLedgesModel", "isHeard", "(I)Z"⟩, 25), (⟨"NineLedgesModel", "faces", "(I)I"⟩, 25), (⟨"NineLedgesModel", "against", "(II)I"⟩, 25), (⟨"NineLedgesModel", "comes", "(II)V"⟩, 25), (⟨"NineLedgesModel", "meets", "(II)V"⟩, 25), (⟨"NineLedgesModel", "howMany", "(I)I"⟩, 25), (⟨"NineLedgesModel", "keepAside", "()V"⟩, 25), (⟨"NineLedgesModel", "putBack", "()V"⟩, 25), (⟨"NineLedgesModel", "findOver", "()V"⟩, 25), (⟨"NineLedgesModel", "mayBeStuck", "()Z"⟩, 25), (⟨"NineLedgesModel", "keepStood", "()V"⟩, 25), (⟨"NineLedgesModel", "isAsItStood", "()Z"⟩, 25), (⟨"NineLedgesModel", "findBestStart", "(I)V"⟩, 25), (⟨"NineLedgesModel", "spareOf", "(II)I"⟩, 25), (⟨"NineLedgesModel", "overWith", "(II)I"⟩, 25)]
theorem lw_r4 : ∀ q ∈ lw_privs_4, lw_okq q := List.forall_mem_cons.mpr ⟨lw_p48, List.forall_mem_cons.mpr ⟨lw_p49, List.forall_mem_cons.mpr ⟨lw_p50, List.forall_mem_cons.mpr ⟨lw_p51, List.forall_mem_cons.mpr ⟨lw_p52, List.forall_mem_cons.mpr ⟨lw_p53, List.forall_mem_cons.mpr ⟨lw_p54, List.forall_mem_cons.mpr ⟨lw_p55, List.forall_mem_cons.mpr ⟨lw_p56, List.forall_mem_cons.mpr ⟨lw_p57, List.forall_mem_cons.mpr ⟨lw_p58, List.forall_mem_cons.mpr ⟨lw_p59, List.forall_mem_cons.mpr ⟨lw_p60, List.forall_mem_cons.mpr ⟨lw_p61, List.forall_mem_cons.mpr ⟨lw_p62, List.forall_mem_cons.mpr ⟨lw_p63, fun _ h => absurd h List.not_mem_nil⟩⟩⟩⟩⟩⟩⟩⟩⟩⟩⟩⟩⟩⟩⟩⟩
theorem lw_p64 : lw_okq (⟨"NineLedgesModel", "own", "()I"⟩, 25) := ⟨⟨by decide +kernel, by decide +kernel⟩, List.mem_of_getElem? (i := 985) (by decide +kernel), List.mem_of_getElem? (i := 1369) (by decide +kernel), List.mem_of_getElem? (i := 1370) (by decide +kernel)⟩
theorem lw_p65 : lw_okq (⟨"NineLedgesModel", "goesBy", "(II)I"⟩, 25) := ⟨⟨by decide +kernel, by decide +kernel⟩, List.mem_of_getElem? (i := 985) (by decide +kernel), List.mem_of_getElem? (i := 1373) (by decide +kernel), List.mem_of_getElem? (i := 1374) (by decide +kernel)⟩
theorem lw_p66 : lw_okq (⟨"NineLedgesModel", "ran", "(I)V"⟩, 25) := ⟨⟨by decide +kernel, by decide +kernel⟩, List.mem_of_getElem? (i := 985) (by decide +kernel), List.mem_of_getElem? (i := 1377) (by decide +kernel), List.mem_of_getElem? (i := 1378) (by decide +kernel)⟩
theorem lw_p67 : lw_okq (⟨"NineLedgesModel", "blowsBy", "(II)I"⟩, 25) := ⟨⟨by decide +kernel, by decide +kernel⟩, List.mem_of_getElem? (i := 985) (by decide +kernel), List.mem_of_getElem? (i := 1381) (by decide +kernel), List.mem_of_getElem? (i := 1382) (by decide +kernel)⟩
theorem lw_p68 : lw_okq (⟨"NineLedgesModel", "yieldsBy", "(II)I"⟩, 25) := ⟨⟨by decide +kernel, by decide +kernel⟩, List.mem_of_getElem? (i := 985) (by decide +kernel), List.mem_of_getElem? (i := 1385) (by decide +kernel), List.mem_of_getElem? (i := 1386) (by decide +kernel)⟩
theorem lw_p69 : lw_okq (⟨"NineLedgesModel", "tellsBy", "(II)I"⟩, 25) := ⟨⟨by decide +kernel, by decide +kernel⟩, List.mem_of_getElem? (i := 985) (by decide +kernel), List.mem_of_getElem? (i := 1389) (by decide +kernel), List.mem_of_getElem? (i := 1390) (by decide +kernel)⟩
def lw_privs_5 : List (MethodName × Nat) := [(⟨"NineLedgesModel", "own", "()I"⟩, 25), (⟨"NineLedgesModel", "goesBy", "(II)I"⟩, 25), (⟨"NineLedgesModel", "ran", "(I)V"⟩, 25), (⟨"NineLedgesModel", "blowsBy", "(II)I"⟩, 25), (⟨"NineLedgesModel", "yieldsBy", "(II)I"⟩, 25), (⟨"NineLedgesModel", "tellsBy", "(II)I"⟩, 25)]
theorem lw_r5 : ∀ q ∈ lw_privs_5, lw_okq q := List.forall_mem_cons.mpr ⟨lw_p64, List.forall_mem_cons.mpr ⟨lw_p65, List.forall_mem_cons.mpr ⟨lw_p66, List.forall_mem_cons.mpr ⟨lw_p67, List.forall_mem_cons.mpr ⟨lw_p68, List.forall_mem_cons.mpr ⟨lw_p69, fun _ h => absurd h List.not_mem_nil⟩⟩⟩⟩⟩⟩
def lw_privs : List (MethodName × Nat) := lw_privs_1 ++ (lw_privs_2 ++ (lw_privs_3 ++ (lw_privs_4 ++ (lw_privs_5))))
def lw_tbl : List Cond := k2_sels lw_privs ++ tables_1
theorem lw_privs_ok : ∀ q ∈ lw_privs, lw_okq q := by
  show ∀ q ∈ lw_privs_1 ++ (lw_privs_2 ++ (lw_privs_3 ++ (lw_privs_4 ++ (lw_privs_5)))), lw_okq q
  exact List.forall_mem_append.mpr ⟨lw_r1, List.forall_mem_append.mpr ⟨lw_r2, List.forall_mem_append.mpr ⟨lw_r3, List.forall_mem_append.mpr ⟨lw_r4, lw_r5⟩⟩⟩⟩
-- ===== end of PART A; then your names; then what follows =====
end
section
/-! names of classes, fields, methods (began as kit/laws NAMES) -/
def RX0 : String := "NineLedges$Blind"
def TX0 : u_T := fun k => match k with
  | _ => ("", "", "", false)
def tyX0 : Nat → FieldType := fun k => match k with
  | _ => .int
abbrev wsX00 : List Cond := u_ws RX0 TX0 0
theorem nmX0 : ∀ a, a < 0 → ∀ b, b < 0 → a ≠ b → (TX0 a).2.1 ≠ (TX0 b).2.1 := by decide +kernel
theorem tyX0_ok : ∀ k, k < 0 → parseFieldDescriptor (TX0 k).2.2.1 = some (tyX0 k) := by decide +kernel
abbrev cX0_init : ByteArray := prog_2_method_1_code
def yX0_init : MethodName := ⟨RX0, "<init>", "()V"⟩
abbrev cX0_loadOf : ByteArray := prog_2_method_2_code
def yX0_loadOf : MethodName := ⟨RX0, "loadOf", "(I)I"⟩
abbrev cX0_hears : ByteArray := prog_2_method_3_code
def yX0_hears : MethodName := ⟨RX0, "hears", "()Z"⟩
abbrev cX0_yields : ByteArray := prog_2_method_4_code
def yX0_yields : MethodName := ⟨RX0, "yields", "(LNineLedges$Goer;LNineLedges$Row;I)I"⟩
abbrev cX0_tells : ByteArray := prog_2_method_5_code
def yX0_tells : MethodName := ⟨RX0, "tells", "(LNineLedges$Goer;LNineLedges$Row;I)I"⟩
def RX1 : String := "NineLedges$Cliff"
def TX1 : u_T := fun k => match k with
  | 0 => ("NineLedges$Cliff", "space", "[I", true)
  | 1 => ("NineLedges$Cliff", "goers", "[LNineLedges$Goer;", true)
  | 2 => ("NineLedges$Cliff", "company", "I", false)
  | 3 => ("NineLedges$Cliff", "minute", "I", false)
  | 4 => ("NineLedges$Cliff", "takings", "I", false)
  | 5 => ("NineLedges$Cliff", "backs", "I", false)
  | 6 => ("NineLedges$Cliff", "z", "I", false)
  | 7 => ("NineLedges$Cliff", "tape", "LNineLedges$Row;", true)
  | 8 => ("NineLedges$Cliff", "waiting", "LNineLedges$Row;", true)
  | _ => ("NineLedges$Cliff", "laws", "[LNineLedges$Text;", true)
def tyX1 : Nat → FieldType := fun k => match k with
  | 0 => .array .int
  | 1 => .array (.object "NineLedges$Goer")
  | 2 => .int
  | 3 => .int
  | 4 => .int
  | 5 => .int
  | 6 => .int
  | 7 => .object "NineLedges$Row"
  | 8 => .object "NineLedges$Row"
  | _ => .array (.object "NineLedges$Text")
abbrev wsX10 : List Cond := u_ws RX1 TX1 10
theorem nmX1 : ∀ a, a < 10 → ∀ b, b < 10 → a ≠ b → (TX1 a).2.1 ≠ (TX1 b).2.1 := by decide +kernel
theorem tyX1_ok : ∀ k, k < 10 → parseFieldDescriptor (TX1 k).2.2.1 = some (tyX1 k) := by decide +kernel
abbrev cX1_init : ByteArray := prog_3_method_1_code
def yX1_init : MethodName := ⟨RX1, "<init>", "()V"⟩
abbrev cX1_copyFrom : ByteArray := prog_3_method_2_code
def yX1_copyFrom : MethodName := ⟨RX1, "copyFrom", "(LNineLedges$Cliff;)V"⟩
abbrev cX1_isLedge : ByteArray := prog_3_method_3_code
def yX1_isLedge : MethodName := ⟨RX1, "isLedge", "(I)Z"⟩
abbrev cX1_howManyLedges : ByteArray := prog_3_method_4_code
def yX1_howManyLedges : MethodName := ⟨RX1, "howManyLedges", "()I"⟩
abbrev cX1_ledgesBefore : ByteArray := prog_3_method_5_code
def yX1_ledgesBefore : MethodName := ⟨RX1, "ledgesBefore", "(I)I"⟩
abbrev cX1_ledgeAt : ByteArray := prog_3_method_6_code
def yX1_ledgeAt : MethodName := ⟨RX1, "ledgeAt", "(I)I"⟩
abbrev cX1_yardOf : ByteArray := prog_3_method_7_code
def yX1_yardOf : MethodName := ⟨RX1, "yardOf", "(I)I"⟩
abbrev cX1_crowdAt : ByteArray := prog_3_method_8_code
def yX1_crowdAt : MethodName := ⟨RX1, "crowdAt", "(I)I"⟩
abbrev cX1_howMany : ByteArray := prog_3_method_9_code
def yX1_howMany : MethodName := ⟨RX1, "howMany", "(I)I"⟩
abbrev cX1_refusesRoom : ByteArray := prog_3_method_10_code
def yX1_refusesRoom : MethodName := ⟨RX1, "refusesRoom", "(II)I"⟩
abbrev cX1_rankOf : ByteArray := prog_3_method_11_code
def yX1_rankOf : MethodName := ⟨RX1, "rankOf", "(LNineLedges$Goer;)I"⟩
abbrev cX1_draw : ByteArray := prog_3_method_12_code
def yX1_draw : MethodName := ⟨RX1, "draw", "()I"⟩
abbrev cX1_passMinute : ByteArray := prog_3_method_13_code
def yX1_passMinute : MethodName := ⟨RX1, "passMinute", "(Z)Z"⟩
abbrev cX1_walk : ByteArray := prog_3_method_14_code
def yX1_walk : MethodName := ⟨RX1, "walk", "(LNineLedges$Goer;Z)Z"⟩
abbrev cX1_isFree : ByteArray := prog_3_method_15_code
def yX1_isFree : MethodName := ⟨RX1, "isFree", "(I)Z"⟩
abbrev cX1_step : ByteArray := prog_3_method_16_code
def yX1_step : MethodName := ⟨RX1, "step", "(LNineLedges$Goer;I)V"⟩
abbrev cX1_hearsSomebody : ByteArray := prog_3_method_17_code
def yX1_hearsSomebody : MethodName := ⟨RX1, "hearsSomebody", "(LNineLedges$Goer;)Z"⟩
abbrev cX1_meet : ByteArray := prog_3_method_18_code
def yX1_meet : MethodName := ⟨RX1, "meet", "(LNineLedges$Goer;I)Z"⟩
abbrev cX1_givesWay : ByteArray := prog_3_method_19_code
def yX1_givesWay : MethodName := ⟨RX1, "givesWay", "(LNineLedges$Goer;ILNineLedges$Goer;I)Z"⟩
abbrev cX1_allOver : ByteArray := prog_3_method_20_code
def yX1_allOver : MethodName := ⟨RX1, "allOver", "()Z"⟩
abbrev cX1_someStartLater : ByteArray := prog_3_method_21_code
def yX1_someStartLater : MethodName := ⟨RX1, "someStartLater", "()Z"⟩
abbrev cX1_runTillOver : ByteArray := prog_3_method_22_code
def yX1_runTillOver : MethodName := ⟨RX1, "runTillOver", "()I"⟩
abbrev cX1_runTillStuck : ByteArray := prog_3_method_23_code
def yX1_runTillStuck : MethodName := ⟨RX1, "runTillStuck", "()I"⟩
def RX2 : String := "NineLedges$Coffin"
def TX2 : u_T := fun k => match k with
  | _ => ("", "", "", false)
def tyX2 : Nat → FieldType := fun k => match k with
  | _ => .int
abbrev wsX20 : List Cond := u_ws RX2 TX2 0
theorem nmX2 : ∀ a, a < 0 → ∀ b, b < 0 → a ≠ b → (TX2 a).2.1 ≠ (TX2 b).2.1 := by decide +kernel
theorem tyX2_ok : ∀ k, k < 0 → parseFieldDescriptor (TX2 k).2.2.1 = some (tyX2 k) := by decide +kernel
abbrev cX2_init : ByteArray := prog_4_method_1_code
def yX2_init : MethodName := ⟨RX2, "<init>", "()V"⟩
abbrev cX2_paceOf : ByteArray := prog_4_method_2_code
def yX2_paceOf : MethodName := ⟨RX2, "paceOf", "(I)I"⟩
abbrev cX2_loadOf : ByteArray := prog_4_method_3_code
def yX2_loadOf : MethodName := ⟨RX2, "loadOf", "(I)I"⟩
abbrev cX2_canBack : ByteArray := prog_4_method_4_code
def yX2_canBack : MethodName := ⟨RX2, "canBack", "(I)Z"⟩
abbrev cX2_blows : ByteArray := prog_4_method_5_code
def yX2_blows : MethodName := ⟨RX2, "blows", "(LNineLedges$Goer;LNineLedges$Row;I)I"⟩
def RX3 : String := "NineLedges$Goat"
def TX3 : u_T := fun k => match k with
  | _ => ("", "", "", false)
def tyX3 : Nat → FieldType := fun k => match k with
  | _ => .int
abbrev wsX30 : List Cond := u_ws RX3 TX3 0
theorem nmX3 : ∀ a, a < 0 → ∀ b, b < 0 → a ≠ b → (TX3 a).2.1 ≠ (TX3 b).2.1 := by decide +kernel
theorem tyX3_ok : ∀ k, k < 0 → parseFieldDescriptor (TX3 k).2.2.1 = some (tyX3 k) := by decide +kernel
abbrev cX3_init : ByteArray := prog_5_method_1_code
def yX3_init : MethodName := ⟨RX3, "<init>", "()V"⟩
abbrev cX3_loadOf : ByteArray := prog_5_method_2_code
def yX3_loadOf : MethodName := ⟨RX3, "loadOf", "(I)I"⟩
abbrev cX3_goes : ByteArray := prog_5_method_3_code
def yX3_goes : MethodName := ⟨RX3, "goes", "(LNineLedges$Goer;LNineLedges$Row;I)I"⟩
def RX4 : String := "NineLedges$Goer"
def TX4 : u_T := fun k => match k with
  | 0 => ("NineLedges$Goer", "number", "I", true)
  | 1 => ("NineLedges$Goer", "kind", "I", false)
  | 2 => ("NineLedges$Goer", "m", "I", false)
  | 3 => ("NineLedges$Goer", "from", "I", false)
  | 4 => ("NineLedges$Goer", "to", "I", false)
  | 5 => ("NineLedges$Goer", "start", "I", false)
  | 6 => ("NineLedges$Goer", "how", "I", false)
  | 7 => ("NineLedges$Goer", "yard", "I", false)
  | 8 => ("NineLedges$Goer", "wait", "I", false)
  | 9 => ("NineLedges$Goer", "backs", "Z", false)
  | 10 => ("NineLedges$Goer", "times", "I", false)
  | 11 => ("NineLedges$Goer", "atFault", "Z", false)
  | 12 => ("NineLedges$Goer", "pace", "I", false)
  | 13 => ("NineLedges$Goer", "load", "I", false)
  | 14 => ("NineLedges$Goer", "canBack", "Z", false)
  | _ => ("NineLedges$Goer", "hears", "Z", false)
def tyX4 : Nat → FieldType := fun k => match k with
  | 0 => .int
  | 1 => .int
  | 2 => .int
  | 3 => .int
  | 4 => .int
  | 5 => .int
  | 6 => .int
  | 7 => .int
  | 8 => .int
  | 9 => .boolean
  | 10 => .int
  | 11 => .boolean
  | 12 => .int
  | 13 => .int
  | 14 => .boolean
  | _ => .boolean
abbrev wsX40 : List Cond := u_ws RX4 TX4 16
theorem nmX4 : ∀ a, a < 16 → ∀ b, b < 16 → a ≠ b → (TX4 a).2.1 ≠ (TX4 b).2.1 := by decide +kernel
theorem tyX4_ok : ∀ k, k < 16 → parseFieldDescriptor (TX4 k).2.2.1 = some (tyX4 k) := by decide +kernel
abbrev cX4_init : ByteArray := prog_6_method_1_code
def yX4_init : MethodName := ⟨RX4, "<init>", "(I)V"⟩
abbrev cX4_turnInto : ByteArray := prog_6_method_2_code
def yX4_turnInto : MethodName := ⟨RX4, "turnInto", "(LNineLedges$Walker;II)V"⟩
abbrev cX4_sendHome : ByteArray := prog_6_method_3_code
def yX4_sendHome : MethodName := ⟨RX4, "sendHome", "()V"⟩
abbrev cX4_leave : ByteArray := prog_6_method_4_code
def yX4_leave : MethodName := ⟨RX4, "leave", "(I)V"⟩
abbrev cX4_enter : ByteArray := prog_6_method_5_code
def yX4_enter : MethodName := ⟨RX4, "enter", "()V"⟩
abbrev cX4_way : ByteArray := prog_6_method_6_code
def yX4_way : MethodName := ⟨RX4, "way", "()I"⟩
abbrev cX4_comesAgainst : ByteArray := prog_6_method_7_code
def yX4_comesAgainst : MethodName := ⟨RX4, "comesAgainst", "(LNineLedges$Goer;)Z"⟩
abbrev cX4_fact : ByteArray := prog_6_method_8_code
def yX4_fact : MethodName := ⟨RX4, "fact", "(I)I"⟩
abbrev cX4_copyFrom : ByteArray := prog_6_method_9_code
def yX4_copyFrom : MethodName := ⟨RX4, "copyFrom", "(LNineLedges$Goer;)V"⟩
def RX5 : String := "NineLedges$Herd"
def TX5 : u_T := fun k => match k with
  | _ => ("", "", "", false)
def tyX5 : Nat → FieldType := fun k => match k with
  | _ => .int
abbrev wsX50 : List Cond := u_ws RX5 TX5 0
theorem nmX5 : ∀ a, a < 0 → ∀ b, b < 0 → a ≠ b → (TX5 a).2.1 ≠ (TX5 b).2.1 := by decide +kernel
theorem tyX5_ok : ∀ k, k < 0 → parseFieldDescriptor (TX5 k).2.2.1 = some (tyX5 k) := by decide +kernel
abbrev cX5_init : ByteArray := prog_7_method_1_code
def yX5_init : MethodName := ⟨RX5, "<init>", "()V"⟩
abbrev cX5_paceOf : ByteArray := prog_7_method_2_code
def yX5_paceOf : MethodName := ⟨RX5, "paceOf", "(I)I"⟩
abbrev cX5_loadOf : ByteArray := prog_7_method_3_code
def yX5_loadOf : MethodName := ⟨RX5, "loadOf", "(I)I"⟩
abbrev cX5_tells : ByteArray := prog_7_method_4_code
def yX5_tells : MethodName := ⟨RX5, "tells", "(LNineLedges$Goer;LNineLedges$Row;I)I"⟩
def RX6 : String := "NineLedges$Row"
def TX6 : u_T := fun k => match k with
  | 0 => ("NineLedges$Row", "items", "[I", true)
  | _ => ("NineLedges$Row", "size", "I", false)
def tyX6 : Nat → FieldType := fun k => match k with
  | 0 => .array .int
  | _ => .int
abbrev wsX60 : List Cond := u_ws RX6 TX6 2
theorem nmX6 : ∀ a, a < 2 → ∀ b, b < 2 → a ≠ b → (TX6 a).2.1 ≠ (TX6 b).2.1 := by decide +kernel
theorem tyX6_ok : ∀ k, k < 2 → parseFieldDescriptor (TX6 k).2.2.1 = some (tyX6 k) := by decide +kernel
abbrev cX6_init : ByteArray := prog_8_method_1_code
def yX6_init : MethodName := ⟨RX6, "<init>", "(I)V"⟩
abbrev cX6_has : ByteArray := prog_8_method_2_code
def yX6_has : MethodName := ⟨RX6, "has", "(I)Z"⟩
abbrev cX6_hasRun : ByteArray := prog_8_method_3_code
def yX6_hasRun : MethodName := ⟨RX6, "hasRun", "(II)Z"⟩
abbrev cX6_at : ByteArray := prog_8_method_4_code
def yX6_at : MethodName := ⟨RX6, "at", "(I)I"⟩
abbrev cX6_set : ByteArray := prog_8_method_5_code
def yX6_set : MethodName := ⟨RX6, "set", "(II)V"⟩
abbrev cX6_add : ByteArray := prog_8_method_6_code
def yX6_add : MethodName := ⟨RX6, "add", "(I)Z"⟩
abbrev cX6_last : ByteArray := prog_8_method_7_code
def yX6_last : MethodName := ⟨RX6, "last", "()I"⟩
abbrev cX6_removeLast : ByteArray := prog_8_method_8_code
def yX6_removeLast : MethodName := ⟨RX6, "removeLast", "()I"⟩
abbrev cX6_clear : ByteArray := prog_8_method_9_code
def yX6_clear : MethodName := ⟨RX6, "clear", "()V"⟩
abbrev cX6_zeros : ByteArray := prog_8_method_10_code
def yX6_zeros : MethodName := ⟨RX6, "zeros", "(I)V"⟩
abbrev cX6_paste : ByteArray := prog_8_method_11_code
def yX6_paste : MethodName := ⟨RX6, "paste", "(ILNineLedges$Row;II)V"⟩
abbrev cX6_copyFrom : ByteArray := prog_8_method_12_code
def yX6_copyFrom : MethodName := ⟨RX6, "copyFrom", "(LNineLedges$Row;)V"⟩
def RX7 : String := "NineLedges$Sleeping"
def TX7 : u_T := fun k => match k with
  | _ => ("", "", "", false)
def tyX7 : Nat → FieldType := fun k => match k with
  | _ => .int
abbrev wsX70 : List Cond := u_ws RX7 TX7 0
theorem nmX7 : ∀ a, a < 0 → ∀ b, b < 0 → a ≠ b → (TX7 a).2.1 ≠ (TX7 b).2.1 := by decide +kernel
theorem tyX7_ok : ∀ k, k < 0 → parseFieldDescriptor (TX7 k).2.2.1 = some (tyX7 k) := by decide +kernel
abbrev cX7_init : ByteArray := prog_9_method_1_code
def yX7_init : MethodName := ⟨RX7, "<init>", "()V"⟩
abbrev cX7_paceOf : ByteArray := prog_9_method_2_code
def yX7_paceOf : MethodName := ⟨RX7, "paceOf", "(I)I"⟩
abbrev cX7_hears : ByteArray := prog_9_method_3_code
def yX7_hears : MethodName := ⟨RX7, "hears", "()Z"⟩
abbrev cX7_blows : ByteArray := prog_9_method_4_code
def yX7_blows : MethodName := ⟨RX7, "blows", "(LNineLedges$Goer;LNineLedges$Row;I)I"⟩
def RX8 : String := "NineLedges$Text"
def TX8 : u_T := fun k => match k with
  | 0 => ("NineLedges$Text", "least", "I", true)
  | 1 => ("NineLedges$Text", "most", "I", true)
  | 2 => ("NineLedges$Text", "code", "LNineLedges$Row;", true)
  | 3 => ("NineLedges$Text", "values", "LNineLedges$Row;", true)
  | 4 => ("NineLedges$Text", "pending", "LNineLedges$Row;", true)
  | 5 => ("NineLedges$Text", "names", "Ljava/lang/String;", false)
  | 6 => ("NineLedges$Text", "open", "I", false)
  | 7 => ("NineLedges$Text", "digits", "I", false)
  | _ => ("NineLedges$Text", "wantsOperand", "Z", false)
def tyX8 : Nat → FieldType := fun k => match k with
  | 0 => .int
  | 1 => .int
  | 2 => .object "NineLedges$Row"
  | 3 => .object "NineLedges$Row"
  | 4 => .object "NineLedges$Row"
  | 5 => .object "java/lang/String"
  | 6 => .int
  | 7 => .int
  | _ => .boolean
abbrev wsX80 : List Cond := u_ws RX8 TX8 9
theorem nmX8 : ∀ a, a < 9 → ∀ b, b < 9 → a ≠ b → (TX8 a).2.1 ≠ (TX8 b).2.1 := by decide +kernel
theorem tyX8_ok : ∀ k, k < 9 → parseFieldDescriptor (TX8 k).2.2.1 = some (tyX8 k) := by decide +kernel
abbrev cX8_init : ByteArray := prog_10_method_1_code
def yX8_init : MethodName := ⟨RX8, "<init>", "(II)V"⟩
abbrev cX8_copyFrom : ByteArray := prog_10_method_2_code
def yX8_copyFrom : MethodName := ⟨RX8, "copyFrom", "(LNineLedges$Text;)V"⟩
abbrev cX8_value : ByteArray := prog_10_method_3_code
def yX8_value : MethodName := ⟨RX8, "value", "(III)I"⟩
abbrev cX8_result : ByteArray := prog_10_method_4_code
def yX8_result : MethodName := ⟨RX8, "result", "(III)I"⟩
abbrev cX8_faultOf : ByteArray := prog_10_method_5_code
def yX8_faultOf : MethodName := ⟨RX8, "faultOf", "(LNineLedges$Row;Ljava/lang/String;)I"⟩
abbrev cX8_beginsOperand : ByteArray := prog_10_method_6_code
def yX8_beginsOperand : MethodName := ⟨RX8, "beginsOperand", "(I)Z"⟩
abbrev cX8_goesOn : ByteArray := prog_10_method_7_code
def yX8_goesOn : MethodName := ⟨RX8, "goesOn", "(I)Z"⟩
abbrev cX8_addsDigit : ByteArray := prog_10_method_8_code
def yX8_addsDigit : MethodName := ⟨RX8, "addsDigit", "(I)Z"⟩
abbrev cX8_closes : ByteArray := prog_10_method_9_code
def yX8_closes : MethodName := ⟨RX8, "closes", "()Z"⟩
abbrev cX8_release : ByteArray := prog_10_method_10_code
def yX8_release : MethodName := ⟨RX8, "release", "(I)V"⟩
abbrev cX8_isDigit : ByteArray := prog_10_method_11_code
def yX8_isDigit : MethodName := ⟨RX8, "isDigit", "(I)Z"⟩
abbrev cX8_levelOf : ByteArray := prog_10_method_12_code
def yX8_levelOf : MethodName := ⟨RX8, "levelOf", "(I)I"⟩
def RX9 : String := "NineLedges$Walker"
def TX9 : u_T := fun k => match k with
  | _ => ("", "", "", false)
def tyX9 : Nat → FieldType := fun k => match k with
  | _ => .int
abbrev wsX90 : List Cond := u_ws RX9 TX9 0
theorem nmX9 : ∀ a, a < 0 → ∀ b, b < 0 → a ≠ b → (TX9 a).2.1 ≠ (TX9 b).2.1 := by decide +kernel
theorem tyX9_ok : ∀ k, k < 0 → parseFieldDescriptor (TX9 k).2.2.1 = some (tyX9 k) := by decide +kernel
abbrev cX9_init : ByteArray := prog_11_method_1_code
def yX9_init : MethodName := ⟨RX9, "<init>", "()V"⟩
abbrev cX9_paceOf : ByteArray := prog_11_method_2_code
def yX9_paceOf : MethodName := ⟨RX9, "paceOf", "(I)I"⟩
abbrev cX9_loadOf : ByteArray := prog_11_method_3_code
def yX9_loadOf : MethodName := ⟨RX9, "loadOf", "(I)I"⟩
abbrev cX9_canBack : ByteArray := prog_11_method_4_code
def yX9_canBack : MethodName := ⟨RX9, "canBack", "(I)Z"⟩
abbrev cX9_hears : ByteArray := prog_11_method_5_code
def yX9_hears : MethodName := ⟨RX9, "hears", "()Z"⟩
abbrev cX9_goes : ByteArray := prog_11_method_6_code
def yX9_goes : MethodName := ⟨RX9, "goes", "(LNineLedges$Goer;LNineLedges$Row;I)I"⟩
abbrev cX9_blows : ByteArray := prog_11_method_7_code
def yX9_blows : MethodName := ⟨RX9, "blows", "(LNineLedges$Goer;LNineLedges$Row;I)I"⟩
abbrev cX9_yields : ByteArray := prog_11_method_8_code
def yX9_yields : MethodName := ⟨RX9, "yields", "(LNineLedges$Goer;LNineLedges$Row;I)I"⟩
abbrev cX9_tells : ByteArray := prog_11_method_9_code
def yX9_tells : MethodName := ⟨RX9, "tells", "(LNineLedges$Goer;LNineLedges$Row;I)I"⟩
def RX10 : String := "NineLedges$Wedding"
def TX10 : u_T := fun k => match k with
  | _ => ("", "", "", false)
def tyX10 : Nat → FieldType := fun k => match k with
  | _ => .int
abbrev wsX100 : List Cond := u_ws RX10 TX10 0
theorem nmX10 : ∀ a, a < 0 → ∀ b, b < 0 → a ≠ b → (TX10 a).2.1 ≠ (TX10 b).2.1 := by decide +kernel
theorem tyX10_ok : ∀ k, k < 0 → parseFieldDescriptor (TX10 k).2.2.1 = some (tyX10 k) := by decide +kernel
abbrev cX10_init : ByteArray := prog_12_method_1_code
def yX10_init : MethodName := ⟨RX10, "<init>", "()V"⟩
abbrev cX10_loadOf : ByteArray := prog_12_method_2_code
def yX10_loadOf : MethodName := ⟨RX10, "loadOf", "(I)I"⟩
abbrev cX10_canBack : ByteArray := prog_12_method_3_code
def yX10_canBack : MethodName := ⟨RX10, "canBack", "(I)Z"⟩
abbrev cX10_yields : ByteArray := prog_12_method_4_code
def yX10_yields : MethodName := ⟨RX10, "yields", "(LNineLedges$Goer;LNineLedges$Row;I)I"⟩
def RX11 : String := "NineLedges"
def TX11 : u_T := fun k => match k with
  | 0 => ("NineLedges", "kinds", "[LNineLedges$Walker;", true)
  | 1 => ("NineLedges", "now", "LNineLedges$Cliff;", true)
  | 2 => ("NineLedges", "ahead", "LNineLedges$Cliff;", true)
  | 3 => ("NineLedges", "kept", "LNineLedges$Cliff;", true)
  | 4 => ("NineLedges", "images", "I", false)
  | 5 => ("NineLedges", "draft", "LNineLedges$Text;", true)
  | 6 => ("NineLedges", "bodies", "LNineLedges$Row;", true)
  | 7 => ("NineLedges", "sheets", "[LNineLedges$Row;", true)
  | 8 => ("NineLedges", "sheetBits", "[I", true)
  | _ => ("NineLedges", "errors", "[I", true)
def tyX11 : Nat → FieldType := fun k => match k with
  | 0 => .array (.object "NineLedges$Walker")
  | 1 => .object "NineLedges$Cliff"
  | 2 => .object "NineLedges$Cliff"
  | 3 => .object "NineLedges$Cliff"
  | 4 => .int
  | 5 => .object "NineLedges$Text"
  | 6 => .object "NineLedges$Row"
  | 7 => .array (.object "NineLedges$Row")
  | 8 => .array .int
  | _ => .array .int
abbrev wsX110 : List Cond := u_ws RX11 TX11 10
theorem nmX11 : ∀ a, a < 10 → ∀ b, b < 10 → a ≠ b → (TX11 a).2.1 ≠ (TX11 b).2.1 := by decide +kernel
theorem tyX11_ok : ∀ k, k < 10 → parseFieldDescriptor (TX11 k).2.2.1 = some (tyX11 k) := by decide +kernel
abbrev cX11_init : ByteArray := prog_1_method_1_code
def yX11_init : MethodName := ⟨RX11, "<init>", "()V"⟩
abbrev cX11_room : ByteArray := prog_1_method_2_code
def yX11_room : MethodName := ⟨RX11, "room", "(II)I"⟩
abbrev cX11_ofYard : ByteArray := prog_1_method_3_code
def yX11_ofYard : MethodName := ⟨RX11, "ofYard", "(II)I"⟩
abbrev cX11_goer : ByteArray := prog_1_method_4_code
def yX11_goer : MethodName := ⟨RX11, "goer", "(IIII)I"⟩
abbrev cX11_ofGoer : ByteArray := prog_1_method_5_code
def yX11_ofGoer : MethodName := ⟨RX11, "ofGoer", "(II)I"⟩
abbrev cX11_become : ByteArray := prog_1_method_6_code
def yX11_become : MethodName := ⟨RX11, "become", "(II)I"⟩
abbrev cX11_as : ByteArray := prog_1_method_7_code
def yX11_as : MethodName := ⟨RX11, "as", "(II)I"⟩
abbrev cX11_start : ByteArray := prog_1_method_8_code
def yX11_start : MethodName := ⟨RX11, "start", "(II)I"⟩
abbrev cX11_home : ByteArray := prog_1_method_9_code
def yX11_home : MethodName := ⟨RX11, "home", "(I)I"⟩
abbrev cX11_feed : ByteArray := prog_1_method_10_code
def yX11_feed : MethodName := ⟨RX11, "feed", "(JI)I"⟩
abbrev cX11_text : ByteArray := prog_1_method_11_code
def yX11_text : MethodName := ⟨RX11, "text", "(I)I"⟩
abbrev cX11_law : ByteArray := prog_1_method_12_code
def yX11_law : MethodName := ⟨RX11, "law", "(IIII)I"⟩
abbrev cX11_minutes : ByteArray := prog_1_method_13_code
def yX11_minutes : MethodName := ⟨RX11, "minutes", "(I)I"⟩
abbrev cX11_loose : ByteArray := prog_1_method_14_code
def yX11_loose : MethodName := ⟨RX11, "loose", "(I)I"⟩
abbrev cX11_then : ByteArray := prog_1_method_15_code
def yX11_then : MethodName := ⟨RX11, "then", "(III)I"⟩
abbrev cX11_overBy : ByteArray := prog_1_method_16_code
def yX11_overBy : MethodName := ⟨RX11, "overBy", "()I"⟩
abbrev cX11_stuckBy : ByteArray := prog_1_method_17_code
def yX11_stuckBy : MethodName := ⟨RX11, "stuckBy", "()I"⟩
abbrev cX11_bestStart : ByteArray := prog_1_method_18_code
def yX11_bestStart : MethodName := ⟨RX11, "bestStart", "(II)I"⟩
abbrev cX11_spare : ByteArray := prog_1_method_19_code
def yX11_spare : MethodName := ⟨RX11, "spare", "(I)I"⟩
abbrev cX11_without : ByteArray := prog_1_method_20_code
def yX11_without : MethodName := ⟨RX11, "without", "(I)I"⟩
abbrev cX11_newOne : ByteArray := prog_1_method_21_code
def yX11_newOne : MethodName := ⟨RX11, "newOne", "(I)I"⟩
abbrev cX11_faults : ByteArray := prog_1_method_22_code
def yX11_faults : MethodName := ⟨RX11, "faults", "()I"⟩
abbrev cX11_seed : ByteArray := prog_1_method_23_code
def yX11_seed : MethodName := ⟨RX11, "seed", "(I)I"⟩
abbrev cX11_voice : ByteArray := prog_1_method_24_code
def yX11_voice : MethodName := ⟨RX11, "voice", "(III)I"⟩
abbrev cX11_trace : ByteArray := prog_1_method_25_code
def yX11_trace : MethodName := ⟨RX11, "trace", "(I)I"⟩
abbrev cX11_sheet : ByteArray := prog_1_method_26_code
def yX11_sheet : MethodName := ⟨RX11, "sheet", "(III)I"⟩
abbrev cX11_put : ByteArray := prog_1_method_27_code
def yX11_put : MethodName := ⟨RX11, "put", "(III)I"⟩
abbrev cX11_move : ByteArray := prog_1_method_28_code
def yX11_move : MethodName := ⟨RX11, "move", "(IIIII)I"⟩
abbrev cX11_rooms : ByteArray := prog_1_method_29_code
def yX11_rooms : MethodName := ⟨RX11, "rooms", "(I)I"⟩
abbrev cX11_judge : ByteArray := prog_1_method_30_code
def yX11_judge : MethodName := ⟨RX11, "judge", "(I)I"⟩
abbrev cX11_image : ByteArray := prog_1_method_31_code
def yX11_image : MethodName := ⟨RX11, "image", "()I"⟩
abbrev cX11_restore : ByteArray := prog_1_method_32_code
def yX11_restore : MethodName := ⟨RX11, "restore", "()I"⟩
abbrev cX11_tell : ByteArray := prog_1_method_33_code
def yX11_tell : MethodName := ⟨RX11, "tell", "(I)I"⟩
abbrev cX11_check : ByteArray := prog_1_method_34_code
def yX11_check : MethodName := ⟨RX11, "check", "()I"⟩
abbrev cX11_count : ByteArray := prog_1_method_35_code
def yX11_count : MethodName := ⟨RX11, "count", "(I)I"⟩
abbrev cX11_told : ByteArray := prog_1_method_36_code
def yX11_told : MethodName := ⟨RX11, "told", "(I)I"⟩
abbrev cX11_fail : ByteArray := prog_1_method_37_code
def yX11_fail : MethodName := ⟨RX11, "fail", "(I)I"⟩
abbrev cX11_orNone : ByteArray := prog_1_method_38_code
def yX11_orNone : MethodName := ⟨RX11, "orNone", "(I)I"⟩
abbrev cX11_isGoer : ByteArray := prog_1_method_39_code
def yX11_isGoer : MethodName := ⟨RX11, "isGoer", "(I)Z"⟩
abbrev cX11_refusesMinutes : ByteArray := prog_1_method_40_code
def yX11_refusesMinutes : MethodName := ⟨RX11, "refusesMinutes", "(I)I"⟩
abbrev cX11_refusesSheet : ByteArray := prog_1_method_41_code
def yX11_refusesSheet : MethodName := ⟨RX11, "refusesSheet", "(I)I"⟩
abbrev cX11_isYard : ByteArray := prog_1_method_42_code
def yX11_isYard : MethodName := ⟨RX11, "isYard", "(I)Z"⟩
abbrev cX11_isStart : ByteArray := prog_1_method_43_code
def yX11_isStart : MethodName := ⟨RX11, "isStart", "(I)Z"⟩
abbrev cX11_isKindAndNumber : ByteArray := prog_1_method_44_code
def yX11_isKindAndNumber : MethodName := ⟨RX11, "isKindAndNumber", "(I)Z"⟩
abbrev cX11_isUse : ByteArray := prog_1_method_45_code
def yX11_isUse : MethodName := ⟨RX11, "isUse", "(I)Z"⟩
abbrev cX11_isSheet : ByteArray := prog_1_method_46_code
def yX11_isSheet : MethodName := ⟨RX11, "isSheet", "(I)Z"⟩
abbrev cX11_isWidth : ByteArray := prog_1_method_47_code
def yX11_isWidth : MethodName := ⟨RX11, "isWidth", "(I)Z"⟩
abbrev cX11_isUnder : ByteArray := prog_1_method_48_code
def yX11_isUnder : MethodName := ⟨RX11, "isUnder", "(II)Z"⟩
abbrev cX11_lowest : ByteArray := prog_1_method_49_code
def yX11_lowest : MethodName := ⟨RX11, "lowest", "(II)I"⟩
def RX12 : String := "NineLedgesModel"
def TX12 : u_T := fun k => match k with
  | 0 => ("NineLedgesModel", "d", "[I", true)
  | 1 => ("NineLedgesModel", "kept", "[I", true)
  | 2 => ("NineLedgesModel", "aside", "[I", true)
  | 3 => ("NineLedgesModel", "images", "I", false)
  | 4 => ("NineLedgesModel", "found", "[I", true)
  | 5 => ("NineLedgesModel", "base", "I", false)
  | 6 => ("NineLedgesModel", "at", "I", false)
  | 7 => ("NineLedgesModel", "size", "I", false)
  | 8 => ("NineLedgesModel", "fault", "I", false)
  | 9 => ("NineLedgesModel", "opened", "I", false)
  | 10 => ("NineLedgesModel", "isToll", "Z", false)
  | 11 => ("NineLedgesModel", "names", "[I", true)
  | 12 => ("NineLedgesModel", "overAt", "I", false)
  | 13 => ("NineLedgesModel", "backsThen", "I", false)
  | 14 => ("NineLedgesModel", "stood", "[I", true)
  | 15 => ("NineLedgesModel", "bestAt", "I", false)
  | 16 => ("NineLedgesModel", "bestOver", "I", false)
  | 17 => ("NineLedgesModel", "bestBacks", "I", false)
  | 18 => ("NineLedgesModel", "traced", "[I", true)
  | 19 => ("NineLedgesModel", "traceMany", "I", false)
  | 20 => ("NineLedgesModel", "who", "I", false)
  | 21 => ("NineLedgesModel", "bitsOf", "[I", true)
  | 22 => ("NineLedgesModel", "sizeOf", "[I", true)
  | 23 => ("NineLedgesModel", "number", "[I", true)
  | _ => ("NineLedgesModel", "lifted", "[I", true)
def tyX12 : Nat → FieldType := fun k => match k with
  | 0 => .array .int
  | 1 => .array .int
  | 2 => .array .int
  | 3 => .int
  | 4 => .array .int
  | 5 => .int
  | 6 => .int
  | 7 => .int
  | 8 => .int
  | 9 => .int
  | 10 => .boolean
  | 11 => .array .int
  | 12 => .int
  | 13 => .int
  | 14 => .array .int
  | 15 => .int
  | 16 => .int
  | 17 => .int
  | 18 => .array .int
  | 19 => .int
  | 20 => .int
  | 21 => .array .int
  | 22 => .array .int
  | 23 => .array .int
  | _ => .array .int
abbrev wsX120 : List Cond := u_ws RX12 TX12 25
theorem nmX12 : ∀ a, a < 25 → ∀ b, b < 25 → a ≠ b → (TX12 a).2.1 ≠ (TX12 b).2.1 := by decide +kernel
theorem tyX12_ok : ∀ k, k < 25 → parseFieldDescriptor (TX12 k).2.2.1 = some (tyX12 k) := by decide +kernel
abbrev cX12_init : ByteArray := prog_14_method_1_code
def yX12_init : MethodName := ⟨RX12, "<init>", "()V"⟩
abbrev cX12_finds : ByteArray := prog_14_method_3_code
def yX12_finds : MethodName := ⟨RX12, "finds", "(I)I"⟩
abbrev cX12_in : ByteArray := prog_14_method_4_code
def yX12_in : MethodName := ⟨RX12, "in", "(JJJ)Z"⟩
abbrev cX12_held : ByteArray := prog_14_method_5_code
def yX12_held : MethodName := ⟨RX12, "held", "(III)I"⟩
abbrev cX12_isGoer : ByteArray := prog_14_method_6_code
def yX12_isGoer : MethodName := ⟨RX12, "isGoer", "(I)Z"⟩
abbrev cX12_isYard : ByteArray := prog_14_method_7_code
def yX12_isYard : MethodName := ⟨RX12, "isYard", "(I)Z"⟩
abbrev cX12_of : ByteArray := prog_14_method_8_code
def yX12_of : MethodName := ⟨RX12, "of", "(II)I"⟩
abbrev cX12_sets : ByteArray := prog_14_method_9_code
def yX12_sets : MethodName := ⟨RX12, "sets", "(III)V"⟩
abbrev cX12_keepAside : ByteArray := prog_14_method_10_code
def yX12_keepAside : MethodName := ⟨RX12, "keepAside", "()V"⟩
abbrev cX12_putBack : ByteArray := prog_14_method_11_code
def yX12_putBack : MethodName := ⟨RX12, "putBack", "()V"⟩
abbrev cX12_here : ByteArray := prog_14_method_12_code
def yX12_here : MethodName := ⟨RX12, "here", "()I"⟩
abbrev cX12_wrong : ByteArray := prog_14_method_13_code
def yX12_wrong : MethodName := ⟨RX12, "wrong", "()I"⟩
abbrev cX12_takes : ByteArray := prog_14_method_14_code
def yX12_takes : MethodName := ⟨RX12, "takes", "(I)Z"⟩
abbrev cX12_nameOf : ByteArray := prog_14_method_15_code
def yX12_nameOf : MethodName := ⟨RX12, "nameOf", "(I)I"⟩
abbrev cX12_either : ByteArray := prog_14_method_16_code
def yX12_either : MethodName := ⟨RX12, "either", "()I"⟩
abbrev cX12_both : ByteArray := prog_14_method_17_code
def yX12_both : MethodName := ⟨RX12, "both", "()I"⟩
abbrev cX12_compared : ByteArray := prog_14_method_18_code
def yX12_compared : MethodName := ⟨RX12, "compared", "()I"⟩
abbrev cX12_sum : ByteArray := prog_14_method_19_code
def yX12_sum : MethodName := ⟨RX12, "sum", "()I"⟩
abbrev cX12_product : ByteArray := prog_14_method_20_code
def yX12_product : MethodName := ⟨RX12, "product", "()I"⟩
abbrev cX12_unit : ByteArray := prog_14_method_21_code
def yX12_unit : MethodName := ⟨RX12, "unit", "()I"⟩
abbrev cX12_worked : ByteArray := prog_14_method_22_code
def yX12_worked : MethodName := ⟨RX12, "worked", "(III)I"⟩
abbrev cX12_feed : ByteArray := prog_14_method_23_code
def yX12_feed : MethodName := ⟨RX12, "feed", "(JI)I"⟩
abbrev cX12_text : ByteArray := prog_14_method_24_code
def yX12_text : MethodName := ⟨RX12, "text", "(I)I"⟩
abbrev cX12_textGives : ByteArray := prog_14_method_25_code
def yX12_textGives : MethodName := ⟨RX12, "textGives", "(IIII)I"⟩
abbrev cX12_law : ByteArray := prog_14_method_26_code
def yX12_law : MethodName := ⟨RX12, "law", "(IIII)I"⟩
abbrev cX12_isLedge : ByteArray := prog_14_method_27_code
def yX12_isLedge : MethodName := ⟨RX12, "isLedge", "(I)Z"⟩
abbrev cX12_atYard : ByteArray := prog_14_method_28_code
def yX12_atYard : MethodName := ⟨RX12, "atYard", "(I)I"⟩
abbrev cX12_ledgesBefore : ByteArray := prog_14_method_29_code
def yX12_ledgesBefore : MethodName := ⟨RX12, "ledgesBefore", "(I)I"⟩
abbrev cX12_roomFinds : ByteArray := prog_14_method_30_code
def yX12_roomFinds : MethodName := ⟨RX12, "roomFinds", "(II)I"⟩
abbrev cX12_room : ByteArray := prog_14_method_31_code
def yX12_room : MethodName := ⟨RX12, "room", "(II)I"⟩
abbrev cX12_ofYard : ByteArray := prog_14_method_32_code
def yX12_ofYard : MethodName := ⟨RX12, "ofYard", "(II)I"⟩
abbrev cX12_paceOf : ByteArray := prog_14_method_33_code
def yX12_paceOf : MethodName := ⟨RX12, "paceOf", "(I)I"⟩
abbrev cX12_loadOf : ByteArray := prog_14_method_34_code
def yX12_loadOf : MethodName := ⟨RX12, "loadOf", "(I)I"⟩
abbrev cX12_canBack : ByteArray := prog_14_method_35_code
def yX12_canBack : MethodName := ⟨RX12, "canBack", "(I)Z"⟩
abbrev cX12_hears : ByteArray := prog_14_method_36_code
def yX12_hears : MethodName := ⟨RX12, "hears", "(I)Z"⟩
abbrev cX12_rankOf : ByteArray := prog_14_method_37_code
def yX12_rankOf : MethodName := ⟨RX12, "rankOf", "(I)I"⟩
abbrev cX12_sendHome : ByteArray := prog_14_method_38_code
def yX12_sendHome : MethodName := ⟨RX12, "sendHome", "(I)V"⟩
abbrev cX12_goer : ByteArray := prog_14_method_39_code
def yX12_goer : MethodName := ⟨RX12, "goer", "(IIII)I"⟩
abbrev cX12_ofGoer : ByteArray := prog_14_method_40_code
def yX12_ofGoer : MethodName := ⟨RX12, "ofGoer", "(II)I"⟩
abbrev cX12_become : ByteArray := prog_14_method_41_code
def yX12_become : MethodName := ⟨RX12, "become", "(II)I"⟩
abbrev cX12_above : ByteArray := prog_14_method_42_code
def yX12_above : MethodName := ⟨RX12, "above", "(I)I"⟩
abbrev cX12_as : ByteArray := prog_14_method_43_code
def yX12_as : MethodName := ⟨RX12, "as", "(II)I"⟩
abbrev cX12_start : ByteArray := prog_14_method_44_code
def yX12_start : MethodName := ⟨RX12, "start", "(II)I"⟩
abbrev cX12_home : ByteArray := prog_14_method_45_code
def yX12_home : MethodName := ⟨RX12, "home", "(I)I"⟩
abbrev cX12_faces : ByteArray := prog_14_method_46_code
def yX12_faces : MethodName := ⟨RX12, "faces", "(I)I"⟩
abbrev cX12_against : ByteArray := prog_14_method_47_code
def yX12_against : MethodName := ⟨RX12, "against", "(II)I"⟩
abbrev cX12_isHeard : ByteArray := prog_14_method_48_code
def yX12_isHeard : MethodName := ⟨RX12, "isHeard", "(I)Z"⟩
abbrev cX12_meets : ByteArray := prog_14_method_49_code
def yX12_meets : MethodName := ⟨RX12, "meets", "(II)V"⟩
abbrev cX12_comes : ByteArray := prog_14_method_50_code
def yX12_comes : MethodName := ⟨RX12, "comes", "(II)V"⟩
abbrev cX12_goesOn : ByteArray := prog_14_method_51_code
def yX12_goesOn : MethodName := ⟨RX12, "goesOn", "(IZ)V"⟩
abbrev cX12_aMinute : ByteArray := prog_14_method_52_code
def yX12_aMinute : MethodName := ⟨RX12, "aMinute", "(Z)V"⟩
abbrev cX12_howMany : ByteArray := prog_14_method_53_code
def yX12_howMany : MethodName := ⟨RX12, "howMany", "(I)I"⟩
abbrev cX12_drawn : ByteArray := prog_14_method_54_code
def yX12_drawn : MethodName := ⟨RX12, "drawn", "()I"⟩
abbrev cX12_passes : ByteArray := prog_14_method_55_code
def yX12_passes : MethodName := ⟨RX12, "passes", "(IZ)I"⟩
abbrev cX12_minutes : ByteArray := prog_14_method_56_code
def yX12_minutes : MethodName := ⟨RX12, "minutes", "(I)I"⟩
abbrev cX12_loose : ByteArray := prog_14_method_57_code
def yX12_loose : MethodName := ⟨RX12, "loose", "(I)I"⟩
abbrev cX12_then : ByteArray := prog_14_method_58_code
def yX12_then : MethodName := ⟨RX12, "then", "(III)I"⟩
abbrev cX12_findOver : ByteArray := prog_14_method_59_code
def yX12_findOver : MethodName := ⟨RX12, "findOver", "()V"⟩
abbrev cX12_overBy : ByteArray := prog_14_method_60_code
def yX12_overBy : MethodName := ⟨RX12, "overBy", "()I"⟩
abbrev cX12_keepStood : ByteArray := prog_14_method_61_code
def yX12_keepStood : MethodName := ⟨RX12, "keepStood", "()V"⟩
abbrev cX12_isAsItStood : ByteArray := prog_14_method_62_code
def yX12_isAsItStood : MethodName := ⟨RX12, "isAsItStood", "()Z"⟩
abbrev cX12_mayBeStuck : ByteArray := prog_14_method_63_code
def yX12_mayBeStuck : MethodName := ⟨RX12, "mayBeStuck", "()Z"⟩
abbrev cX12_stuckBy : ByteArray := prog_14_method_64_code
def yX12_stuckBy : MethodName := ⟨RX12, "stuckBy", "()I"⟩
abbrev cX12_findBestStart : ByteArray := prog_14_method_65_code
def yX12_findBestStart : MethodName := ⟨RX12, "findBestStart", "(I)V"⟩
abbrev cX12_bestStart : ByteArray := prog_14_method_66_code
def yX12_bestStart : MethodName := ⟨RX12, "bestStart", "(II)I"⟩
abbrev cX12_spareOf : ByteArray := prog_14_method_67_code
def yX12_spareOf : MethodName := ⟨RX12, "spareOf", "(II)I"⟩
abbrev cX12_spare : ByteArray := prog_14_method_68_code
def yX12_spare : MethodName := ⟨RX12, "spare", "(I)I"⟩
abbrev cX12_overWith : ByteArray := prog_14_method_69_code
def yX12_overWith : MethodName := ⟨RX12, "overWith", "(II)I"⟩
abbrev cX12_without : ByteArray := prog_14_method_70_code
def yX12_without : MethodName := ⟨RX12, "without", "(I)I"⟩
abbrev cX12_newOne : ByteArray := prog_14_method_71_code
def yX12_newOne : MethodName := ⟨RX12, "newOne", "(I)I"⟩
abbrev cX12_faults : ByteArray := prog_14_method_72_code
def yX12_faults : MethodName := ⟨RX12, "faults", "()I"⟩
abbrev cX12_seed : ByteArray := prog_14_method_73_code
def yX12_seed : MethodName := ⟨RX12, "seed", "(I)I"⟩
abbrev cX12_ran : ByteArray := prog_14_method_74_code
def yX12_ran : MethodName := ⟨RX12, "ran", "(I)V"⟩
abbrev cX12_own : ByteArray := prog_14_method_75_code
def yX12_own : MethodName := ⟨RX12, "own", "()I"⟩
abbrev cX12_goesBy : ByteArray := prog_14_method_76_code
def yX12_goesBy : MethodName := ⟨RX12, "goesBy", "(II)I"⟩
abbrev cX12_blowsBy : ByteArray := prog_14_method_77_code
def yX12_blowsBy : MethodName := ⟨RX12, "blowsBy", "(II)I"⟩
abbrev cX12_yieldsBy : ByteArray := prog_14_method_78_code
def yX12_yieldsBy : MethodName := ⟨RX12, "yieldsBy", "(II)I"⟩
abbrev cX12_tellsBy : ByteArray := prog_14_method_79_code
def yX12_tellsBy : MethodName := ⟨RX12, "tellsBy", "(II)I"⟩
abbrev cX12_voice : ByteArray := prog_14_method_80_code
def yX12_voice : MethodName := ⟨RX12, "voice", "(III)I"⟩
abbrev cX12_trace : ByteArray := prog_14_method_81_code
def yX12_trace : MethodName := ⟨RX12, "trace", "(I)I"⟩
abbrev cX12_isSheet : ByteArray := prog_14_method_82_code
def yX12_isSheet : MethodName := ⟨RX12, "isSheet", "(I)Z"⟩
abbrev cX12_sheet : ByteArray := prog_14_method_83_code
def yX12_sheet : MethodName := ⟨RX12, "sheet", "(III)I"⟩
abbrev cX12_put : ByteArray := prog_14_method_84_code
def yX12_put : MethodName := ⟨RX12, "put", "(III)I"⟩
abbrev cX12_move : ByteArray := prog_14_method_85_code
def yX12_move : MethodName := ⟨RX12, "move", "(IIIII)I"⟩
abbrev cX12_rooms : ByteArray := prog_14_method_86_code
def yX12_rooms : MethodName := ⟨RX12, "rooms", "(I)I"⟩
abbrev cX12_judge : ByteArray := prog_14_method_87_code
def yX12_judge : MethodName := ⟨RX12, "judge", "(I)I"⟩
abbrev cX12_image : ByteArray := prog_14_method_88_code
def yX12_image : MethodName := ⟨RX12, "image", "()I"⟩
abbrev cX12_restore : ByteArray := prog_14_method_89_code
def yX12_restore : MethodName := ⟨RX12, "restore", "()I"⟩
abbrev cX12_tell : ByteArray := prog_14_method_90_code
def yX12_tell : MethodName := ⟨RX12, "tell", "(I)I"⟩
abbrev cX12_check : ByteArray := prog_14_method_91_code
def yX12_check : MethodName := ⟨RX12, "check", "()I"⟩
abbrev cX12_count : ByteArray := prog_14_method_92_code
def yX12_count : MethodName := ⟨RX12, "count", "(I)I"⟩
abbrev cX12_told : ByteArray := prog_14_method_93_code
def yX12_told : MethodName := ⟨RX12, "told", "(I)I"⟩
def RJ11 : String := "java/lang/Character"
def TJ11 : u_T := fun k => match k with
  | _ => ("", "", "", false)
def tyJ11 : Nat → FieldType := fun k => match k with
  | _ => .int
abbrev wsJ110 : List Cond := u_ws RJ11 TJ11 0
theorem nmJ11 : ∀ a, a < 0 → ∀ b, b < 0 → a ≠ b → (TJ11 a).2.1 ≠ (TJ11 b).2.1 := by decide +kernel
theorem tyJ11_ok : ∀ k, k < 0 → parseFieldDescriptor (TJ11 k).2.2.1 = some (tyJ11 k) := by decide +kernel
abbrev cJ11_isValidCodePoint_9a6ad : ByteArray := prog_15_method_11_code
def yJ11_isValidCodePoint_9a6ad : MethodName := ⟨RJ11, "isValidCodePoint", "(I)Z"⟩
abbrev cJ11_highSurrogate_5068e : ByteArray := prog_15_method_28_code
def yJ11_highSurrogate_5068e : MethodName := ⟨RJ11, "highSurrogate", "(I)C"⟩
abbrev cJ11_lowSurrogate_5068e : ByteArray := prog_15_method_29_code
def yJ11_lowSurrogate_5068e : MethodName := ⟨RJ11, "lowSurrogate", "(I)C"⟩
def RJ9 : String := "java/lang/Math"
def TJ9 : u_T := fun k => match k with
  | _ => ("", "", "", false)
def tyJ9 : Nat → FieldType := fun k => match k with
  | _ => .int
abbrev wsJ90 : List Cond := u_ws RJ9 TJ9 0
theorem nmJ9 : ∀ a, a < 0 → ∀ b, b < 0 → a ≠ b → (TJ9 a).2.1 ≠ (TJ9 b).2.1 := by decide +kernel
theorem tyJ9_ok : ∀ k, k < 0 → parseFieldDescriptor (TJ9 k).2.2.1 = some (tyJ9 k) := by decide +kernel
abbrev cJ9_max_7cf53 : ByteArray := prog_16_method_65_code
def yJ9_max_7cf53 : MethodName := ⟨RJ9, "max", "(II)I"⟩
abbrev cJ9_min_7cf53 : ByteArray := prog_16_method_69_code
def yJ9_min_7cf53 : MethodName := ⟨RJ9, "min", "(II)I"⟩
def RJ0 : String := "java/lang/String"
def TJ0 : u_T := fun k => match k with
  | _ => ("", "", "", false)
def tyJ0 : Nat → FieldType := fun k => match k with
  | _ => .int
abbrev wsJ00 : List Cond := u_ws RJ0 TJ0 0
theorem nmJ0 : ∀ a, a < 0 → ∀ b, b < 0 → a ≠ b → (TJ0 a).2.1 ≠ (TJ0 b).2.1 := by decide +kernel
theorem tyJ0_ok : ∀ k, k < 0 → parseFieldDescriptor (TJ0 k).2.2.1 = some (tyJ0 k) := by decide +kernel
abbrev cJ0_length_8abf5 : ByteArray := prog_17_method_54_code
def yJ0_length_8abf5 : MethodName := ⟨RJ0, "length", "()I"⟩
abbrev cJ0_indexOf_0f7a4 : ByteArray := prog_17_method_79_code
def yJ0_indexOf_0f7a4 : MethodName := ⟨RJ0, "indexOf", "(I)I"⟩
abbrev cJ0_indexOf_7cf53 : ByteArray := prog_17_method_80_code
def yJ0_indexOf_7cf53 : MethodName := ⟨RJ0, "indexOf", "(II)I"⟩
abbrev cJ0_coder_7d493 : ByteArray := prog_17_method_152_code
def yJ0_coder_7d493 : MethodName := ⟨RJ0, "coder", "()B"⟩
abbrev cJ0_isLatin1_aae02 : ByteArray := prog_17_method_154_code
def yJ0_isLatin1_aae02 : MethodName := ⟨RJ0, "isLatin1", "()Z"⟩
abbrev cJ0_checkBoundsBeginEnd_23922 : ByteArray := prog_17_method_158_code
def yJ0_checkBoundsBeginEnd_23922 : MethodName := ⟨RJ0, "checkBoundsBeginEnd", "(III)V"⟩
def RJ1 : String := "java/lang/StringLatin1"
def TJ1 : u_T := fun k => match k with
  | _ => ("", "", "", false)
def tyJ1 : Nat → FieldType := fun k => match k with
  | _ => .int
abbrev wsJ10 : List Cond := u_ws RJ1 TJ1 0
theorem nmJ1 : ∀ a, a < 0 → ∀ b, b < 0 → a ≠ b → (TJ1 a).2.1 ≠ (TJ1 b).2.1 := by decide +kernel
theorem tyJ1_ok : ∀ k, k < 0 → parseFieldDescriptor (TJ1 k).2.2.1 = some (tyJ1 k) := by decide +kernel
abbrev cJ1_canEncode_9a6ad : ByteArray := prog_18_method_4_code
def yJ1_canEncode_9a6ad : MethodName := ⟨RJ1, "canEncode", "(I)Z"⟩
abbrev cJ1_indexOf_4cfef : ByteArray := prog_18_method_22_code
def yJ1_indexOf_4cfef : MethodName := ⟨RJ1, "indexOf", "([BIII)I"⟩
abbrev cJ1_indexOfChar_4cfef : ByteArray := prog_18_method_23_code
def yJ1_indexOfChar_4cfef : MethodName := ⟨RJ1, "indexOfChar", "([BIII)I"⟩
def RJ2 : String := "java/lang/StringUTF16"
def TJ2 : u_T := fun k => match k with
  | _ => ("", "", "", false)
def tyJ2 : Nat → FieldType := fun k => match k with
  | _ => .int
abbrev wsJ20 : List Cond := u_ws RJ2 TJ2 0
theorem nmJ2 : ∀ a, a < 0 → ∀ b, b < 0 → a ≠ b → (TJ2 a).2.1 ≠ (TJ2 b).2.1 := by decide +kernel
theorem tyJ2_ok : ∀ k, k < 0 → parseFieldDescriptor (TJ2 k).2.2.1 = some (tyJ2 k) := by decide +kernel
abbrev cJ2_getChar_3b067 : ByteArray := prog_19_method_5_code
def yJ2_getChar_3b067 : MethodName := ⟨RJ2, "getChar", "([BI)C"⟩
abbrev cJ2_length_9d52b : ByteArray := prog_19_method_6_code
def yJ2_length_9d52b : MethodName := ⟨RJ2, "length", "([B)I"⟩
abbrev cJ2_indexOf_4cfef : ByteArray := prog_19_method_40_code
def yJ2_indexOf_4cfef : MethodName := ⟨RJ2, "indexOf", "([BIII)I"⟩
abbrev cJ2_indexOfChar_4cfef : ByteArray := prog_19_method_47_code
def yJ2_indexOfChar_4cfef : MethodName := ⟨RJ2, "indexOfChar", "([BIII)I"⟩
abbrev cJ2_indexOfCharUnsafe_4cfef : ByteArray := prog_19_method_48_code
def yJ2_indexOfCharUnsafe_4cfef : MethodName := ⟨RJ2, "indexOfCharUnsafe", "([BIII)I"⟩
abbrev cJ2_indexOfSupplementary_4cfef : ByteArray := prog_19_method_49_code
def yJ2_indexOfSupplementary_4cfef : MethodName := ⟨RJ2, "indexOfSupplementary", "([BIII)I"⟩
abbrev cJ2_checkBoundsBeginEnd_d044e : ByteArray := prog_19_method_93_code
def yJ2_checkBoundsBeginEnd_d044e : MethodName := ⟨RJ2, "checkBoundsBeginEnd", "(II[B)V"⟩
def RJ10 : String := "java/lang/System"
def TJ10 : u_T := fun k => match k with
  | _ => ("", "", "", false)
def tyJ10 : Nat → FieldType := fun k => match k with
  | _ => .int
abbrev wsJ100 : List Cond := u_ws RJ10 TJ10 0
theorem nmJ10 : ∀ a, a < 0 → ∀ b, b < 0 → a ≠ b → (TJ10 a).2.1 ≠ (TJ10 b).2.1 := by decide +kernel
theorem tyJ10_ok : ∀ k, k < 0 → parseFieldDescriptor (TJ10 k).2.2.1 = some (tyJ10 k) := by decide +kernel
def RJ3 : String := "jdk/internal/util/Preconditions"
def TJ3 : u_T := fun k => match k with
  | _ => ("", "", "", false)
def tyJ3 : Nat → FieldType := fun k => match k with
  | _ => .int
abbrev wsJ30 : List Cond := u_ws RJ3 TJ3 0
theorem nmJ3 : ∀ a, a < 0 → ∀ b, b < 0 → a ≠ b → (TJ3 a).2.1 ≠ (TJ3 b).2.1 := by decide +kernel
theorem tyJ3_ok : ∀ k, k < 0 → parseFieldDescriptor (TJ3 k).2.2.1 = some (tyJ3 k) := by decide +kernel
abbrev cJ3_checkFromToIndex_8c36e : ByteArray := prog_21_method_12_code
def yJ3_checkFromToIndex_8c36e : MethodName := ⟨RJ3, "checkFromToIndex", "(IIILjava/util/function/BiFunction;)I"⟩
def RL : String := "NineLedgesLaw"
abbrev cL_law : ByteArray := code
def yL_law : MethodName := ⟨RL, "law", "([I)Z"⟩
end
section
/-! MINI: a small machine that runs the landed code over a list of cells; below, that what it runs the JVM runs. -/
/-- how long an instruction is (0: its own length doesn't matter) -/
def mi_len : Instr → Nat
  | .iload _ | .lload _ | .aload _ | .istore _ | .lstore _ | .astore _ | .bipush _ | .ldc _ | .newarray _ => 2
  | .sipush _ | .iinc _ _ | .ifCond _ _ | .if_icmp _ _ | .goto _ | .getfield _ | .putfield _ | .getstatic _ | .invokevirtual _ | .invokestatic _ | .invokespecial _ | .new _ | .anewarray _ | .ldc_w _ | .ldc2_w _ => 3
  | .tableswitch _ _ _ _ | .lookupswitch _ _ => 0
  | _ => 1
def mi_c2 (f : Int32 → Int32 → Int32) (st : List Value) : Option (List Value) := match st with
  | .int y :: .int x :: r => some (.int (f x y) :: r)
  | _ => none
def mi_c1 (f : Int32 → Value) (st : List Value) : Option (List Value) := match st with
  | .int x :: r => some (f x :: r)
  | _ => none
def mi_l1 (f : Int64 → Value) (st : List Value) : Option (List Value) := match st with
  | .long x :: r => some (f x :: r)
  | _ => none
def mi_l2 (f : Int64 → Int64 → Value) (st : List Value) : Option (List Value) := match st with
  | .long y :: .long x :: r => some (f x y :: r)
  | _ => none
def mi_li (f : Int64 → Int32 → Value) (st : List Value) : Option (List Value) := match st with
  | .int y :: .long x :: r => some (f x y :: r)
  | _ => none
def mi_cd (f : Int32 → Int32 → Int32) (st : List Value) : Option (List Value) := match st with
  | .int y :: .int x :: r => if y = 0 then none else some (.int (f x y) :: r)
  | _ => none
theorem mi_c2_inv {f : Int32 → Int32 → Int32} {st st' : List Value} (h : mi_c2 f st = some st') : ∃ x y r, st = .int y :: .int x :: r ∧ st' = .int (f x y) :: r := by
  unfold mi_c2 at h
  split at h
  · cases h; exact ⟨_, _, _, rfl, rfl⟩
  · cases h
theorem mi_c1_inv {f : Int32 → Value} {st st' : List Value} (h : mi_c1 f st = some st') : ∃ x r, st = .int x :: r ∧ st' = f x :: r := by
  unfold mi_c1 at h
  split at h
  · cases h; exact ⟨_, _, rfl, rfl⟩
  · cases h
theorem mi_l1_inv {f : Int64 → Value} {st st' : List Value} (h : mi_l1 f st = some st') : ∃ x r, st = .long x :: r ∧ st' = f x :: r := by
  unfold mi_l1 at h
  split at h
  · cases h; exact ⟨_, _, rfl, rfl⟩
  · cases h
theorem mi_l2_inv {f : Int64 → Int64 → Value} {st st' : List Value} (h : mi_l2 f st = some st') : ∃ x y r, st = .long y :: .long x :: r ∧ st' = f x y :: r := by
  unfold mi_l2 at h
  split at h
  · cases h; exact ⟨_, _, _, rfl, rfl⟩
  · cases h
theorem mi_li_inv {f : Int64 → Int32 → Value} {st st' : List Value} (h : mi_li f st = some st') : ∃ x y r, st = .int y :: .long x :: r ∧ st' = f x y :: r := by
  unfold mi_li at h
  split at h
  · cases h; exact ⟨_, _, _, rfl, rfl⟩
  · cases h
theorem mi_cd_inv {f : Int32 → Int32 → Int32} {st st' : List Value} (h : mi_cd f st = some st') : ∃ x y r, st = .int y :: .int x :: r ∧ ¬ y = 0 ∧ st' = .int (f x y) :: r := by
  unfold mi_cd at h
  split at h
  · split at h
    · cases h
    · cases h; exact ⟨_, _, _, rfl, by assumption, rfl⟩
  · cases h
/-- the stack alone -/
def mi_A (i : Instr) (st : List Value) : Option (List Value) := match i with
  | .iconst n => some (.int (Int32.ofInt n) :: st)
  | .bipush n => some (.int (Int8.ofInt n).toInt32 :: st)
  | .sipush n => some (.int (Int16.ofInt n).toInt32 :: st)
  | .lconst n => some (.long (Int64.ofNat (n : Nat)) :: st)
  | .iadd => mi_c2 (fun x y => x + y) st
  | .isub => mi_c2 (fun x y => x - y) st
  | .imul => mi_c2 (fun x y => x * y) st
  | .iand => mi_c2 (fun x y => x &&& y) st
  | .ior => mi_c2 (fun x y => x ||| y) st
  | .ixor => mi_c2 (fun x y => x ^^^ y) st
  | .ishl => mi_c2 (fun x y => x <<< (y &&& 31)) st
  | .iushr => mi_c2 (fun x y => (x.toUInt32 >>> (y.toUInt32 &&& Int32.toUInt32 31)).toInt32) st
  | .idiv => mi_cd (fun x y => x / y) st
  | .irem => mi_cd (fun x y => x - x / y * y) st
  | .ineg => mi_c1 (fun x => .int (-x)) st
  | .i2l => mi_c1 (fun x => .long x.toInt64) st
  | .i2b => mi_c1 (fun x => .int x.toInt8.toInt32) st
  | .i2s => mi_c1 (fun x => .int x.toInt16.toInt32) st
  | .i2c => mi_c1 (fun x => .int (x.toUInt32 % 65536).toInt32) st
  | .l2i => mi_l1 (fun x => .int x.toInt32) st
  | .land => mi_l2 (fun x y => .long (x &&& y)) st
  | .lor => mi_l2 (fun x y => .long (x ||| y)) st
  | .lcmp => mi_l2 (fun x y => .int (lg_cmp x y)) st
  | .lshl => mi_li (fun x y => .long (x <<< (y.toInt64 &&& 63))) st
  | .lshr => mi_li (fun x y => .long (x >>> (y.toInt64 &&& 63))) st
  | .lushr => mi_li (fun x y => .long (x.toUInt64 >>> (y.toInt64.toUInt64 &&& Int64.toUInt64 63)).toInt64) st
  | .dup => (match st with
    | v :: r => if v.category = 1 then some (v :: v :: r) else none
    | _ => none)
  | .pop => (match st with
    | v :: r => if v.category = 1 then some r else none
    | _ => none)
  | .dup2 => (match st with
    | v :: w :: r => if v.category = 1 ∧ w.category = 1 then some (v :: w :: v :: w :: r) else none
    | _ => none)
  | _ => none
/-- a value of Mini's as the machine has it: cell k lies at ad k -/
def mi_v (ad : Nat → Nat) (v : Value) : Value := match v with
  | .ref a => .ref (ad a)
  | v => v
theorem mi_v_cat (ad : Nat → Nat) (v : Value) : (mi_v ad v).category = v.category := by cases v <;> rfl
section MIA
variable {p : Program} {l : Launch} {e : Env} {R : Room} {s : State} {m : MethodId} {args : Array Value} {below : List Frame} {meth : Method} {c : Code} {H : Heap} {locs : List Loc} {cells slots : Nat} {Q : State → Prop}
variable {cc : ByteArray} {pc : Nat} {ls : Array Slot} {ad : Nat → Nat}
theorem mi_sA (hx : p.tables.exec = Jvm.exec) (hb : c.code = cc) {i : Instr} {st st' : List Value} (h : mi_A i st = some st') (hd : decode cc pc = .ok (i, mi_len i))
    (kk : W p l e R s m args below meth c H locs cells slots Q (F0 m (pc + mi_len i) ls (st'.map (mi_v ad)))) : W p l e R s m args below meth c H locs cells slots Q (F0 m pc ls (st.map (mi_v ad))) := by
  unfold mi_A at h
  split at h
  · cases h; exact lv_iconst hx hb hd rfl kk
  · cases h; exact lv_bipush hx hb hd rfl kk
  · cases h; exact lv_sipush hx hb hd rfl kk
  · cases h; exact lv_lconst hx hb hd rfl kk
  · obtain ⟨x, y, r, rfl, rfl⟩ := mi_c2_inv h; exact lv_iadd hx hb hd kk
  · obtain ⟨x, y, r, rfl, rfl⟩ := mi_c2_inv h; exact lv_isub hx hb hd kk
  · obtain ⟨x, y, r, rfl, rfl⟩ := mi_c2_inv h; exact lv_imul hx hb hd kk
  · obtain ⟨x, y, r, rfl, rfl⟩ := mi_c2_inv h; exact lv_iand hx hb hd kk
  · obtain ⟨x, y, r, rfl, rfl⟩ := mi_c2_inv h; exact lv_ior hx hb hd kk
  · obtain ⟨x, y, r, rfl, rfl⟩ := mi_c2_inv h; exact lv_ixor hx hb hd kk
  · obtain ⟨x, y, r, rfl, rfl⟩ := mi_c2_inv h; exact lv_ishl hx hb hd kk
  · obtain ⟨x, y, r, rfl, rfl⟩ := mi_c2_inv h; exact lv_iushr hx hb hd rfl kk
  · obtain ⟨x, y, r, rfl, hy, rfl⟩ := mi_cd_inv h; exact lv_idiv hx hb hd hy kk
  · obtain ⟨x, y, r, rfl, hy, rfl⟩ := mi_cd_inv h; exact lv_irem hx hb hd hy kk
  · obtain ⟨x, r, rfl, rfl⟩ := mi_c1_inv h; exact lv_ineg hx hb hd kk
  · obtain ⟨x, r, rfl, rfl⟩ := mi_c1_inv h; exact lv_i2l hx hb hd rfl kk
  · obtain ⟨x, r, rfl, rfl⟩ := mi_c1_inv h; exact lv_i2b hx hb hd rfl kk
  · obtain ⟨x, r, rfl, rfl⟩ := mi_c1_inv h; exact lv_i2s hx hb hd rfl kk
  · obtain ⟨x, r, rfl, rfl⟩ := mi_c1_inv h; exact lv_i2c hx hb hd rfl kk
  · obtain ⟨x, r, rfl, rfl⟩ := mi_l1_inv h; exact lv_l2i hx hb hd rfl kk
  · obtain ⟨x, y, r, rfl, rfl⟩ := mi_l2_inv h; exact lv_land hx hb hd kk
  · obtain ⟨x, y, r, rfl, rfl⟩ := mi_l2_inv h; exact lv_lor hx hb hd kk
  · obtain ⟨x, y, r, rfl, rfl⟩ := mi_l2_inv h; exact W.lcmp hx hb hd kk
  · obtain ⟨x, y, r, rfl, rfl⟩ := mi_li_inv h; exact lv_lshl hx hb hd rfl kk
  · obtain ⟨x, y, r, rfl, rfl⟩ := mi_li_inv h; exact lv_lshr hx hb hd rfl kk
  · obtain ⟨x, y, r, rfl, rfl⟩ := mi_li_inv h; exact lv_lushr hx hb hd rfl kk
  · split at h
    · split at h
      · cases h; exact lv_dup hx hb hd (by rw [mi_v_cat]; assumption) kk
      · cases h
    · cases h
  · split at h
    · split at h
      · cases h; exact lv_pop hx hb hd (by rw [mi_v_cat]; assumption) kk
      · cases h
    · cases h
  · split at h
    · split at h
      next hh => cases h; exact lv_dup2_11 hx hb hd (by rw [mi_v_cat]; exact hh.1) (by rw [mi_v_cat]; exact hh.2) kk
      next => cases h
    · cases h
  · cases h
end MIA
/-! branches -/
def mi_tgt (pc : Nat) (off : Int) : Nat := ((pc : Int) + off).toNat
def mi_ok (pc : Nat) (off : Int) : Bool := decide (0 ≤ (pc : Int) + off)
theorem mi_tgt_eq {pc : Nat} {off : Int} (h : mi_ok pc off = true) : (pc : Int) + off = (mi_tgt pc off : Int) := by
  have h1 := of_decide_eq_true h
  unfold mi_tgt
  omega
def mi_to (pc : Nat) (off : Int) (st : List Value) : Option (Nat × List Value) := if mi_ok pc off = true then some (mi_tgt pc off, st) else none
def mi_br (b : Bool) (pc : Nat) (off : Int) (st : List Value) : Option (Nat × List Value) := if mi_ok pc off = true then some (if b = true then mi_tgt pc off else pc + 3, st) else none
def mi_i1 (f : Int32 → Bool) (pc : Nat) (off : Int) (st : List Value) : Option (Nat × List Value) := match st with
  | .int x :: r => mi_br (f x) pc off r
  | _ => none
def mi_i2 (f : Int32 → Int32 → Bool) (pc : Nat) (off : Int) (st : List Value) : Option (Nat × List Value) := match st with
  | .int y :: .int x :: r => mi_br (f x y) pc off r
  | _ => none
theorem mi_to_inv {pc : Nat} {off : Int} {st : List Value} {q : Nat × List Value} (h : mi_to pc off st = some q) : (pc : Int) + off = (q.1 : Int) ∧ q.2 = st := by
  unfold mi_to at h
  split at h
  next ho => cases h; exact ⟨mi_tgt_eq ho, rfl⟩
  next => cases h
theorem mi_br_inv {b : Bool} {pc : Nat} {off : Int} {st : List Value} {q : Nat × List Value} (h : mi_br b pc off st = some q) : ∃ t : Nat, (pc : Int) + off = (t : Int) ∧ q = (if b = true then t else pc + 3, st) := by
  unfold mi_br at h
  split at h
  next ho => cases h; exact ⟨_, mi_tgt_eq ho, rfl⟩
  next => cases h
theorem mi_i1_inv {f : Int32 → Bool} {pc : Nat} {off : Int} {st : List Value} {q : Nat × List Value} (h : mi_i1 f pc off st = some q) : ∃ (x : Int32) (r : List Value) (t : Nat), st = .int x :: r ∧ (pc : Int) + off = (t : Int) ∧ q = (if f x = true then t else pc + 3, r) := by
  unfold mi_i1 at h
  split at h
  · obtain ⟨t, h1, h2⟩ := mi_br_inv h; exact ⟨_, _, t, rfl, h1, h2⟩
  · cases h
theorem mi_i2_inv {f : Int32 → Int32 → Bool} {pc : Nat} {off : Int} {st : List Value} {q : Nat × List Value} (h : mi_i2 f pc off st = some q) : ∃ (x y : Int32) (r : List Value) (t : Nat), st = .int y :: .int x :: r ∧ (pc : Int) + off = (t : Int) ∧ q = (if f x y = true then t else pc + 3, r) := by
  unfold mi_i2 at h
  split at h
  · obtain ⟨t, h1, h2⟩ := mi_br_inv h; exact ⟨_, _, _, t, rfl, h1, h2⟩
  · cases h
/-- branches: the next place, and the stack -/
def mi_B (i : Instr) (pc : Nat) (st : List Value) : Option (Nat × List Value) := match i with
  | .ifCond .eq off => mi_i1 (fun x => decide (x = 0)) pc off st
  | .ifCond .ne off => mi_i1 (fun x => decide (¬ x = 0)) pc off st
  | .ifCond .lt off => mi_i1 (fun x => decide (x < 0)) pc off st
  | .ifCond .ge off => mi_i1 (fun x => decide (0 ≤ x)) pc off st
  | .ifCond .gt off => mi_i1 (fun x => decide (0 < x)) pc off st
  | .ifCond .le off => mi_i1 (fun x => decide (x ≤ 0)) pc off st
  | .if_icmp .eq off => mi_i2 (fun x y => decide (x = y)) pc off st
  | .if_icmp .ne off => mi_i2 (fun x y => decide (¬ x = y)) pc off st
  | .if_icmp .lt off => mi_i2 (fun x y => decide (x < y)) pc off st
  | .if_icmp .ge off => mi_i2 (fun x y => decide (y ≤ x)) pc off st
  | .if_icmp .gt off => mi_i2 (fun x y => decide (y < x)) pc off st
  | .if_icmp .le off => mi_i2 (fun x y => decide (x ≤ y)) pc off st
  | .goto off => mi_to pc off st
  | .tableswitch d lo hi offs => (match st with
    | .int x :: r => if x.toInt < lo ∨ hi < x.toInt then mi_to pc d r else (match offs[(x.toInt - lo).toNat]? with
      | some off => mi_to pc off r
      | none => none)
    | _ => none)
  | .lookupswitch d ps => (match st with
    | .int x :: r => if (ps.toList.zip (ps.toList.drop 1)).all (fun (a, next) => a.1 < next.1) = true then mi_to pc (Op.lookupswitch.offset ps.toList d x.toInt) r else none
    | _ => none)
  | _ => none
section MIB
variable {p : Program} {l : Launch} {e : Env} {R : Room} {s : State} {m : MethodId} {args : Array Value} {below : List Frame} {meth : Method} {c : Code} {H : Heap} {locs : List Loc} {cells slots : Nat} {Q : State → Prop}
variable {cc : ByteArray} {pc : Nat} {ls : Array Slot} {ad : Nat → Nat}
theorem mi_sB (hx : p.tables.exec = Jvm.exec) (hb : c.code = cc) {i : Instr} {len : Nat} {st : List Value} {q : Nat × List Value} (h : mi_B i pc st = some q) (hd : decode cc pc = .ok (i, len)) (hn : mi_len i = 0 ∨ mi_len i = len)
    (kk : W p l e R s m args below meth c H locs cells slots Q (F0 m q.1 ls (q.2.map (mi_v ad)))) : W p l e R s m args below meth c H locs cells slots Q (F0 m pc ls (st.map (mi_v ad))) := by
  unfold mi_B at h
  split at h
  · obtain rfl : 3 = len := hn.resolve_left (show ¬ (3 : Nat) = 0 by decide)
    obtain ⟨x, r, t, rfl, ht, rfl⟩ := mi_i1_inv h
    refine lv_if_eq hx hb hd ht (fun hc => ?_) (fun hc => ?_) <;> simpa [hc] using kk
  · obtain rfl : 3 = len := hn.resolve_left (show ¬ (3 : Nat) = 0 by decide)
    obtain ⟨x, r, t, rfl, ht, rfl⟩ := mi_i1_inv h
    refine lv_if_ne hx hb hd ht (fun hc => ?_) (fun hc => ?_) <;> simpa [hc] using kk
  · obtain rfl : 3 = len := hn.resolve_left (show ¬ (3 : Nat) = 0 by decide)
    obtain ⟨x, r, t, rfl, ht, rfl⟩ := mi_i1_inv h
    refine lv_if_lt hx hb hd ht (fun hc => ?_) (fun hc => ?_) <;> simpa [hc] using kk
  · obtain rfl : 3 = len := hn.resolve_left (show ¬ (3 : Nat) = 0 by decide)
    obtain ⟨x, r, t, rfl, ht, rfl⟩ := mi_i1_inv h
    refine lv_if_ge hx hb hd ht (fun hc => ?_) (fun hc => ?_) <;> simpa [hc] using kk
  · obtain rfl : 3 = len := hn.resolve_left (show ¬ (3 : Nat) = 0 by decide)
    obtain ⟨x, r, t, rfl, ht, rfl⟩ := mi_i1_inv h
    refine lv_if_gt hx hb hd ht (fun hc => ?_) (fun hc => ?_) <;> simpa [hc] using kk
  · obtain rfl : 3 = len := hn.resolve_left (show ¬ (3 : Nat) = 0 by decide)
    obtain ⟨x, r, t, rfl, ht, rfl⟩ := mi_i1_inv h
    refine lv_if_le hx hb hd ht (fun hc => ?_) (fun hc => ?_) <;> simpa [hc] using kk
  · obtain rfl : 3 = len := hn.resolve_left (show ¬ (3 : Nat) = 0 by decide)
    obtain ⟨x, y, r, t, rfl, ht, rfl⟩ := mi_i2_inv h
    refine lv_icmp_eq hx hb hd ht (fun hc => ?_) (fun hc => ?_) <;> simpa [hc] using kk
  · obtain rfl : 3 = len := hn.resolve_left (show ¬ (3 : Nat) = 0 by decide)
    obtain ⟨x, y, r, t, rfl, ht, rfl⟩ := mi_i2_inv h
    refine lv_icmp_ne hx hb hd ht (fun hc => ?_) (fun hc => ?_) <;> simpa [hc] using kk
  · obtain rfl : 3 = len := hn.resolve_left (show ¬ (3 : Nat) = 0 by decide)
    obtain ⟨x, y, r, t, rfl, ht, rfl⟩ := mi_i2_inv h
    refine lv_icmp_lt hx hb hd ht (fun hc => ?_) (fun hc => ?_) <;> simpa [hc] using kk
  · obtain rfl : 3 = len := hn.resolve_left (show ¬ (3 : Nat) = 0 by decide)
    obtain ⟨x, y, r, t, rfl, ht, rfl⟩ := mi_i2_inv h
    refine lv_icmp_ge hx hb hd ht (fun hc => ?_) (fun hc => ?_) <;> simpa [hc] using kk
  · obtain rfl : 3 = len := hn.resolve_left (show ¬ (3 : Nat) = 0 by decide)
    obtain ⟨x, y, r, t, rfl, ht, rfl⟩ := mi_i2_inv h
    refine lv_icmp_gt hx hb hd ht (fun hc => ?_) (fun hc => ?_) <;> simpa [hc] using kk
  · obtain rfl : 3 = len := hn.resolve_left (show ¬ (3 : Nat) = 0 by decide)
    obtain ⟨x, y, r, t, rfl, ht, rfl⟩ := mi_i2_inv h
    refine lv_icmp_le hx hb hd ht (fun hc => ?_) (fun hc => ?_) <;> simpa [hc] using kk
  · obtain rfl : 3 = len := hn.resolve_left (show ¬ (3 : Nat) = 0 by decide)
    obtain ⟨h1, h2⟩ := mi_to_inv h
    rw [h2] at kk
    exact lv_goto hx hb hd h1 kk
  · split at h
    · split at h
      next ho =>
        obtain ⟨h1, h2⟩ := mi_to_inv h
        rw [h2] at kk
        exact lv_tableOut hx hb hd ho h1 kk
      next ho =>
        split at h
        next off hoff =>
          obtain ⟨h1, h2⟩ := mi_to_inv h
          rw [h2] at kk
          exact lv_tableIn hx hb hd (fun z => ho (Or.inl z)) (fun z => ho (Or.inr z)) hoff h1 kk
        next => cases h
    · cases h
  · split at h
    · split at h
      next hp =>
        obtain ⟨h1, h2⟩ := mi_to_inv h
        rw [h2] at kk
        exact lv_lookup hx hb hd hp rfl h1 kk
      next => cases h
    · cases h
  · cases h
end MIB
/-! locals: one value a place; null: none is known there -/
def mi_lv (ad : Nat → Nat) (ls : List Value) : List (Nat × Value) := (List.range ls.length).filterMap (fun k => (ls[k]?).bind (fun v => if v = Value.null then none else some (k, mi_v ad v)))
theorem mi_lv_mem {ad : Nat → Nat} {ls : List Value} {q : Nat × Value} : q ∈ mi_lv ad ls ↔ ∃ v, ls[q.1]? = some v ∧ v ≠ .null ∧ q.2 = mi_v ad v := by
  unfold mi_lv
  rw [List.mem_filterMap]
  constructor
  · rintro ⟨k, hk, h⟩
    obtain ⟨v, hv, h2⟩ := Option.bind_eq_some_iff.mp h
    split at h2
    · cases h2
    next hn => cases h2; exact ⟨v, hv, hn, rfl⟩
  · rintro ⟨v, hv, hn, h2⟩
    refine ⟨q.1, List.mem_range.mpr (List.getElem?_eq_some_iff.mp hv).1, ?_⟩
    rw [hv, Option.bind_some, if_neg hn, ← h2]
/-- a place in which a value of one slot may be stored -/
def mi_st1 (ls : List Value) (i : Nat) : Bool := decide (i < ls.length) && (match i with
  | 0 => true
  | j + 1 => (match ls[j]? with
    | some v => v.category == 1
    | none => true))
def mi_has (ad : Nat → Nat) (nL : Nat) (a : Array Slot) (ls : List Value) : Prop := ls.length = nL ∧ lv_has a nL (mi_lv ad ls)
theorem mi_has_get {ad : Nat → Nat} {nL : Nat} {a : Array Slot} {ls : List Value} {i : Nat} {v : Value} (h : mi_has ad nL a ls) (hv : ls[i]? = some v) (hn : v ≠ .null) : a[i]? = some (.val (mi_v ad v)) := h.2.2.2 (i, mi_v ad v) (mi_lv_mem.mpr ⟨v, hv, hn, rfl⟩)
theorem mi_has_set {ad : Nat → Nat} {nL : Nat} {a : Array Slot} {ls : List Value} {i : Nat} {v : Value} (hl : ls.length = nL) (hs : mi_st1 ls i = true)
    (h : lv_has a nL ((i, mi_v ad v) :: (mi_lv ad ls).filter (fun q => !(q.1 == i) && !(q.1 + 1 == i && q.2.category == 2)))) : mi_has ad nL a (ls.set i v) := by
  refine ⟨by rw [List.length_set]; exact hl, h.1, h.2.1, fun q hq => h.2.2 q ?_⟩
  obtain ⟨w, hw, hn, h2⟩ := mi_lv_mem.mp hq
  obtain ⟨k, z⟩ := q
  by_cases hk : k = i
  · subst hk
    have hlt := (List.getElem?_eq_some_iff.mp hw).1
    rw [List.length_set] at hlt
    rw [List.getElem?_set_self hlt] at hw
    cases hw
    cases h2
    exact List.mem_cons_self
  · rw [List.getElem?_set_ne (fun e => hk e.symm)] at hw
    refine List.mem_cons_of_mem _ (List.mem_filter.mpr ⟨mi_lv_mem.mpr ⟨w, hw, hn, h2⟩, ?_⟩)
    simp only [Bool.and_eq_true, Bool.not_eq_true', beq_eq_false_iff_ne, Bool.and_eq_false_iff]
    refine ⟨hk, ?_⟩
    by_cases h1 : k + 1 = i
    · right
      subst h1
      simp only [mi_st1, Bool.and_eq_true] at hs
      have hs2 := hs.2
      rw [hw] at hs2
      have hs3 : (w.category == 1) = true := hs2
      rw [show z = mi_v ad w from h2, mi_v_cat]
      intro h3
      rw [h3] at hs3
      cases hs3
    · left; exact h1
def mi_ldi (ls st : List Value) (k : Nat) : Option (List Value × List Value) := match ls[k]? with
  | some (.int x) => some (ls, .int x :: st)
  | _ => none
def mi_ldl (ls st : List Value) (k : Nat) : Option (List Value × List Value) := match ls[k]? with
  | some (.long x) => some (ls, .long x :: st)
  | _ => none
def mi_lda (ls st : List Value) (k : Nat) : Option (List Value × List Value) := match ls[k]? with
  | some (.ref x) => some (ls, .ref x :: st)
  | _ => none
def mi_sti (ls st : List Value) (k : Nat) : Option (List Value × List Value) := match st with
  | .int x :: r => if mi_st1 ls k = true then some (ls.set k (.int x), r) else none
  | _ => none
def mi_sta (ls st : List Value) (k : Nat) : Option (List Value × List Value) := match st with
  | .ref x :: r => if mi_st1 ls k = true then some (ls.set k (.ref x), r) else none
  | _ => none
def mi_inc (ls st : List Value) (k : Nat) (n : Int) : Option (List Value × List Value) := match ls[k]? with
  | some (.int x) => if mi_st1 ls k = true then some (ls.set k (.int (x + Int32.ofInt n)), st) else none
  | _ => none
theorem mi_ldi_inv {ls st : List Value} {k : Nat} {q : List Value × List Value} (h : mi_ldi ls st k = some q) : ∃ x, ls[k]? = some (.int x) ∧ q = (ls, .int x :: st) := by
  unfold mi_ldi at h
  split at h
  next x hx => cases h; exact ⟨_, hx, rfl⟩
  · cases h
theorem mi_ldl_inv {ls st : List Value} {k : Nat} {q : List Value × List Value} (h : mi_ldl ls st k = some q) : ∃ x, ls[k]? = some (.long x) ∧ q = (ls, .long x :: st) := by
  unfold mi_ldl at h
  split at h
  next x hx => cases h; exact ⟨_, hx, rfl⟩
  · cases h
theorem mi_lda_inv {ls st : List Value} {k : Nat} {q : List Value × List Value} (h : mi_lda ls st k = some q) : ∃ x, ls[k]? = some (.ref x) ∧ q = (ls, .ref x :: st) := by
  unfold mi_lda at h
  split at h
  next x hx => cases h; exact ⟨_, hx, rfl⟩
  · cases h
theorem mi_sti_inv {ls st : List Value} {k : Nat} {q : List Value × List Value} (h : mi_sti ls st k = some q) : ∃ x r, st = .int x :: r ∧ mi_st1 ls k = true ∧ q = (ls.set k (.int x), r) := by
  unfold mi_sti at h
  split at h
  · split at h
    next hs => cases h; exact ⟨_, _, rfl, hs, rfl⟩
    · cases h
  · cases h
theorem mi_sta_inv {ls st : List Value} {k : Nat} {q : List Value × List Value} (h : mi_sta ls st k = some q) : ∃ x r, st = .ref x :: r ∧ mi_st1 ls k = true ∧ q = (ls.set k (.ref x), r) := by
  unfold mi_sta at h
  split at h
  · split at h
    next hs => cases h; exact ⟨_, _, rfl, hs, rfl⟩
    · cases h
  · cases h
theorem mi_inc_inv {ls st : List Value} {k : Nat} {n : Int} {q : List Value × List Value} (h : mi_inc ls st k n = some q) : ∃ x, ls[k]? = some (.int x) ∧ mi_st1 ls k = true ∧ q = (ls.set k (.int (x + Int32.ofInt n)), st) := by
  unfold mi_inc at h
  split at h
  next x hx =>
    split at h
    next hs => cases h; exact ⟨_, hx, hs, rfl⟩
    · cases h
  · cases h
theorem mi_st1_lt {ls : List Value} {k : Nat} (h : mi_st1 ls k = true) : k < ls.length := by
  simp only [mi_st1, Bool.and_eq_true, decide_eq_true_eq] at h
  exact h.1
/-- locals and stack -/
def mi_L (i : Instr) (ls st : List Value) : Option (List Value × List Value) := match i with
  | .iload k => mi_ldi ls st k
  | .iload_n k => mi_ldi ls st (k : Nat)
  | .lload k => mi_ldl ls st k
  | .lload_n k => mi_ldl ls st (k : Nat)
  | .aload k => mi_lda ls st k
  | .aload_n k => mi_lda ls st (k : Nat)
  | .istore k => mi_sti ls st k
  | .istore_n k => mi_sti ls st (k : Nat)
  | .astore k => mi_sta ls st k
  | .astore_n k => mi_sta ls st (k : Nat)
  | .iinc k n => mi_inc ls st k n
  | _ => none
section MIL
variable {p : Program} {l : Launch} {e : Env} {R : Room} {s : State} {m : MethodId} {args : Array Value} {below : List Frame} {meth : Method} {c : Code} {H : Heap} {locs : List Loc} {cells slots : Nat} {Q : State → Prop}
variable {cc : ByteArray} {pc nL : Nat} {la : Array Slot} {ad : Nat → Nat}
theorem mi_sL (hx : p.tables.exec = Jvm.exec) (hb : c.code = cc) {i : Instr} {ls st : List Value} {q : List Value × List Value} (hl : mi_has ad nL la ls) (h : mi_L i ls st = some q) (hd : decode cc pc = .ok (i, mi_len i))
    (kk : ∀ la' : Array Slot, mi_has ad nL la' q.1 → W p l e R s m args below meth c H locs cells slots Q (F0 m (pc + mi_len i) la' (q.2.map (mi_v ad)))) : W p l e R s m args below meth c H locs cells slots Q (F0 m pc la (st.map (mi_v ad))) := by
  unfold mi_L at h
  split at h
  · obtain ⟨x, h1, rfl⟩ := mi_ldi_inv h; exact lv_iload hx hb hd (mi_has_get hl h1 (fun z => by cases z)) (kk la hl)
  · obtain ⟨x, h1, rfl⟩ := mi_ldi_inv h; exact lv_iload_n hx hb hd rfl (mi_has_get hl h1 (fun z => by cases z)) (kk la hl)
  · obtain ⟨x, h1, rfl⟩ := mi_ldl_inv h; exact lv_lload hx hb hd (mi_has_get hl h1 (fun z => by cases z)) (kk la hl)
  · obtain ⟨x, h1, rfl⟩ := mi_ldl_inv h; exact lv_lload_n hx hb hd rfl (mi_has_get hl h1 (fun z => by cases z)) (kk la hl)
  · obtain ⟨x, h1, rfl⟩ := mi_lda_inv h; exact lv_aload hx hb hd (mi_has_get hl h1 (fun z => by cases z)) (kk la hl)
  · obtain ⟨x, h1, rfl⟩ := mi_lda_inv h; exact lv_aload_n hx hb hd rfl (mi_has_get hl h1 (fun z => by cases z)) (kk la hl)
  · obtain ⟨x, r, rfl, hs, rfl⟩ := mi_sti_inv h; exact lv_istore hx hb hd hl.2 (hl.1 ▸ mi_st1_lt hs) rfl (fun la' h' => kk la' (mi_has_set (v := .int x) hl.1 hs h'))
  · obtain ⟨x, r, rfl, hs, rfl⟩ := mi_sti_inv h; exact lv_istore_n hx hb hd rfl hl.2 (hl.1 ▸ mi_st1_lt hs) rfl (fun la' h' => kk la' (mi_has_set (v := .int x) hl.1 hs h'))
  · obtain ⟨x, r, rfl, hs, rfl⟩ := mi_sta_inv h; exact lv_astore hx hb hd hl.2 (hl.1 ▸ mi_st1_lt hs) rfl (fun la' h' => kk la' (mi_has_set (v := .ref x) hl.1 hs h'))
  · obtain ⟨x, r, rfl, hs, rfl⟩ := mi_sta_inv h; exact lv_astore_n hx hb hd rfl hl.2 (hl.1 ▸ mi_st1_lt hs) rfl (fun la' h' => kk la' (mi_has_set (v := .ref x) hl.1 hs h'))
  · obtain ⟨x, h1, hs, rfl⟩ := mi_inc_inv h
    have hm := (mi_lv_mem (ad := ad) (ls := ls) (q := (_, .int x))).mpr ⟨_, h1, (fun z => by cases z), rfl⟩
    obtain ⟨k, hk⟩ := List.getElem?_of_mem hm
    exact lv_iinc hx hb hd hl.2 hk rfl (hl.1 ▸ mi_st1_lt hs) rfl (fun la' h' => kk la' (mi_has_set (v := .int _) hl.1 hs h'))
  · cases h
/-- the locals with which a method begins -/
def mi_args : List Value → List Value
  | [] => []
  | v :: vs => if v.category = 2 then v :: .null :: mi_args vs else v :: mi_args vs
def mi_ent (as : List Value) (nL : Nat) : List Value := mi_args as ++ List.replicate (nL - (mi_args as).length) .null
end MIL
end
