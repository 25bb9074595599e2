section
-- ===== PART A: goes FIRST, ahead of the names: the tables' words, and 'selects' of the private methods out of them =====
/-- a private method of a class that the tables say can be made, by its rows of tables_1 -/
def lw_okq (q : MethodName × Nat) : Prop := (q.1.cls ≠ "java/lang/invoke/MethodHandle" ∧ q.1.cls ≠ "java/lang/invoke/VarHandle") ∧ Cond.instantiable q.1.cls q.2 ∈ tables_1 ∧ Cond.privateMethod q.1 ∈ tables_1 ∧ Cond.instanceMethod q.1 ∈ tables_1
theorem lw_p0 : lw_okq (⟨"NineLedges$Cliff", "ledgesBefore", "(I)I"⟩, 10) := ⟨⟨by decide +kernel, by decide +kernel⟩, List.mem_of_getElem? (i := 80) (by decide +kernel), List.mem_of_getElem? (i := 335) (by decide +kernel), List.mem_of_getElem? (i := 336) (by decide +kernel)⟩
theorem lw_p1 : lw_okq (⟨"NineLedges", "fail", "(I)I"⟩, 10) := ⟨⟨by decide +kernel, by decide +kernel⟩, List.mem_of_getElem? (i := 22) (by decide +kernel), List.mem_of_getElem? (i := 340) (by decide +kernel), List.mem_of_getElem? (i := 341) (by decide +kernel)⟩
theorem lw_p2 : lw_okq (⟨"NineLedges", "isGoer", "(I)Z"⟩, 10) := ⟨⟨by decide +kernel, by decide +kernel⟩, List.mem_of_getElem? (i := 22) (by decide +kernel), List.mem_of_getElem? (i := 460) (by decide +kernel), List.mem_of_getElem? (i := 461) (by decide +kernel)⟩
theorem lw_p3 : lw_okq (⟨"NineLedges$Text", "beginsOperand", "(I)Z"⟩, 9) := ⟨⟨by decide +kernel, by decide +kernel⟩, List.mem_of_getElem? (i := 187) (by decide +kernel), List.mem_of_getElem? (i := 541) (by decide +kernel), List.mem_of_getElem? (i := 542) (by decide +kernel)⟩
theorem lw_p4 : lw_okq (⟨"NineLedges$Text", "goesOn", "(I)Z"⟩, 9) := ⟨⟨by decide +kernel, by decide +kernel⟩, List.mem_of_getElem? (i := 187) (by decide +kernel), List.mem_of_getElem? (i := 630) (by decide +kernel), List.mem_of_getElem? (i := 631) (by decide +kernel)⟩
theorem lw_p5 : lw_okq (⟨"NineLedges$Text", "addsDigit", "(I)Z"⟩, 9) := ⟨⟨by decide +kernel, by decide +kernel⟩, List.mem_of_getElem? (i := 187) (by decide +kernel), List.mem_of_getElem? (i := 634) (by decide +kernel), List.mem_of_getElem? (i := 635) (by decide +kernel)⟩
theorem lw_p6 : lw_okq (⟨"NineLedges$Text", "closes", "()Z"⟩, 9) := ⟨⟨by decide +kernel, by decide +kernel⟩, List.mem_of_getElem? (i := 187) (by decide +kernel), List.mem_of_getElem? (i := 646) (by decide +kernel), List.mem_of_getElem? (i := 647) (by decide +kernel)⟩
theorem lw_p7 : lw_okq (⟨"NineLedges$Text", "release", "(I)V"⟩, 9) := ⟨⟨by decide +kernel, by decide +kernel⟩, List.mem_of_getElem? (i := 187) (by decide +kernel), List.mem_of_getElem? (i := 650) (by decide +kernel), List.mem_of_getElem? (i := 651) (by decide +kernel)⟩
theorem lw_p8 : lw_okq (⟨"NineLedges", "refusesMinutes", "(I)I"⟩, 10) := ⟨⟨by decide +kernel, by decide +kernel⟩, List.mem_of_getElem? (i := 22) (by decide +kernel), List.mem_of_getElem? (i := 679) (by decide +kernel), List.mem_of_getElem? (i := 680) (by decide +kernel)⟩
theorem lw_p9 : lw_okq (⟨"NineLedges$Cliff", "walk", "(LNineLedges$Goer;Z)Z"⟩, 10) := ⟨⟨by decide +kernel, by decide +kernel⟩, List.mem_of_getElem? (i := 80) (by decide +kernel), List.mem_of_getElem? (i := 687) (by decide +kernel), List.mem_of_getElem? (i := 688) (by decide +kernel)⟩
theorem lw_p10 : lw_okq (⟨"NineLedges$Cliff", "hearsSomebody", "(LNineLedges$Goer;)Z"⟩, 10) := ⟨⟨by decide +kernel, by decide +kernel⟩, List.mem_of_getElem? (i := 80) (by decide +kernel), List.mem_of_getElem? (i := 692) (by decide +kernel), List.mem_of_getElem? (i := 693) (by decide +kernel)⟩
theorem lw_p11 : lw_okq (⟨"NineLedges$Cliff", "isFree", "(I)Z"⟩, 10) := ⟨⟨by decide +kernel, by decide +kernel⟩, List.mem_of_getElem? (i := 80) (by decide +kernel), List.mem_of_getElem? (i := 705) (by decide +kernel), List.mem_of_getElem? (i := 706) (by decide +kernel)⟩
theorem lw_p12 : lw_okq (⟨"NineLedges$Cliff", "step", "(LNineLedges$Goer;I)V"⟩, 10) := ⟨⟨by decide +kernel, by decide +kernel⟩, List.mem_of_getElem? (i := 80) (by decide +kernel), List.mem_of_getElem? (i := 709) (by decide +kernel), List.mem_of_getElem? (i := 710) (by decide +kernel)⟩
theorem lw_p13 : lw_okq (⟨"NineLedges$Cliff", "meet", "(LNineLedges$Goer;I)Z"⟩, 10) := ⟨⟨by decide +kernel, by decide +kernel⟩, List.mem_of_getElem? (i := 80) (by decide +kernel), List.mem_of_getElem? (i := 718) (by decide +kernel), List.mem_of_getElem? (i := 719) (by decide +kernel)⟩
theorem lw_p14 : lw_okq (⟨"NineLedges$Cliff", "givesWay", "(LNineLedges$Goer;ILNineLedges$Goer;I)Z"⟩, 10) := ⟨⟨by decide +kernel, by decide +kernel⟩, List.mem_of_getElem? (i := 80) (by decide +kernel), List.mem_of_getElem? (i := 723) (by decide +kernel), List.mem_of_getElem? (i := 724) (by decide +kernel)⟩
theorem lw_p15 : lw_okq (⟨"NineLedges$Cliff", "allOver", "()Z"⟩, 10) := ⟨⟨by decide +kernel, by decide +kernel⟩, List.mem_of_getElem? (i := 80) (by decide +kernel), List.mem_of_getElem? (i := 767) (by decide +kernel), List.mem_of_getElem? (i := 768) (by decide +kernel)⟩
def lw_privs_1 : List (MethodName × Nat) := [(⟨"NineLedges$Cliff", "ledgesBefore", "(I)I"⟩, 10), (⟨"NineLedges", "fail", "(I)I"⟩, 10), (⟨"NineLedges", "isGoer", "(I)Z"⟩, 10), (⟨"NineLedges$Text", "beginsOperand", "(I)Z"⟩, 9), (⟨"NineLedges$Text", "goesOn", "(I)Z"⟩, 9), (⟨"NineLedges$Text", "addsDigit", "(I)Z"⟩, 9), (⟨"NineLedges$Text", "closes", "()Z"⟩, 9), (⟨"NineLedges$Text", "release", "(I)V"⟩, 9), (⟨"NineLedges", "refusesMinutes", "(I)I"⟩, 10), (⟨"NineLedges$Cliff", "walk", "(LNineLedges$Goer;Z)Z"⟩, 10), (⟨"NineLedges$Cliff", "hearsSomebody", "(LNineLedges$Goer;)Z"⟩, 10), (⟨"NineLedges$Cliff", "isFree", "(I)Z"⟩, 10), (⟨"NineLedges$Cliff", "step", "(LNineLedges$Goer;I)V"⟩, 10), (⟨"NineLedges$Cliff", "meet", "(LNineLedges$Goer;I)Z"⟩, 10), (⟨"NineLedges$Cliff", "givesWay", "(LNineLedges$Goer;ILNineLedges$Goer;I)Z"⟩, 10), (⟨"NineLedges$Cliff", "allOver", "()Z"⟩, 10)]
theorem lw_r1 : ∀ q ∈ lw_privs_1, lw_okq q := List.forall_mem_cons.mpr ⟨lw_p0, List.forall_mem_cons.mpr ⟨lw_p1, List.forall_mem_cons.mpr ⟨lw_p2, List.forall_mem_cons.mpr ⟨lw_p3, List.forall_mem_cons.mpr ⟨lw_p4, List.forall_mem_cons.mpr ⟨lw_p5, List.forall_mem_cons.mpr ⟨lw_p6, List.forall_mem_cons.mpr ⟨lw_p7, List.forall_mem_cons.mpr ⟨lw_p8, List.forall_mem_cons.mpr ⟨lw_p9, List.forall_mem_cons.mpr ⟨lw_p10, List.forall_mem_cons.mpr ⟨lw_p11, List.forall_mem_cons.mpr ⟨lw_p12, List.forall_mem_cons.mpr ⟨lw_p13, List.forall_mem_cons.mpr ⟨lw_p14, List.forall_mem_cons.mpr ⟨lw_p15, fun _ h => absurd h List.not_mem_nil⟩⟩⟩⟩⟩⟩⟩⟩⟩⟩⟩⟩⟩⟩⟩⟩
theorem lw_p16 : lw_okq (⟨"NineLedges$Cliff", "someStartLater", "()Z"⟩, 10) := ⟨⟨by decide +kernel, by decide +kernel⟩, List.mem_of_getElem? (i := 80) (by decide +kernel), List.mem_of_getElem? (i := 773) (by decide +kernel), List.mem_of_getElem? (i := 774) (by decide +kernel)⟩
theorem lw_p17 : lw_okq (⟨"NineLedges", "orNone", "(I)I"⟩, 10) := ⟨⟨by decide +kernel, by decide +kernel⟩, List.mem_of_getElem? (i := 22) (by decide +kernel), List.mem_of_getElem? (i := 777) (by decide +kernel), List.mem_of_getElem? (i := 778) (by decide +kernel)⟩
theorem lw_p18 : lw_okq (⟨"NineLedges", "refusesSheet", "(I)I"⟩, 10) := ⟨⟨by decide +kernel, by decide +kernel⟩, List.mem_of_getElem? (i := 22) (by decide +kernel), List.mem_of_getElem? (i := 932) (by decide +kernel), List.mem_of_getElem? (i := 933) (by decide +kernel)⟩
theorem lw_p19 : lw_okq (⟨"NineLedgesModel", "finds", "(I)I"⟩, 25) := ⟨⟨by decide +kernel, by decide +kernel⟩, List.mem_of_getElem? (i := 985) (by decide +kernel), List.mem_of_getElem? (i := 1075) (by decide +kernel), List.mem_of_getElem? (i := 1076) (by decide +kernel)⟩
theorem lw_p20 : lw_okq (⟨"NineLedgesModel", "worked", "(III)I"⟩, 25) := ⟨⟨by decide +kernel, by decide +kernel⟩, List.mem_of_getElem? (i := 985) (by decide +kernel), List.mem_of_getElem? (i := 1085) (by decide +kernel), List.mem_of_getElem? (i := 1086) (by decide +kernel)⟩
theorem lw_p21 : lw_okq (⟨"NineLedgesModel", "either", "()I"⟩, 25) := ⟨⟨by decide +kernel, by decide +kernel⟩, List.mem_of_getElem? (i := 985) (by decide +kernel), List.mem_of_getElem? (i := 1089) (by decide +kernel), List.mem_of_getElem? (i := 1090) (by decide +kernel)⟩
theorem lw_p22 : lw_okq (⟨"NineLedgesModel", "both", "()I"⟩, 25) := ⟨⟨by decide +kernel, by decide +kernel⟩, List.mem_of_getElem? (i := 985) (by decide +kernel), List.mem_of_getElem? (i := 1093) (by decide +kernel), List.mem_of_getElem? (i := 1094) (by decide +kernel)⟩
theorem lw_p23 : lw_okq (⟨"NineLedgesModel", "compared", "()I"⟩, 25) := ⟨⟨by decide +kernel, by decide +kernel⟩, List.mem_of_getElem? (i := 985) (by decide +kernel), List.mem_of_getElem? (i := 1097) (by decide +kernel), List.mem_of_getElem? (i := 1098) (by decide +kernel)⟩
theorem lw_p24 : lw_okq (⟨"NineLedgesModel", "sum", "()I"⟩, 25) := ⟨⟨by decide +kernel, by decide +kernel⟩, List.mem_of_getElem? (i := 985) (by decide +kernel), List.mem_of_getElem? (i := 1101) (by decide +kernel), List.mem_of_getElem? (i := 1102) (by decide +kernel)⟩
theorem lw_p25 : lw_okq (⟨"NineLedgesModel", "product", "()I"⟩, 25) := ⟨⟨by decide +kernel, by decide +kernel⟩, List.mem_of_getElem? (i := 985) (by decide +kernel), List.mem_of_getElem? (i := 1105) (by decide +kernel), List.mem_of_getElem? (i := 1106) (by decide +kernel)⟩
theorem lw_p26 : lw_okq (⟨"NineLedgesModel", "unit", "()I"⟩, 25) := ⟨⟨by decide +kernel, by decide +kernel⟩, List.mem_of_getElem? (i := 985) (by decide +kernel), List.mem_of_getElem? (i := 1109) (by decide +kernel), List.mem_of_getElem? (i := 1110) (by decide +kernel)⟩
theorem lw_p27 : lw_okq (⟨"NineLedgesModel", "here", "()I"⟩, 25) := ⟨⟨by decide +kernel, by decide +kernel⟩, List.mem_of_getElem? (i := 985) (by decide +kernel), List.mem_of_getElem? (i := 1113) (by decide +kernel), List.mem_of_getElem? (i := 1114) (by decide +kernel)⟩
theorem lw_p28 : lw_okq (⟨"NineLedgesModel", "wrong", "()I"⟩, 25) := ⟨⟨by decide +kernel, by decide +kernel⟩, List.mem_of_getElem? (i := 985) (by decide +kernel), List.mem_of_getElem? (i := 1117) (by decide +kernel), List.mem_of_getElem? (i := 1118) (by decide +kernel)⟩
theorem lw_p29 : lw_okq (⟨"NineLedgesModel", "takes", "(I)Z"⟩, 25) := ⟨⟨by decide +kernel, by decide +kernel⟩, List.mem_of_getElem? (i := 985) (by decide +kernel), List.mem_of_getElem? (i := 1121) (by decide +kernel), List.mem_of_getElem? (i := 1122) (by decide +kernel)⟩
theorem lw_p30 : lw_okq (⟨"NineLedgesModel", "nameOf", "(I)I"⟩, 25) := ⟨⟨by decide +kernel, by decide +kernel⟩, List.mem_of_getElem? (i := 985) (by decide +kernel), List.mem_of_getElem? (i := 1125) (by decide +kernel), List.mem_of_getElem? (i := 1126) (by decide +kernel)⟩
theorem lw_p31 : lw_okq (⟨"NineLedgesModel", "textGives", "(IIII)I"⟩, 25) := ⟨⟨by decide +kernel, by decide +kernel⟩, List.mem_of_getElem? (i := 985) (by decide +kernel), List.mem_of_getElem? (i := 1135) (by decide +kernel), List.mem_of_getElem? (i := 1136) (by decide +kernel)⟩
def lw_privs_2 : List (MethodName × Nat) := [(⟨"NineLedges$Cliff", "someStartLater", "()Z"⟩, 10), (⟨"NineLedges", "orNone", "(I)I"⟩, 10), (⟨"NineLedges", "refusesSheet", "(I)I"⟩, 10), (⟨"NineLedgesModel", "finds", "(I)I"⟩, 25), (⟨"NineLedgesModel", "worked", "(III)I"⟩, 25), (⟨"NineLedgesModel", "either", "()I"⟩, 25), (⟨"NineLedgesModel", "both", "()I"⟩, 25), (⟨"NineLedgesModel", "compared", "()I"⟩, 25), (⟨"NineLedgesModel", "sum", "()I"⟩, 25), (⟨"NineLedgesModel", "product", "()I"⟩, 25), (⟨"NineLedgesModel", "unit", "()I"⟩, 25), (⟨"NineLedgesModel", "here", "()I"⟩, 25), (⟨"NineLedgesModel", "wrong", "()I"⟩, 25), (⟨"NineLedgesModel", "takes", "(I)Z"⟩, 25), (⟨"NineLedgesModel", "nameOf", "(I)I"⟩, 25), (⟨"NineLedgesModel", "textGives", "(IIII)I"⟩, 25)]
theorem lw_r2 : ∀ q ∈ lw_privs_2, lw_okq q := List.forall_mem_cons.mpr ⟨lw_p16, List.forall_mem_cons.mpr ⟨lw_p17, List.forall_mem_cons.mpr ⟨lw_p18, List.forall_mem_cons.mpr ⟨lw_p19, List.forall_mem_cons.mpr ⟨lw_p20, List.forall_mem_cons.mpr ⟨lw_p21, List.forall_mem_cons.mpr ⟨lw_p22, List.forall_mem_cons.mpr ⟨lw_p23, List.forall_mem_cons.mpr ⟨lw_p24, List.forall_mem_cons.mpr ⟨lw_p25, List.forall_mem_cons.mpr ⟨lw_p26, List.forall_mem_cons.mpr ⟨lw_p27, List.forall_mem_cons.mpr ⟨lw_p28, List.forall_mem_cons.mpr ⟨lw_p29, List.forall_mem_cons.mpr ⟨lw_p30, List.forall_mem_cons.mpr ⟨lw_p31, fun _ h => absurd h List.not_mem_nil⟩⟩⟩⟩⟩⟩⟩⟩⟩⟩⟩⟩⟩⟩⟩⟩
theorem lw_p32 : lw_okq (⟨"NineLedgesModel", "roomFinds", "(II)I"⟩, 25) := ⟨⟨by decide +kernel, by decide +kernel⟩, List.mem_of_getElem? (i := 985) (by decide +kernel), List.mem_of_getElem? (i := 1146) (by decide +kernel), List.mem_of_getElem? (i := 1147) (by decide +kernel)⟩
theorem lw_p33 : lw_okq (⟨"NineLedgesModel", "atYard", "(I)I"⟩, 25) := ⟨⟨by decide +kernel, by decide +kernel⟩, List.mem_of_getElem? (i := 985) (by decide +kernel), List.mem_of_getElem? (i := 1155) (by decide +kernel), List.mem_of_getElem? (i := 1156) (by decide +kernel)⟩
theorem lw_p34 : lw_okq (⟨"NineLedgesModel", "of", "(II)I"⟩, 25) := ⟨⟨by decide +kernel, by decide +kernel⟩, List.mem_of_getElem? (i := 985) (by decide +kernel), List.mem_of_getElem? (i := 1159) (by decide +kernel), List.mem_of_getElem? (i := 1160) (by decide +kernel)⟩
theorem lw_p35 : lw_okq (⟨"NineLedgesModel", "isLedge", "(I)Z"⟩, 25) := ⟨⟨by decide +kernel, by decide +kernel⟩, List.mem_of_getElem? (i := 985) (by decide +kernel), List.mem_of_getElem? (i := 1163) (by decide +kernel), List.mem_of_getElem? (i := 1164) (by decide +kernel)⟩
theorem lw_p36 : lw_okq (⟨"NineLedgesModel", "ledgesBefore", "(I)I"⟩, 25) := ⟨⟨by decide +kernel, by decide +kernel⟩, List.mem_of_getElem? (i := 985) (by decide +kernel), List.mem_of_getElem? (i := 1167) (by decide +kernel), List.mem_of_getElem? (i := 1168) (by decide +kernel)⟩
theorem lw_p37 : lw_okq (⟨"NineLedgesModel", "sets", "(III)V"⟩, 25) := ⟨⟨by decide +kernel, by decide +kernel⟩, List.mem_of_getElem? (i := 985) (by decide +kernel), List.mem_of_getElem? (i := 1182) (by decide +kernel), List.mem_of_getElem? (i := 1183) (by decide +kernel)⟩
theorem lw_p38 : lw_okq (⟨"NineLedgesModel", "sendHome", "(I)V"⟩, 25) := ⟨⟨by decide +kernel, by decide +kernel⟩, List.mem_of_getElem? (i := 985) (by decide +kernel), List.mem_of_getElem? (i := 1186) (by decide +kernel), List.mem_of_getElem? (i := 1187) (by decide +kernel)⟩
theorem lw_p39 : lw_okq (⟨"NineLedgesModel", "isGoer", "(I)Z"⟩, 25) := ⟨⟨by decide +kernel, by decide +kernel⟩, List.mem_of_getElem? (i := 985) (by decide +kernel), List.mem_of_getElem? (i := 1194) (by decide +kernel), List.mem_of_getElem? (i := 1195) (by decide +kernel)⟩
theorem lw_p40 : lw_okq (⟨"NineLedgesModel", "paceOf", "(I)I"⟩, 25) := ⟨⟨by decide +kernel, by decide +kernel⟩, List.mem_of_getElem? (i := 985) (by decide +kernel), List.mem_of_getElem? (i := 1199) (by decide +kernel), List.mem_of_getElem? (i := 1200) (by decide +kernel)⟩
theorem lw_p41 : lw_okq (⟨"NineLedgesModel", "loadOf", "(I)I"⟩, 25) := ⟨⟨by decide +kernel, by decide +kernel⟩, List.mem_of_getElem? (i := 985) (by decide +kernel), List.mem_of_getElem? (i := 1203) (by decide +kernel), List.mem_of_getElem? (i := 1204) (by decide +kernel)⟩
theorem lw_p42 : lw_okq (⟨"NineLedgesModel", "rankOf", "(I)I"⟩, 25) := ⟨⟨by decide +kernel, by decide +kernel⟩, List.mem_of_getElem? (i := 985) (by decide +kernel), List.mem_of_getElem? (i := 1207) (by decide +kernel), List.mem_of_getElem? (i := 1208) (by decide +kernel)⟩
theorem lw_p43 : lw_okq (⟨"NineLedgesModel", "canBack", "(I)Z"⟩, 25) := ⟨⟨by decide +kernel, by decide +kernel⟩, List.mem_of_getElem? (i := 985) (by decide +kernel), List.mem_of_getElem? (i := 1211) (by decide +kernel), List.mem_of_getElem? (i := 1212) (by decide +kernel)⟩
theorem lw_p44 : lw_okq (⟨"NineLedgesModel", "hears", "(I)Z"⟩, 25) := ⟨⟨by decide +kernel, by decide +kernel⟩, List.mem_of_getElem? (i := 985) (by decide +kernel), List.mem_of_getElem? (i := 1215) (by decide +kernel), List.mem_of_getElem? (i := 1216) (by decide +kernel)⟩
theorem lw_p45 : lw_okq (⟨"NineLedgesModel", "passes", "(IZ)I"⟩, 25) := ⟨⟨by decide +kernel, by decide +kernel⟩, List.mem_of_getElem? (i := 985) (by decide +kernel), List.mem_of_getElem? (i := 1243) (by decide +kernel), List.mem_of_getElem? (i := 1244) (by decide +kernel)⟩
theorem lw_p46 : lw_okq (⟨"NineLedgesModel", "drawn", "()I"⟩, 25) := ⟨⟨by decide +kernel, by decide +kernel⟩, List.mem_of_getElem? (i := 985) (by decide +kernel), List.mem_of_getElem? (i := 1248) (by decide +kernel), List.mem_of_getElem? (i := 1249) (by decide +kernel)⟩
theorem lw_p47 : lw_okq (⟨"NineLedgesModel", "aMinute", "(Z)V"⟩, 25) := ⟨⟨by decide +kernel, by decide +kernel⟩, List.mem_of_getElem? (i := 985) (by decide +kernel), List.mem_of_getElem? (i := 1253) (by decide +kernel), List.mem_of_getElem? (i := 1254) (by decide +kernel)⟩
def lw_privs_3 : List (MethodName × Nat) := [(⟨"NineLedgesModel", "roomFinds", "(II)I"⟩, 25), (⟨"NineLedgesModel", "atYard", "(I)I"⟩, 25), (⟨"NineLedgesModel", "of", "(II)I"⟩, 25), (⟨"NineLedgesModel", "isLedge", "(I)Z"⟩, 25), (⟨"NineLedgesModel", "ledgesBefore", "(I)I"⟩, 25), (⟨"NineLedgesModel", "sets", "(III)V"⟩, 25), (⟨"NineLedgesModel", "sendHome", "(I)V"⟩, 25), (⟨"NineLedgesModel", "isGoer", "(I)Z"⟩, 25), (⟨"NineLedgesModel", "paceOf", "(I)I"⟩, 25), (⟨"NineLedgesModel", "loadOf", "(I)I"⟩, 25), (⟨"NineLedgesModel", "rankOf", "(I)I"⟩, 25), (⟨"NineLedgesModel", "canBack", "(I)Z"⟩, 25), (⟨"NineLedgesModel", "hears", "(I)Z"⟩, 25), (⟨"NineLedgesModel", "passes", "(IZ)I"⟩, 25), (⟨"NineLedgesModel", "drawn", "()I"⟩, 25), (⟨"NineLedgesModel", "aMinute", "(Z)V"⟩, 25)]
theorem lw_r3 : ∀ q ∈ lw_privs_3, lw_okq q := List.forall_mem_cons.mpr ⟨lw_p32, List.forall_mem_cons.mpr ⟨lw_p33, List.forall_mem_cons.mpr ⟨lw_p34, List.forall_mem_cons.mpr ⟨lw_p35, List.forall_mem_cons.mpr ⟨lw_p36, List.forall_mem_cons.mpr ⟨lw_p37, List.forall_mem_cons.mpr ⟨lw_p38, List.forall_mem_cons.mpr ⟨lw_p39, List.forall_mem_cons.mpr ⟨lw_p40, List.forall_mem_cons.mpr ⟨lw_p41, List.forall_mem_cons.mpr ⟨lw_p42, List.forall_mem_cons.mpr ⟨lw_p43, List.forall_mem_cons.mpr ⟨lw_p44, List.forall_mem_cons.mpr ⟨lw_p45, List.forall_mem_cons.mpr ⟨lw_p46, List.forall_mem_cons.mpr ⟨lw_p47, fun _ h => absurd h List.not_mem_nil⟩⟩⟩⟩⟩⟩⟩⟩⟩⟩⟩⟩⟩⟩⟩⟩
theorem lw_p48 : lw_okq (⟨"NineLedgesModel", "goesOn", "(IZ)V"⟩, 25) := ⟨⟨by decide +kernel, by decide +kernel⟩, List.mem_of_getElem? (i := 985) (by decide +kernel), List.mem_of_getElem? (i := 1257) (by decide +kernel), List.mem_of_getElem? (i := 1258) (by decide +kernel)⟩
theorem lw_p49 : lw_okq (⟨"NineLedgesModel", "isHeard", "(I)Z"⟩, 25) := ⟨⟨by decide +kernel, by decide +kernel⟩, List.mem_of_getElem? (i := 985) (by decide +kernel), List.mem_of_getElem? (i := 1261) (by decide +kernel), List.mem_of_getElem? (i := 1262) (by decide +kernel)⟩
theorem lw_p50 : lw_okq (⟨"NineLedgesModel", "faces", "(I)I"⟩, 25) := ⟨⟨by decide +kernel, by decide +kernel⟩, List.mem_of_getElem? (i := 985) (by decide +kernel), List.mem_of_getElem? (i := 1265) (by decide +kernel), List.mem_of_getElem? (i := 1266) (by decide +kernel)⟩
theorem lw_p51 : lw_okq (⟨"NineLedgesModel", "against", "(II)I"⟩, 25) := ⟨⟨by decide +kernel, by decide +kernel⟩, List.mem_of_getElem? (i := 985) (by decide +kernel), List.mem_of_getElem? (i := 1269) (by decide +kernel), List.mem_of_getElem? (i := 1270) (by decide +kernel)⟩
theorem lw_p52 : lw_okq (⟨"NineLedgesModel", "comes", "(II)V"⟩, 25) := ⟨⟨by decide +kernel, by decide +kernel⟩, List.mem_of_getElem? (i := 985) (by decide +kernel), List.mem_of_getElem? (i := 1273) (by decide +kernel), List.mem_of_getElem? (i := 1274) (by decide +kernel)⟩
theorem lw_p53 : lw_okq (⟨"NineLedgesModel", "meets", "(II)V"⟩, 25) := ⟨⟨by decide +kernel, by decide +kernel⟩, List.mem_of_getElem? (i := 985) (by decide +kernel), List.mem_of_getElem? (i := 1279) (by decide +kernel), List.mem_of_getElem? (i := 1280) (by decide +kernel)⟩
theorem lw_p54 : lw_okq (⟨"NineLedgesModel", "howMany", "(I)I"⟩, 25) := ⟨⟨by decide +kernel, by decide +kernel⟩, List.mem_of_getElem? (i := 985) (by decide +kernel), List.mem_of_getElem? (i := 1283) (by decide +kernel), List.mem_of_getElem? (i := 1284) (by decide +kernel)⟩
theorem lw_p55 : lw_okq (⟨"NineLedgesModel", "keepAside", "()V"⟩, 25) := ⟨⟨by decide +kernel, by decide +kernel⟩, List.mem_of_getElem? (i := 985) (by decide +kernel), List.mem_of_getElem? (i := 1296) (by decide +kernel), List.mem_of_getElem? (i := 1297) (by decide +kernel)⟩
theorem lw_p56 : lw_okq (⟨"NineLedgesModel", "putBack", "()V"⟩, 25) := ⟨⟨by decide +kernel, by decide +kernel⟩, List.mem_of_getElem? (i := 985) (by decide +kernel), List.mem_of_getElem? (i := 1300) (by decide +kernel), List.mem_of_getElem? (i := 1301) (by decide +kernel)⟩
theorem lw_p57 : lw_okq (⟨"NineLedgesModel", "findOver", "()V"⟩, 25) := ⟨⟨by decide +kernel, by decide +kernel⟩, List.mem_of_getElem? (i := 985) (by decide +kernel), List.mem_of_getElem? (i := 1308) (by decide +kernel), List.mem_of_getElem? (i := 1309) (by decide +kernel)⟩
theorem lw_p58 : lw_okq (⟨"NineLedgesModel", "mayBeStuck", "()Z"⟩, 25) := ⟨⟨by decide +kernel, by decide +kernel⟩, List.mem_of_getElem? (i := 985) (by decide +kernel), List.mem_of_getElem? (i := 1316) (by decide +kernel), List.mem_of_getElem? (i := 1317) (by decide +kernel)⟩
theorem lw_p59 : lw_okq (⟨"NineLedgesModel", "keepStood", "()V"⟩, 25) := ⟨⟨by decide +kernel, by decide +kernel⟩, List.mem_of_getElem? (i := 985) (by decide +kernel), List.mem_of_getElem? (i := 1320) (by decide +kernel), List.mem_of_getElem? (i := 1321) (by decide +kernel)⟩
theorem lw_p60 : lw_okq (⟨"NineLedgesModel", "isAsItStood", "()Z"⟩, 25) := ⟨⟨by decide +kernel, by decide +kernel⟩, List.mem_of_getElem? (i := 985) (by decide +kernel), List.mem_of_getElem? (i := 1324) (by decide +kernel), List.mem_of_getElem? (i := 1325) (by decide +kernel)⟩
theorem lw_p61 : lw_okq (⟨"NineLedgesModel", "findBestStart", "(I)V"⟩, 25) := ⟨⟨by decide +kernel, by decide +kernel⟩, List.mem_of_getElem? (i := 985) (by decide +kernel), List.mem_of_getElem? (i := 1332) (by decide +kernel), List.mem_of_getElem? (i := 1333) (by decide +kernel)⟩
theorem lw_p62 : lw_okq (⟨"NineLedgesModel", "spareOf", "(II)I"⟩, 25) := ⟨⟨by decide +kernel, by decide +kernel⟩, List.mem_of_getElem? (i := 985) (by decide +kernel), List.mem_of_getElem? (i := 1340) (by decide +kernel), List.mem_of_getElem? (i := 1341) (by decide +kernel)⟩
theorem lw_p63 : lw_okq (⟨"NineLedgesModel", "overWith", "(II)I"⟩, 25) := ⟨⟨by decide +kernel, by decide +kernel⟩, List.mem_of_getElem? (i := 985) (by decide +kernel), List.mem_of_getElem? (i := 1348) (by decide +kernel), List.mem_of_getElem? (i := 1349) (by decide +kernel)⟩
def lw_privs_4 : List (MethodName × Nat) := [(⟨"NineLedgesModel", "goesOn", "(IZ)V"⟩, 25), (⟨"NineLedgesModel", "isHeard", "(I)Z"⟩, 25), (⟨"NineLedgesModel", "faces", "(I)I"⟩, 25), (⟨"NineLedgesModel", "against", "(II)I"⟩, 25), (⟨"NineLedgesModel", "comes", "(II)V"⟩, 25), (⟨"NineLedgesModel", "meets", "(II)V"⟩, 25), (⟨"NineLedgesModel", "howMany", "(I)I"⟩, 25), (⟨"NineLedgesModel", "keepAside", "()V"⟩, 25), (⟨"NineLedgesModel", "putBack", "()V"⟩, 25), (⟨"NineLedgesModel", "findOver", "()V"⟩, 25), (⟨"NineLedgesModel", "mayBeStuck", "()Z"⟩, 25), (⟨"NineLedgesModel", "keepStood", "()V"⟩, 25), (⟨"NineLedgesModel", "isAsItStood", "()Z"⟩, 25), (⟨"NineLedgesModel", "findBestStart", "(I)V"⟩, 25), (⟨"NineLedgesModel", "spareOf", "(II)I"⟩, 25), (⟨"NineLedgesModel", "overWith", "(II)I"⟩, 25)]
theorem lw_r4 : ∀ q ∈ lw_privs_4, lw_okq q := List.forall_mem_cons.mpr ⟨lw_p48, List.forall_mem_cons.mpr ⟨lw_p49, List.forall_mem_cons.mpr ⟨lw_p50, List.forall_mem_cons.mpr ⟨lw_p51, List.forall_mem_cons.mpr ⟨lw_p52, List.forall_mem_cons.mpr ⟨lw_p53, List.forall_mem_cons.mpr ⟨lw_p54, List.forall_mem_cons.mpr ⟨lw_p55, List.forall_mem_cons.mpr ⟨lw_p56, List.forall_mem_cons.mpr ⟨lw_p57, List.forall_mem_cons.mpr ⟨lw_p58, List.forall_mem_cons.mpr ⟨lw_p59, List.forall_mem_cons.mpr ⟨lw_p60, List.forall_mem_cons.mpr ⟨lw_p61, List.forall_mem_cons.mpr ⟨lw_p62, List.forall_mem_cons.mpr ⟨lw_p63, fun _ h => absurd h List.not_mem_nil⟩⟩⟩⟩⟩⟩⟩⟩⟩⟩⟩⟩⟩⟩⟩⟩
theorem lw_p64 : lw_okq (⟨"NineLedgesModel", "own", "()I"⟩, 25) := ⟨⟨by decide +kernel, by decide +kernel⟩, List.mem_of_getElem? (i := 985) (by decide +kernel), List.mem_of_getElem? (i := 1369) (by decide +kernel), List.mem_of_getElem? (i := 1370) (by decide +kernel)⟩
theorem lw_p65 : lw_okq (⟨"NineLedgesModel", "goesBy", "(II)I"⟩, 25) := ⟨⟨by decide +kernel, by decide +kernel⟩, List.mem_of_getElem? (i := 985) (by decide +kernel), List.mem_of_getElem? (i := 1373) (by decide +kernel), List.mem_of_getElem? (i := 1374) (by decide +kernel)⟩
theorem lw_p66 : lw_okq (⟨"NineLedgesModel", "ran", "(I)V"⟩, 25) := ⟨⟨by decide +kernel, by decide +kernel⟩, List.mem_of_getElem? (i := 985) (by decide +kernel), List.mem_of_getElem? (i := 1377) (by decide +kernel), List.mem_of_getElem? (i := 1378) (by decide +kernel)⟩
theorem lw_p67 : lw_okq (⟨"NineLedgesModel", "blowsBy", "(II)I"⟩, 25) := ⟨⟨by decide +kernel, by decide +kernel⟩, List.mem_of_getElem? (i := 985) (by decide +kernel), List.mem_of_getElem? (i := 1381) (by decide +kernel), List.mem_of_getElem? (i := 1382) (by decide +kernel)⟩
theorem lw_p68 : lw_okq (⟨"NineLedgesModel", "yieldsBy", "(II)I"⟩, 25) := ⟨⟨by decide +kernel, by decide +kernel⟩, List.mem_of_getElem? (i := 985) (by decide +kernel), List.mem_of_getElem? (i := 1385) (by decide +kernel), List.mem_of_getElem? (i := 1386) (by decide +kernel)⟩
theorem lw_p69 : lw_okq (⟨"NineLedgesModel", "tellsBy", "(II)I"⟩, 25) := ⟨⟨by decide +kernel, by decide +kernel⟩, List.mem_of_getElem? (i := 985) (by decide +kernel), List.mem_of_getElem? (i := 1389) (by decide +kernel), List.mem_of_getElem? (i := 1390) (by decide +kernel)⟩
def lw_privs_5 : List (MethodName × Nat) := [(⟨"NineLedgesModel", "own", "()I"⟩, 25), (⟨"NineLedgesModel", "goesBy", "(II)I"⟩, 25), (⟨"NineLedgesModel", "ran", "(I)V"⟩, 25), (⟨"NineLedgesModel", "blowsBy", "(II)I"⟩, 25), (⟨"NineLedgesModel", "yieldsBy", "(II)I"⟩, 25), (⟨"NineLedgesModel", "tellsBy", "(II)I"⟩, 25)]
theorem lw_r5 : ∀ q ∈ lw_privs_5, lw_okq q := List.forall_mem_cons.mpr ⟨lw_p64, List.forall_mem_cons.mpr ⟨lw_p65, List.forall_mem_cons.mpr ⟨lw_p66, List.forall_mem_cons.mpr ⟨lw_p67, List.forall_mem_cons.mpr ⟨lw_p68, List.forall_mem_cons.mpr ⟨lw_p69, fun _ h => absurd h List.not_mem_nil⟩⟩⟩⟩⟩⟩
def lw_privs : List (MethodName × Nat) := lw_privs_1 ++ (lw_privs_2 ++ (lw_privs_3 ++ (lw_privs_4 ++ (lw_privs_5))))
def lw_tbl : List Cond := k2_sels lw_privs ++ tables_1
theorem lw_privs_ok : ∀ q ∈ lw_privs, lw_okq q := by
  show ∀ q ∈ lw_privs_1 ++ (lw_privs_2 ++ (lw_privs_3 ++ (lw_privs_4 ++ (lw_privs_5)))), lw_okq q
  exact List.forall_mem_append.mpr ⟨lw_r1, List.forall_mem_append.mpr ⟨lw_r2, List.forall_mem_append.mpr ⟨lw_r3, List.forall_mem_append.mpr ⟨lw_r4, lw_r5⟩⟩⟩⟩
-- ===== end of PART A; then your names; then what follows =====
end
section
/-! names of classes, fields, methods (began as kit/laws NAMES) -/
def RX0 : String := "NineLedges$Blind"
def TX0 : u_T := fun k => match k with
  | _ => ("", "", "", false)
def tyX0 : Nat → FieldType := fun k => match k with
  | _ => .int
abbrev wsX00 : List Cond := u_ws RX0 TX0 0
theorem nmX0 : ∀ a, a < 0 → ∀ b, b < 0 → a ≠ b → (TX0 a).2.1 ≠ (TX0 b).2.1 := by decide +kernel
theorem tyX0_ok : ∀ k, k < 0 → parseFieldDescriptor (TX0 k).2.2.1 = some (tyX0 k) := by decide +kernel
abbrev cX0_init : ByteArray := prog_2_method_1_code
def yX0_init : MethodName := ⟨RX0, "<init>", "()V"⟩
abbrev cX0_loadOf : ByteArray := prog_2_method_2_code
def yX0_loadOf : MethodName := ⟨RX0, "loadOf", "(I)I"⟩
abbrev cX0_hears : ByteArray := prog_2_method_3_code
def yX0_hears : MethodName := ⟨RX0, "hears", "()Z"⟩
abbrev cX0_yields : ByteArray := prog_2_method_4_code
def yX0_yields : MethodName := ⟨RX0, "yields", "(LNineLedges$Goer;LNineLedges$Row;I)I"⟩
abbrev cX0_tells : ByteArray := prog_2_method_5_code
def yX0_tells : MethodName := ⟨RX0, "tells", "(LNineLedges$Goer;LNineLedges$Row;I)I"⟩
def RX1 : String := "NineLedges$Cliff"
def TX1 : u_T := fun k => match k with
  | 0 => ("NineLedges$Cliff", "space", "[I", true)
  | 1 => ("NineLedges$Cliff", "goers", "[LNineLedges$Goer;", true)
  | 2 => ("NineLedges$Cliff", "company", "I", false)
  | 3 => ("NineLedges$Cliff", "minute", "I", false)
  | 4 => ("NineLedges$Cliff", "takings", "I", false)
  | 5 => ("NineLedges$Cliff", "backs", "I", false)
  | 6 => ("NineLedges$Cliff", "z", "I", false)
  | 7 => ("NineLedges$Cliff", "tape", "LNineLedges$Row;", true)
  | 8 => ("NineLedges$Cliff", "waiting", "LNineLedges$Row;", true)
  | _ => ("NineLedges$Cliff", "laws", "[LNineLedges$Text;", true)
def tyX1 : Nat → FieldType := fun k => match k with
  | 0 => .array .int
  | 1 => .array (.object "NineLedges$Goer")
  | 2 => .int
  | 3 => .int
  | 4 => .int
  | 5 => .int
  | 6 => .int
  | 7 => .object "NineLedges$Row"
  | 8 => .object "NineLedges$Row"
  | _ => .array (.object "NineLedges$Text")
abbrev wsX10 : List Cond := u_ws RX1 TX1 10
theorem nmX1 : ∀ a, a < 10 → ∀ b, b < 10 → a ≠ b → (TX1 a).2.1 ≠ (TX1 b).2.1 := by decide +kernel
theorem tyX1_ok : ∀ k, k < 10 → parseFieldDescriptor (TX1 k).2.2.1 = some (tyX1 k) := by decide +kernel
abbrev cX1_init : ByteArray := prog_3_method_1_code
def yX1_init : MethodName := ⟨RX1, "<init>", "()V"⟩
abbrev cX1_copyFrom : ByteArray := prog_3_method_2_code
def yX1_copyFrom : MethodName := ⟨RX1, "copyFrom", "(LNineLedges$Cliff;)V"⟩
abbrev cX1_isLedge : ByteArray := prog_3_method_3_code
def yX1_isLedge : MethodName := ⟨RX1, "isLedge", "(I)Z"⟩
abbrev cX1_howManyLedges : ByteArray := prog_3_method_4_code
def yX1_howManyLedges : MethodName := ⟨RX1, "howManyLedges", "()I"⟩
abbrev cX1_ledgesBefore : ByteArray := prog_3_method_5_code
def yX1_ledgesBefore : MethodName := ⟨RX1, "ledgesBefore", "(I)I"⟩
abbrev cX1_ledgeAt : ByteArray := prog_3_method_6_code
def yX1_ledgeAt : MethodName := ⟨RX1, "ledgeAt", "(I)I"⟩
abbrev cX1_yardOf : ByteArray := prog_3_method_7_code
def yX1_yardOf : MethodName := ⟨RX1, "yardOf", "(I)I"⟩
abbrev cX1_crowdAt : ByteArray := prog_3_method_8_code
def yX1_crowdAt : MethodName := ⟨RX1, "crowdAt", "(I)I"⟩
abbrev cX1_howMany : ByteArray := prog_3_method_9_code
def yX1_howMany : MethodName := ⟨RX1, "howMany", "(I)I"⟩
abbrev cX1_refusesRoom : ByteArray := prog_3_method_10_code
def yX1_refusesRoom : MethodName := ⟨RX1, "refusesRoom", "(II)I"⟩
abbrev cX1_rankOf : ByteArray := prog_3_method_11_code
def yX1_rankOf : MethodName := ⟨RX1, "rankOf", "(LNineLedges$Goer;)I"⟩
abbrev cX1_draw : ByteArray := prog_3_method_12_code
def yX1_draw : MethodName := ⟨RX1, "draw", "()I"⟩
abbrev cX1_passMinute : ByteArray := prog_3_method_13_code
def yX1_passMinute : MethodName := ⟨RX1, "passMinute", "(Z)Z"⟩
abbrev cX1_walk : ByteArray := prog_3_method_14_code
def yX1_walk : MethodName := ⟨RX1, "walk", "(LNineLedges$Goer;Z)Z"⟩
abbrev cX1_isFree : ByteArray := prog_3_method_15_code
def yX1_isFree : MethodName := ⟨RX1, "isFree", "(I)Z"⟩
abbrev cX1_step : ByteArray := prog_3_method_16_code
def yX1_step : MethodName := ⟨RX1, "step", "(LNineLedges$Goer;I)V"⟩
abbrev cX1_hearsSomebody : ByteArray := prog_3_method_17_code
def yX1_hearsSomebody : MethodName := ⟨RX1, "hearsSomebody", "(LNineLedges$Goer;)Z"⟩
abbrev cX1_meet : ByteArray := prog_3_method_18_code
def yX1_meet : MethodName := ⟨RX1, "meet", "(LNineLedges$Goer;I)Z"⟩
abbrev cX1_givesWay : ByteArray := prog_3_method_19_code
def yX1_givesWay : MethodName := ⟨RX1, "givesWay", "(LNineLedges$Goer;ILNineLedges$Goer;I)Z"⟩
abbrev cX1_allOver : ByteArray := prog_3_method_20_code
def yX1_allOver : MethodName := ⟨RX1, "allOver", "()Z"⟩
abbrev cX1_someStartLater : ByteArray := prog_3_method_21_code
def yX1_someStartLater : MethodName := ⟨RX1, "someStartLater", "()Z"⟩
abbrev cX1_runTillOver : ByteArray := prog_3_method_22_code
def yX1_runTillOver : MethodName := ⟨RX1, "runTillOver", "()I"⟩
abbrev cX1_runTillStuck : ByteArray := prog_3_method_23_code
def yX1_runTillStuck : MethodName := ⟨RX1, "runTillStuck", "()I"⟩
def RX2 : String := "NineLedges$Coffin"
def TX2 : u_T := fun k => match k with
  | _ => ("", "", "", false)
def tyX2 : Nat → FieldType := fun k => match k with
  | _ => .int
abbrev wsX20 : List Cond := u_ws RX2 TX2 0
theorem nmX2 : ∀ a, a < 0 → ∀ b, b < 0 → a ≠ b → (TX2 a).2.1 ≠ (TX2 b).2.1 := by decide +kernel
theorem tyX2_ok : ∀ k, k < 0 → parseFieldDescriptor (TX2 k).2.2.1 = some (tyX2 k) := by decide +kernel
abbrev cX2_init : ByteArray := prog_4_method_1_code
def yX2_init : MethodName := ⟨RX2, "<init>", "()V"⟩
abbrev cX2_paceOf : ByteArray := prog_4_method_2_code
def yX2_paceOf : MethodName := ⟨RX2, "paceOf", "(I)I"⟩
abbrev cX2_loadOf : ByteArray := prog_4_method_3_code
def yX2_loadOf : MethodName := ⟨RX2, "loadOf", "(I)I"⟩
abbrev cX2_canBack : ByteArray := prog_4_method_4_code
def yX2_canBack : MethodName := ⟨RX2, "canBack", "(I)Z"⟩
abbrev cX2_blows : ByteArray := prog_4_method_5_code
def yX2_blows : MethodName := ⟨RX2, "blows", "(LNineLedges$Goer;LNineLedges$Row;I)I"⟩
def RX3 : String := "NineLedges$Goat"
def TX3 : u_T := fun k => match k with
  | _ => ("", "", "", false)
def tyX3 : Nat → FieldType := fun k => match k with
  | _ => .int
abbrev wsX30 : List Cond := u_ws RX3 TX3 0
theorem nmX3 : ∀ a, a < 0 → ∀ b, b < 0 → a ≠ b → (TX3 a).2.1 ≠ (TX3 b).2.1 := by decide +kernel
theorem tyX3_ok : ∀ k, k < 0 → parseFieldDescriptor (TX3 k).2.2.1 = some (tyX3 k) := by decide +kernel
abbrev cX3_init : ByteArray := prog_5_method_1_code
def yX3_init : MethodName := ⟨RX3, "<init>", "()V"⟩
abbrev cX3_loadOf : ByteArray := prog_5_method_2_code
def yX3_loadOf : MethodName := ⟨RX3, "loadOf", "(I)I"⟩
abbrev cX3_goes : ByteArray := prog_5_method_3_code
def yX3_goes : MethodName := ⟨RX3, "goes", "(LNineLedges$Goer;LNineLedges$Row;I)I"⟩
def RX4 : String := "NineLedges$Goer"
def TX4 : u_T := fun k => match k with
  | 0 => ("NineLedges$Goer", "number", "I", true)
  | 1 => ("NineLedges$Goer", "kind", "I", false)
  | 2 => ("NineLedges$Goer", "m", "I", false)
  | 3 => ("NineLedges$Goer", "from", "I", false)
  | 4 => ("NineLedges$Goer", "to", "I", false)
  | 5 => ("NineLedges$Goer", "start", "I", false)
  | 6 => ("NineLedges$Goer", "how", "I", false)
  | 7 => ("NineLedges$Goer", "yard", "I", false)
  | 8 => ("NineLedges$Goer", "wait", "I", false)
  | 9 => ("NineLedges$Goer", "backs", "Z", false)
  | 10 => ("NineLedges$Goer", "times", "I", false)
  | 11 => ("NineLedges$Goer", "atFault", "Z", false)
  | 12 => ("NineLedges$Goer", "pace", "I", false)
  | 13 => ("NineLedges$Goer", "load", "I", false)
  | 14 => ("NineLedges$Goer", "canBack", "Z", false)
  | _ => ("NineLedges$Goer", "hears", "Z", false)
def tyX4 : Nat → FieldType := fun k => match k with
  | 0 => .int
  | 1 => .int
  | 2 => .int
  | 3 => .int
  | 4 => .int
  | 5 => .int
  | 6 => .int
  | 7 => .int
  | 8 => .int
  | 9 => .boolean
  | 10 => .int
  | 11 => .boolean
  | 12 => .int
  | 13 => .int
  | 14 => .boolean
  | _ => .boolean
abbrev wsX40 : List Cond := u_ws RX4 TX4 16
theorem nmX4 : ∀ a, a < 16 → ∀ b, b < 16 → a ≠ b → (TX4 a).2.1 ≠ (TX4 b).2.1 := by decide +kernel
theorem tyX4_ok : ∀ k, k < 16 → parseFieldDescriptor (TX4 k).2.2.1 = some (tyX4 k) := by decide +kernel
abbrev cX4_init : ByteArray := prog_6_method_1_code
def yX4_init : MethodName := ⟨RX4, "<init>", "(I)V"⟩
abbrev cX4_turnInto : ByteArray := prog_6_method_2_code
def yX4_turnInto : MethodName := ⟨RX4, "turnInto", "(LNineLedges$Walker;II)V"⟩
abbrev cX4_sendHome : ByteArray := prog_6_method_3_code
def yX4_sendHome : MethodName := ⟨RX4, "sendHome", "()V"⟩
abbrev cX4_leave : ByteArray := prog_6_method_4_code
def yX4_leave : MethodName := ⟨RX4, "leave", "(I)V"⟩
abbrev cX4_enter : ByteArray := prog_6_method_5_code
def yX4_enter : MethodName := ⟨RX4, "enter", "()V"⟩
abbrev cX4_way : ByteArray := prog_6_method_6_code
def yX4_way : MethodName := ⟨RX4, "way", "()I"⟩
abbrev cX4_comesAgainst : ByteArray := prog_6_method_7_code
def yX4_comesAgainst : MethodName := ⟨RX4, "comesAgainst", "(LNineLedges$Goer;)Z"⟩
abbrev cX4_fact : ByteArray := prog_6_method_8_code
def yX4_fact : MethodName := ⟨RX4, "fact", "(I)I"⟩
abbrev cX4_copyFrom : ByteArray := prog_6_method_9_code
def yX4_copyFrom : MethodName := ⟨RX4, "copyFrom", "(LNineLedges$Goer;)V"⟩
def RX5 : String := "NineLedges$Herd"
def TX5 : u_T := fun k => match k with
  | _ => ("", "", "", false)
def tyX5 : Nat → FieldType := fun k => match k with
  | _ => .int
abbrev wsX50 : List Cond := u_ws RX5 TX5 0
theorem nmX5 : ∀ a, a < 0 → ∀ b, b < 0 → a ≠ b → (TX5 a).2.1 ≠ (TX5 b).2.1 := by decide +kernel
theorem tyX5_ok : ∀ k, k < 0 → parseFieldDescriptor (TX5 k).2.2.1 = some (tyX5 k) := by decide +kernel
abbrev cX5_init : ByteArray := prog_7_method_1_code
def yX5_init : MethodName := ⟨RX5, "<init>", "()V"⟩
abbrev cX5_paceOf : ByteArray := prog_7_method_2_code
def yX5_paceOf : MethodName := ⟨RX5, "paceOf", "(I)I"⟩
abbrev cX5_loadOf : ByteArray := prog_7_method_3_code
def yX5_loadOf : MethodName := ⟨RX5, "loadOf", "(I)I"⟩
abbrev cX5_tells : ByteArray := prog_7_method_4_code
def yX5_tells : MethodName := ⟨RX5, "tells", "(LNineLedges$Goer;LNineLedges$Row;I)I"⟩
def RX6 : String := "NineLedges$Row"
def TX6 : u_T := fun k => match k with
  | 0 => ("NineLedges$Row", "items", "[I", true)
  | _ => ("NineLedges$Row", "size", "I", false)
def tyX6 : Nat → FieldType := fun k => match k with
  | 0 => .array .int
  | _ => .int
abbrev wsX60 : List Cond := u_ws RX6 TX6 2
theorem nmX6 : ∀ a, a < 2 → ∀ b, b < 2 → a ≠ b → (TX6 a).2.1 ≠ (TX6 b).2.1 := by decide +kernel
theorem tyX6_ok : ∀ k, k < 2 → parseFieldDescriptor (TX6 k).2.2.1 = some (tyX6 k) := by decide +kernel
abbrev cX6_init : ByteArray := prog_8_method_1_code
def yX6_init : MethodName := ⟨RX6, "<init>", "(I)V"⟩
abbrev cX6_has : ByteArray := prog_8_method_2_code
def yX6_has : MethodName := ⟨RX6, "has", "(I)Z"⟩
abbrev cX6_hasRun : ByteArray := prog_8_method_3_code
def yX6_hasRun : MethodName := ⟨RX6, "hasRun", "(II)Z"⟩
abbrev cX6_at : ByteArray := prog_8_method_4_code
def yX6_at : MethodName := ⟨RX6, "at", "(I)I"⟩
abbrev cX6_set : ByteArray := prog_8_method_5_code
def yX6_set : MethodName := ⟨RX6, "set", "(II)V"⟩
abbrev cX6_add : ByteArray := prog_8_method_6_code
def yX6_add : MethodName := ⟨RX6, "add", "(I)Z"⟩
abbrev cX6_last : ByteArray := prog_8_method_7_code
def yX6_last : MethodName := ⟨RX6, "last", "()I"⟩
abbrev cX6_removeLast : ByteArray := prog_8_method_8_code
def yX6_removeLast : MethodName := ⟨RX6, "removeLast", "()I"⟩
abbrev cX6_clear : ByteArray := prog_8_method_9_code
def yX6_clear : MethodName := ⟨RX6, "clear", "()V"⟩
abbrev cX6_zeros : ByteArray := prog_8_method_10_code
def yX6_zeros : MethodName := ⟨RX6, "zeros", "(I)V"⟩
abbrev cX6_paste : ByteArray := prog_8_method_11_code
def yX6_paste : MethodName := ⟨RX6, "paste", "(ILNineLedges$Row;II)V"⟩
abbrev cX6_copyFrom : ByteArray := prog_8_method_12_code
def yX6_copyFrom : MethodName := ⟨RX6, "copyFrom", "(LNineLedges$Row;)V"⟩
def RX7 : String := "NineLedges$Sleeping"
def TX7 : u_T := fun k => match k with
  | _ => ("", "", "", false)
def tyX7 : Nat → FieldType := fun k => match k with
  | _ => .int
abbrev wsX70 : List Cond := u_ws RX7 TX7 0
theorem nmX7 : ∀ a, a < 0 → ∀ b, b < 0 → a ≠ b → (TX7 a).2.1 ≠ (TX7 b).2.1 := by decide +kernel
theorem tyX7_ok : ∀ k, k < 0 → parseFieldDescriptor (TX7 k).2.2.1 = some (tyX7 k) := by decide +kernel
abbrev cX7_init : ByteArray := prog_9_method_1_code
def yX7_init : MethodName := ⟨RX7, "<init>", "()V"⟩
abbrev cX7_paceOf : ByteArray := prog_9_method_2_code
def yX7_paceOf : MethodName := ⟨RX7, "paceOf", "(I)I"⟩
abbrev cX7_hears : ByteArray := prog_9_method_3_code
def yX7_hears : MethodName := ⟨RX7, "hears", "()Z"⟩
abbrev cX7_blows : ByteArray := prog_9_method_4_code
def yX7_blows : MethodName := ⟨RX7, "blows", "(LNineLedges$Goer;LNineLedges$Row;I)I"⟩
def RX8 : String := "NineLedges$Text"
def TX8 : u_T := fun k => match k with
  | 0 => ("NineLedges$Text", "least", "I", true)
  | 1 => ("NineLedges$Text", "most", "I", true)
  | 2 => ("NineLedges$Text", "code", "LNineLedges$Row;", true)
  | 3 => ("NineLedges$Text", "values", "LNineLedges$Row;", true)
  | 4 => ("NineLedges$Text", "pending", "LNineLedges$Row;", true)
  | 5 => ("NineLedges$Text", "names", "Ljava/lang/String;", false)
  | 6 => ("NineLedges$Text", "open", "I", false)
  | 7 => ("NineLedges$Text", "digits", "I", false)
  | _ => ("NineLedges$Text", "wantsOperand", "Z", false)
def tyX8 : Nat → FieldType := fun k => match k with
  | 0 => .int
  | 1 => .int
  | 2 => .object "NineLedges$Row"
  | 3 => .object "NineLedges$Row"
  | 4 => .object "NineLedges$Row"
  | 5 => .object "java/lang/String"
  | 6 => .int
  | 7 => .int
  | _ => .boolean
abbrev wsX80 : List Cond := u_ws RX8 TX8 9
theorem nmX8 : ∀ a, a < 9 → ∀ b, b < 9 → a ≠ b → (TX8 a).2.1 ≠ (TX8 b).2.1 := by decide +kernel
theorem tyX8_ok : ∀ k, k < 9 → parseFieldDescriptor (TX8 k).2.2.1 = some (tyX8 k) := by decide +kernel
abbrev cX8_init : ByteArray := prog_10_method_1_code
def yX8_init : MethodName := ⟨RX8, "<init>", "(II)V"⟩
abbrev cX8_copyFrom : ByteArray := prog_10_method_2_code
def yX8_copyFrom : MethodName := ⟨RX8, "copyFrom", "(LNineLedges$Text;)V"⟩
abbrev cX8_value : ByteArray := prog_10_method_3_code
def yX8_value : MethodName := ⟨RX8, "value", "(III)I"⟩
abbrev cX8_result : ByteArray := prog_10_method_4_code
def yX8_result : MethodName := ⟨RX8, "result", "(III)I"⟩
abbrev cX8_faultOf : ByteArray := prog_10_method_5_code
def yX8_faultOf : MethodName := ⟨RX8, "faultOf", "(LNineLedges$Row;Ljava/lang/String;)I"⟩
abbrev cX8_beginsOperand : ByteArray := prog_10_method_6_code
def yX8_beginsOperand : MethodName := ⟨RX8, "beginsOperand", "(I)Z"⟩
abbrev cX8_goesOn : ByteArray := prog_10_method_7_code
def yX8_goesOn : MethodName := ⟨RX8, "goesOn", "(I)Z"⟩
abbrev cX8_addsDigit : ByteArray := prog_10_method_8_code
def yX8_addsDigit : MethodName := ⟨RX8, "addsDigit", "(I)Z"⟩
abbrev cX8_closes : ByteArray := prog_10_method_9_code
def yX8_closes : MethodName := ⟨RX8, "closes", "()Z"⟩
abbrev cX8_release : ByteArray := prog_10_method_10_code
def yX8_release : MethodName := ⟨RX8, "release", "(I)V"⟩
abbrev cX8_isDigit : ByteArray := prog_10_method_11_code
def yX8_isDigit : MethodName := ⟨RX8, "isDigit", "(I)Z"⟩
abbrev cX8_levelOf : ByteArray := prog_10_method_12_code
def yX8_levelOf : MethodName := ⟨RX8, "levelOf", "(I)I"⟩
def RX9 : String := "NineLedges$Walker"
def TX9 : u_T := fun k => match k with
  | _ => ("", "", "", false)
def tyX9 : Nat → FieldType := fun k => match k with
  | _ => .int
abbrev wsX90 : List Cond := u_ws RX9 TX9 0
theorem nmX9 : ∀ a, a < 0 → ∀ b, b < 0 → a ≠ b → (TX9 a).2.1 ≠ (TX9 b).2.1 := by decide +kernel
theorem tyX9_ok : ∀ k, k < 0 → parseFieldDescriptor (TX9 k).2.2.1 = some (tyX9 k) := by decide +kernel
abbrev cX9_init : ByteArray := prog_11_method_1_code
def yX9_init : MethodName := ⟨RX9, "<init>", "()V"⟩
abbrev cX9_paceOf : ByteArray := prog_11_method_2_code
def yX9_paceOf : MethodName := ⟨RX9, "paceOf", "(I)I"⟩
abbrev cX9_loadOf : ByteArray := prog_11_method_3_code
def yX9_loadOf : MethodName := ⟨RX9, "loadOf", "(I)I"⟩
abbrev cX9_canBack : ByteArray := prog_11_method_4_code
def yX9_canBack : MethodName := ⟨RX9, "canBack", "(I)Z"⟩
abbrev cX9_hears : ByteArray := prog_11_method_5_code
def yX9_hears : MethodName := ⟨RX9, "hears", "()Z"⟩
abbrev cX9_goes : ByteArray := prog_11_method_6_code
def yX9_goes : MethodName := ⟨RX9, "goes", "(LNineLedges$Goer;LNineLedges$Row;I)I"⟩
abbrev cX9_blows : ByteArray := prog_11_method_7_code
def yX9_blows : MethodName := ⟨RX9, "blows", "(LNineLedges$Goer;LNineLedges$Row;I)I"⟩
abbrev cX9_yields : ByteArray := prog_11_method_8_code
def yX9_yields : MethodName := ⟨RX9, "yields", "(LNineLedges$Goer;LNineLedges$Row;I)I"⟩
abbrev cX9_tells : ByteArray := prog_11_method_9_code
def yX9_tells : MethodName := ⟨RX9, "tells", "(LNineLedges$Goer;LNineLedges$Row;I)I"⟩
def RX10 : String := "NineLedges$Wedding"
def TX10 : u_T := fun k => match k with
  | _ => ("", "", "", false)
def tyX10 : Nat → FieldType := fun k => match k with
  | _ => .int
abbrev wsX100 : List Cond := u_ws RX10 TX10 0
theorem nmX10 : ∀ a, a < 0 → ∀ b, b < 0 → a ≠ b → (TX10 a).2.1 ≠ (TX10 b).2.1 := by decide +kernel
theorem tyX10_ok : ∀ k, k < 0 → parseFieldDescriptor (TX10 k).2.2.1 = some (tyX10 k) := by decide +kernel
abbrev cX10_init : ByteArray := prog_12_method_1_code
def yX10_init : MethodName := ⟨RX10, "<init>", "()V"⟩
abbrev cX10_loadOf : ByteArray := prog_12_method_2_code
def yX10_loadOf : MethodName := ⟨RX10, "loadOf", "(I)I"⟩
abbrev cX10_canBack : ByteArray := prog_12_method_3_code
def yX10_canBack : MethodName := ⟨RX10, "canBack", "(I)Z"⟩
abbrev cX10_yields : ByteArray := prog_12_method_4_code
def yX10_yields : MethodName := ⟨RX10, "yields", "(LNineLedges$Goer;LNineLedges$Row;I)I"⟩
def RX11 : String := "NineLedges"
def TX11 : u_T := fun k => match k with
  | 0 => ("NineLedges", "kinds", "[LNineLedges$Walker;", true)
  | 1 => ("NineLedges", "now", "LNineLedges$Cliff;", true)
  | 2 => ("NineLedges", "ahead", "LNineLedges$Cliff;", true)
  | 3 => ("NineLedges", "kept", "LNineLedges$Cliff;", true)
  | 4 => ("NineLedges", "images", "I", false)
  | 5 => ("NineLedges", "draft", "LNineLedges$Text;", true)
  | 6 => ("NineLedges", "bodies", "LNineLedges$Row;", true)
  | 7 => ("NineLedges", "sheets", "[LNineLedges$Row;", true)
  | 8 => ("NineLedges", "sheetBits", "[I", true)
  | _ => ("NineLedges", "errors", "[I", true)
def tyX11 : Nat → FieldType := fun k => match k with
  | 0 => .array (.object "NineLedges$Walker")
  | 1 => .object "NineLedges$Cliff"
  | 2 => .object "NineLedges$Cliff"
  | 3 => .object "NineLedges$Cliff"
  | 4 => .int
  | 5 => .object "NineLedges$Text"
  | 6 => .object "NineLedges$Row"
  | 7 => .array (.object "NineLedges$Row")
  | 8 => .array .int
  | _ => .array .int
abbrev wsX110 : List Cond := u_ws RX11 TX11 10
theorem nmX11 : ∀ a, a < 10 → ∀ b, b < 10 → a ≠ b → (TX11 a).2.1 ≠ (TX11 b).2.1 := by decide +kernel
theorem tyX11_ok : ∀ k, k < 10 → parseFieldDescriptor (TX11 k).2.2.1 = some (tyX11 k) := by decide +kernel
abbrev cX11_init : ByteArray := prog_1_method_1_code
def yX11_init : MethodName := ⟨RX11, "<init>", "()V"⟩
abbrev cX11_room : ByteArray := prog_1_method_2_code
def yX11_room : MethodName := ⟨RX11, "room", "(II)I"⟩
abbrev cX11_ofYard : ByteArray := prog_1_method_3_code
def yX11_ofYard : MethodName := ⟨RX11, "ofYard", "(II)I"⟩
abbrev cX11_goer : ByteArray := prog_1_method_4_code
def yX11_goer : MethodName := ⟨RX11, "goer", "(IIII)I"⟩
abbrev cX11_ofGoer : ByteArray := prog_1_method_5_code
def yX11_ofGoer : MethodName := ⟨RX11, "ofGoer", "(II)I"⟩
abbrev cX11_become : ByteArray := prog_1_method_6_code
def yX11_become : MethodName := ⟨RX11, "become", "(II)I"⟩
abbrev cX11_as : ByteArray := prog_1_method_7_code
def yX11_as : MethodName := ⟨RX11, "as", "(II)I"⟩
abbrev cX11_start : ByteArray := prog_1_method_8_code
def yX11_start : MethodName := ⟨RX11, "start", "(II)I"⟩
abbrev cX11_home : ByteArray := prog_1_method_9_code
def yX11_home : MethodName := ⟨RX11, "home", "(I)I"⟩
abbrev cX11_feed : ByteArray := prog_1_method_10_code
def yX11_feed : MethodName := ⟨RX11, "feed", "(JI)I"⟩
abbrev cX11_text : ByteArray := prog_1_method_11_code
def yX11_text : MethodName := ⟨RX11, "text", "(I)I"⟩
abbrev cX11_law : ByteArray := prog_1_method_12_code
def yX11_law : MethodName := ⟨RX11, "law", "(IIII)I"⟩
abbrev cX11_minutes : ByteArray := prog_1_method_13_code
def yX11_minutes : MethodName := ⟨RX11, "minutes", "(I)I"⟩
abbrev cX11_loose : ByteArray := prog_1_method_14_code
def yX11_loose : MethodName := ⟨RX11, "loose", "(I)I"⟩
abbrev cX11_then : ByteArray := prog_1_method_15_code
def yX11_then : MethodName := ⟨RX11, "then", "(III)I"⟩
abbrev cX11_overBy : ByteArray := prog_1_method_16_code
def yX11_overBy : MethodName := ⟨RX11, "overBy", "()I"⟩
abbrev cX11_stuckBy : ByteArray := prog_1_method_17_code
def yX11_stuckBy : MethodName := ⟨RX11, "stuckBy", "()I"⟩
abbrev cX11_bestStart : ByteArray := prog_1_method_18_code
def yX11_bestStart : MethodName := ⟨RX11, "bestStart", "(II)I"⟩
abbrev cX11_spare : ByteArray := prog_1_method_19_code
def yX11_spare : MethodName := ⟨RX11, "spare", "(I)I"⟩
abbrev cX11_without : ByteArray := prog_1_method_20_code
def yX11_without : MethodName := ⟨RX11, "without", "(I)I"⟩
abbrev cX11_newOne : ByteArray := prog_1_method_21_code
def yX11_newOne : MethodName := ⟨RX11, "newOne", "(I)I"⟩
abbrev cX11_faults : ByteArray := prog_1_method_22_code
def yX11_faults : MethodName := ⟨RX11, "faults", "()I"⟩
abbrev cX11_seed : ByteArray := prog_1_method_23_code
def yX11_seed : MethodName := ⟨RX11, "seed", "(I)I"⟩
abbrev cX11_voice : ByteArray := prog_1_method_24_code
def yX11_voice : MethodName := ⟨RX11, "voice", "(III)I"⟩
abbrev cX11_trace : ByteArray := prog_1_method_25_code
def yX11_trace : MethodName := ⟨RX11, "trace", "(I)I"⟩
abbrev cX11_sheet : ByteArray := prog_1_method_26_code
def yX11_sheet : MethodName := ⟨RX11, "sheet", "(III)I"⟩
abbrev cX11_put : ByteArray := prog_1_method_27_code
def yX11_put : MethodName := ⟨RX11, "put", "(III)I"⟩
abbrev cX11_move : ByteArray := prog_1_method_28_code
def yX11_move : MethodName := ⟨RX11, "move", "(IIIII)I"⟩
abbrev cX11_rooms : ByteArray := prog_1_method_29_code
def yX11_rooms : MethodName := ⟨RX11, "rooms", "(I)I"⟩
abbrev cX11_judge : ByteArray := prog_1_method_30_code
def yX11_judge : MethodName := ⟨RX11, "judge", "(I)I"⟩
abbrev cX11_image : ByteArray := prog_1_method_31_code
def yX11_image : MethodName := ⟨RX11, "image", "()I"⟩
abbrev cX11_restore : ByteArray := prog_1_method_32_code
def yX11_restore : MethodName := ⟨RX11, "restore", "()I"⟩
abbrev cX11_tell : ByteArray := prog_1_method_33_code
def yX11_tell : MethodName := ⟨RX11, "tell", "(I)I"⟩
abbrev cX11_check : ByteArray := prog_1_method_34_code
def yX11_check : MethodName := ⟨RX11, "check", "()I"⟩
abbrev cX11_count : ByteArray := prog_1_method_35_code
def yX11_count : MethodName := ⟨RX11, "count", "(I)I"⟩
abbrev cX11_told : ByteArray := prog_1_method_36_code
def yX11_told : MethodName := ⟨RX11, "told", "(I)I"⟩
abbrev cX11_fail : ByteArray := prog_1_method_37_code
def yX11_fail : MethodName := ⟨RX11, "fail", "(I)I"⟩
abbrev cX11_orNone : ByteArray := prog_1_method_38_code
def yX11_orNone : MethodName := ⟨RX11, "orNone", "(I)I"⟩
abbrev cX11_isGoer : ByteArray := prog_1_method_39_code
def yX11_isGoer : MethodName := ⟨RX11, "isGoer", "(I)Z"⟩
abbrev cX11_refusesMinutes : ByteArray := prog_1_method_40_code
def yX11_refusesMinutes : MethodName := ⟨RX11, "refusesMinutes", "(I)I"⟩
abbrev cX11_refusesSheet : ByteArray := prog_1_method_41_code
def yX11_refusesSheet : MethodName := ⟨RX11, "refusesSheet", "(I)I"⟩
abbrev cX11_isYard : ByteArray := prog_1_method_42_code
def yX11_isYard : MethodName := ⟨RX11, "isYard", "(I)Z"⟩
abbrev cX11_isStart : ByteArray := prog_1_method_43_code
def yX11_isStart : MethodName := ⟨RX11, "isStart", "(I)Z"⟩
abbrev cX11_isKindAndNumber : ByteArray := prog_1_method_44_code
def yX11_isKindAndNumber : MethodName := ⟨RX11, "isKindAndNumber", "(I)Z"⟩
abbrev cX11_isUse : ByteArray := prog_1_method_45_code
def yX11_isUse : MethodName := ⟨RX11, "isUse", "(I)Z"⟩
abbrev cX11_isSheet : ByteArray := prog_1_method_46_code
def yX11_isSheet : MethodName := ⟨RX11, "isSheet", "(I)Z"⟩
abbrev cX11_isWidth : ByteArray := prog_1_method_47_code
def yX11_isWidth : MethodName := ⟨RX11, "isWidth", "(I)Z"⟩
abbrev cX11_isUnder : ByteArray := prog_1_method_48_code
def yX11_isUnder : MethodName := ⟨RX11, "isUnder", "(II)Z"⟩
abbrev cX11_lowest : ByteArray := prog_1_method_49_code
def yX11_lowest : MethodName := ⟨RX11, "lowest", "(II)I"⟩
def RX12 : String := "NineLedgesModel"
def TX12 : u_T := fun k => match k with
  | 0 => ("NineLedgesModel", "d", "[I", true)
  | 1 => ("NineLedgesModel", "kept", "[I", true)
  | 2 => ("NineLedgesModel", "aside", "[I", true)
  | 3 => ("NineLedgesModel", "images", "I", false)
  | 4 => ("NineLedgesModel", "found", "[I", true)
  | 5 => ("NineLedgesModel", "base", "I", false)
  | 6 => ("NineLedgesModel", "at", "I", false)
  | 7 => ("NineLedgesModel", "size", "I", false)
  | 8 => ("NineLedgesModel", "fault", "I", false)
  | 9 => ("NineLedgesModel", "opened", "I", false)
  | 10 => ("NineLedgesModel", "isToll", "Z", false)
  | 11 => ("NineLedgesModel", "names", "[I", true)
  | 12 => ("NineLedgesModel", "overAt", "I", false)
  | 13 => ("NineLedgesModel", "backsThen", "I", false)
  | 14 => ("NineLedgesModel", "stood", "[I", true)
  | 15 => ("NineLedgesModel", "bestAt", "I", false)
  | 16 => ("NineLedgesModel", "bestOver", "I", false)
  | 17 => ("NineLedgesModel", "bestBacks", "I", false)
  | 18 => ("NineLedgesModel", "traced", "[I", true)
  | 19 => ("NineLedgesModel", "traceMany", "I", false)
  | 20 => ("NineLedgesModel", "who", "I", false)
  | 21 => ("NineLedgesModel", "bitsOf", "[I", true)
  | 22 => ("NineLedgesModel", "sizeOf", "[I", true)
  | 23 => ("NineLedgesModel", "number", "[I", true)
  | _ => ("NineLedgesModel", "lifted", "[I", true)
def tyX12 : Nat → FieldType := fun k => match k with
  | 0 => .array .int
  | 1 => .array .int
  | 2 => .array .int
  | 3 => .int
  | 4 => .array .int
  | 5 => .int
  | 6 => .int
  | 7 => .int
  | 8 => .int
  | 9 => .int
  | 10 => .boolean
  | 11 => .array .int
  | 12 => .int
  | 13 => .int
  | 14 => .array .int
  | 15 => .int
  | 16 => .int
  | 17 => .int
  | 18 => .array .int
  | 19 => .int
  | 20 => .int
  | 21 => .array .int
  | 22 => .array .int
  | 23 => .array .int
  | _ => .array .int
abbrev wsX120 : List Cond := u_ws RX12 TX12 25
theorem nmX12 : ∀ a, a < 25 → ∀ b, b < 25 → a ≠ b → (TX12 a).2.1 ≠ (TX12 b).2.1 := by decide +kernel
theorem tyX12_ok : ∀ k, k < 25 → parseFieldDescriptor (TX12 k).2.2.1 = some (tyX12 k) := by decide +kernel
abbrev cX12_init : ByteArray := prog_14_method_1_code
def yX12_init : MethodName := ⟨RX12, "<init>", "()V"⟩
abbrev cX12_finds : ByteArray := prog_14_method_3_code
def yX12_finds : MethodName := ⟨RX12, "finds", "(I)I"⟩
abbrev cX12_in : ByteArray := prog_14_method_4_code
def yX12_in : MethodName := ⟨RX12, "in", "(JJJ)Z"⟩
abbrev cX12_held : ByteArray := prog_14_method_5_code
def yX12_held : MethodName := ⟨RX12, "held", "(III)I"⟩
abbrev cX12_isGoer : ByteArray := prog_14_method_6_code
def yX12_isGoer : MethodName := ⟨RX12, "isGoer", "(I)Z"⟩
abbrev cX12_isYard : ByteArray := prog_14_method_7_code
def yX12_isYard : MethodName := ⟨RX12, "isYard", "(I)Z"⟩
abbrev cX12_of : ByteArray := prog_14_method_8_code
def yX12_of : MethodName := ⟨RX12, "of", "(II)I"⟩
abbrev cX12_sets : ByteArray := prog_14_method_9_code
def yX12_sets : MethodName := ⟨RX12, "sets", "(III)V"⟩
abbrev cX12_keepAside : ByteArray := prog_14_method_10_code
def yX12_keepAside : MethodName := ⟨RX12, "keepAside", "()V"⟩
abbrev cX12_putBack : ByteArray := prog_14_method_11_code
def yX12_putBack : MethodName := ⟨RX12, "putBack", "()V"⟩
abbrev cX12_here : ByteArray := prog_14_method_12_code
def yX12_here : MethodName := ⟨RX12, "here", "()I"⟩
abbrev cX12_wrong : ByteArray := prog_14_method_13_code
def yX12_wrong : MethodName := ⟨RX12, "wrong", "()I"⟩
abbrev cX12_takes : ByteArray := prog_14_method_14_code
def yX12_takes : MethodName := ⟨RX12, "takes", "(I)Z"⟩
abbrev cX12_nameOf : ByteArray := prog_14_method_15_code
def yX12_nameOf : MethodName := ⟨RX12, "nameOf", "(I)I"⟩
abbrev cX12_either : ByteArray := prog_14_method_16_code
def yX12_either : MethodName := ⟨RX12, "either", "()I"⟩
abbrev cX12_both : ByteArray := prog_14_method_17_code
def yX12_both : MethodName := ⟨RX12, "both", "()I"⟩
abbrev cX12_compared : ByteArray := prog_14_method_18_code
def yX12_compared : MethodName := ⟨RX12, "compared", "()I"⟩
abbrev cX12_sum : ByteArray := prog_14_method_19_code
def yX12_sum : MethodName := ⟨RX12, "sum", "()I"⟩
abbrev cX12_product : ByteArray := prog_14_method_20_code
def yX12_product : MethodName := ⟨RX12, "product", "()I"⟩
abbrev cX12_unit : ByteArray := prog_14_method_21_code
def yX12_unit : MethodName := ⟨RX12, "unit", "()I"⟩
abbrev cX12_worked : ByteArray := prog_14_method_22_code
def yX12_worked : MethodName := ⟨RX12, "worked", "(III)I"⟩
abbrev cX12_feed : ByteArray := prog_14_method_23_code
def yX12_feed : MethodName := ⟨RX12, "feed", "(JI)I"⟩
abbrev cX12_text : ByteArray := prog_14_method_24_code
def yX12_text : MethodName := ⟨RX12, "text", "(I)I"⟩
abbrev cX12_textGives : ByteArray := prog_14_method_25_code
def yX12_textGives : MethodName := ⟨RX12, "textGives", "(IIII)I"⟩
abbrev cX12_law : ByteArray := prog_14_method_26_code
def yX12_law : MethodName := ⟨RX12, "law", "(IIII)I"⟩
abbrev cX12_isLedge : ByteArray := prog_14_method_27_code
def yX12_isLedge : MethodName := ⟨RX12, "isLedge", "(I)Z"⟩
abbrev cX12_atYard : ByteArray := prog_14_method_28_code
def yX12_atYard : MethodName := ⟨RX12, "atYard", "(I)I"⟩
abbrev cX12_ledgesBefore : ByteArray := prog_14_method_29_code
def yX12_ledgesBefore : MethodName := ⟨RX12, "ledgesBefore", "(I)I"⟩
abbrev cX12_roomFinds : ByteArray := prog_14_method_30_code
def yX12_roomFinds : MethodName := ⟨RX12, "roomFinds", "(II)I"⟩
abbrev cX12_room : ByteArray := prog_14_method_31_code
def yX12_room : MethodName := ⟨RX12, "room", "(II)I"⟩
abbrev cX12_ofYard : ByteArray := prog_14_method_32_code
def yX12_ofYard : MethodName := ⟨RX12, "ofYard", "(II)I"⟩
abbrev cX12_paceOf : ByteArray := prog_14_method_33_code
def yX12_paceOf : MethodName := ⟨RX12, "paceOf", "(I)I"⟩
abbrev cX12_loadOf : ByteArray := prog_14_method_34_code
def yX12_loadOf : MethodName := ⟨RX12, "loadOf", "(I)I"⟩
abbrev cX12_canBack : ByteArray := prog_14_method_35_code
def yX12_canBack : MethodName := ⟨RX12, "canBack", "(I)Z"⟩
abbrev cX12_hears : ByteArray := prog_14_method_36_code
def yX12_hears : MethodName := ⟨RX12, "hears", "(I)Z"⟩
abbrev cX12_rankOf : ByteArray := prog_14_method_37_code
def yX12_rankOf : MethodName := ⟨RX12, "rankOf", "(I)I"⟩
abbrev cX12_sendHome : ByteArray := prog_14_method_38_code
def yX12_sendHome : MethodName := ⟨RX12, "sendHome", "(I)V"⟩
abbrev cX12_goer : ByteArray := prog_14_method_39_code
def yX12_goer : MethodName := ⟨RX12, "goer", "(IIII)I"⟩
abbrev cX12_ofGoer : ByteArray := prog_14_method_40_code
def yX12_ofGoer : MethodName := ⟨RX12, "ofGoer", "(II)I"⟩
abbrev cX12_become : ByteArray := prog_14_method_41_code
def yX12_become : MethodName := ⟨RX12, "become", "(II)I"⟩
abbrev cX12_above : ByteArray := prog_14_method_42_code
def yX12_above : MethodName := ⟨RX12, "above", "(I)I"⟩
abbrev cX12_as : ByteArray := prog_14_method_43_code
def yX12_as : MethodName := ⟨RX12, "as", "(II)I"⟩
abbrev cX12_start : ByteArray := prog_14_method_44_code
def yX12_start : MethodName := ⟨RX12, "start", "(II)I"⟩
abbrev cX12_home : ByteArray := prog_14_method_45_code
def yX12_home : MethodName := ⟨RX12, "home", "(I)I"⟩
abbrev cX12_faces : ByteArray := prog_14_method_46_code
def yX12_faces : MethodName := ⟨RX12, "faces", "(I)I"⟩
abbrev cX12_against : ByteArray := prog_14_method_47_code
def yX12_against : MethodName := ⟨RX12, "against", "(II)I"⟩
abbrev cX12_isHeard : ByteArray := prog_14_method_48_code
def yX12_isHeard : MethodName := ⟨RX12, "isHeard", "(I)Z"⟩
abbrev cX12_meets : ByteArray := prog_14_method_49_code
def yX12_meets : MethodName := ⟨RX12, "meets", "(II)V"⟩
abbrev cX12_comes : ByteArray := prog_14_method_50_code
def yX12_comes : MethodName := ⟨RX12, "comes", "(II)V"⟩
abbrev cX12_goesOn : ByteArray := prog_14_method_51_code
def yX12_goesOn : MethodName := ⟨RX12, "goesOn", "(IZ)V"⟩
abbrev cX12_aMinute : ByteArray := prog_14_method_52_code
def yX12_aMinute : MethodName := ⟨RX12, "aMinute", "(Z)V"⟩
abbrev cX12_howMany : ByteArray := prog_14_method_53_code
def yX12_howMany : MethodName := ⟨RX12, "howMany", "(I)I"⟩
abbrev cX12_drawn : ByteArray := prog_14_method_54_code
def yX12_drawn : MethodName := ⟨RX12, "drawn", "()I"⟩
abbrev cX12_passes : ByteArray := prog_14_method_55_code
def yX12_passes : MethodName := ⟨RX12, "passes", "(IZ)I"⟩
abbrev cX12_minutes : ByteArray := prog_14_method_56_code
def yX12_minutes : MethodName := ⟨RX12, "minutes", "(I)I"⟩
abbrev cX12_loose : ByteArray := prog_14_method_57_code
def yX12_loose : MethodName := ⟨RX12, "loose", "(I)I"⟩
abbrev cX12_then : ByteArray := prog_14_method_58_code
def yX12_then : MethodName := ⟨RX12, "then", "(III)I"⟩
abbrev cX12_findOver : ByteArray := prog_14_method_59_code
def yX12_findOver : MethodName := ⟨RX12, "findOver", "()V"⟩
abbrev cX12_overBy : ByteArray := prog_14_method_60_code
def yX12_overBy : MethodName := ⟨RX12, "overBy", "()I"⟩
abbrev cX12_keepStood : ByteArray := prog_14_method_61_code
def yX12_keepStood : MethodName := ⟨RX12, "keepStood", "()V"⟩
abbrev cX12_isAsItStood : ByteArray := prog_14_method_62_code
def yX12_isAsItStood : MethodName := ⟨RX12, "isAsItStood", "()Z"⟩
abbrev cX12_mayBeStuck : ByteArray := prog_14_method_63_code
def yX12_mayBeStuck : MethodName := ⟨RX12, "mayBeStuck", "()Z"⟩
abbrev cX12_stuckBy : ByteArray := prog_14_method_64_code
def yX12_stuckBy : MethodName := ⟨RX12, "stuckBy", "()I"⟩
abbrev cX12_findBestStart : ByteArray := prog_14_method_65_code
def yX12_findBestStart : MethodName := ⟨RX12, "findBestStart", "(I)V"⟩
abbrev cX12_bestStart : ByteArray := prog_14_method_66_code
def yX12_bestStart : MethodName := ⟨RX12, "bestStart", "(II)I"⟩
abbrev cX12_spareOf : ByteArray := prog_14_method_67_code
def yX12_spareOf : MethodName := ⟨RX12, "spareOf", "(II)I"⟩
abbrev cX12_spare : ByteArray := prog_14_method_68_code
def yX12_spare : MethodName := ⟨RX12, "spare", "(I)I"⟩
abbrev cX12_overWith : ByteArray := prog_14_method_69_code
def yX12_overWith : MethodName := ⟨RX12, "overWith", "(II)I"⟩
abbrev cX12_without : ByteArray := prog_14_method_70_code
def yX12_without : MethodName := ⟨RX12, "without", "(I)I"⟩
abbrev cX12_newOne : ByteArray := prog_14_method_71_code
def yX12_newOne : MethodName := ⟨RX12, "newOne", "(I)I"⟩
abbrev cX12_faults : ByteArray := prog_14_method_72_code
def yX12_faults : MethodName := ⟨RX12, "faults", "()I"⟩
abbrev cX12_seed : ByteArray := prog_14_method_73_code
def yX12_seed : MethodName := ⟨RX12, "seed", "(I)I"⟩
abbrev cX12_ran : ByteArray := prog_14_method_74_code
def yX12_ran : MethodName := ⟨RX12, "ran", "(I)V"⟩
abbrev cX12_own : ByteArray := prog_14_method_75_code
def yX12_own : MethodName := ⟨RX12, "own", "()I"⟩
abbrev cX12_goesBy : ByteArray := prog_14_method_76_code
def yX12_goesBy : MethodName := ⟨RX12, "goesBy", "(II)I"⟩
abbrev cX12_blowsBy : ByteArray := prog_14_method_77_code
def yX12_blowsBy : MethodName := ⟨RX12, "blowsBy", "(II)I"⟩
abbrev cX12_yieldsBy : ByteArray := prog_14_method_78_code
def yX12_yieldsBy : MethodName := ⟨RX12, "yieldsBy", "(II)I"⟩
abbrev cX12_tellsBy : ByteArray := prog_14_method_79_code
def yX12_tellsBy : MethodName := ⟨RX12, "tellsBy", "(II)I"⟩
abbrev cX12_voice : ByteArray := prog_14_method_80_code
def yX12_voice : MethodName := ⟨RX12, "voice", "(III)I"⟩
abbrev cX12_trace : ByteArray := prog_14_method_81_code
def yX12_trace : MethodName := ⟨RX12, "trace", "(I)I"⟩
abbrev cX12_isSheet : ByteArray := prog_14_method_82_code
def yX12_isSheet : MethodName := ⟨RX12, "isSheet", "(I)Z"⟩
abbrev cX12_sheet : ByteArray := prog_14_method_83_code
def yX12_sheet : MethodName := ⟨RX12, "sheet", "(III)I"⟩
abbrev cX12_put : ByteArray := prog_14_method_84_code
def yX12_put : MethodName := ⟨RX12, "put", "(III)I"⟩
abbrev cX12_move : ByteArray := prog_14_method_85_code
def yX12_move : MethodName := ⟨RX12, "move", "(IIIII)I"⟩
abbrev cX12_rooms : ByteArray := prog_14_method_86_code
def yX12_rooms : MethodName := ⟨RX12, "rooms", "(I)I"⟩
abbrev cX12_judge : ByteArray := prog_14_method_87_code
def yX12_judge : MethodName := ⟨RX12, "judge", "(I)I"⟩
abbrev cX12_image : ByteArray := prog_14_method_88_code
def yX12_image : MethodName := ⟨RX12, "image", "()I"⟩
abbrev cX12_restore : ByteArray := prog_14_method_89_code
def yX12_restore : MethodName := ⟨RX12, "restore", "()I"⟩
abbrev cX12_tell : ByteArray := prog_14_method_90_code
def yX12_tell : MethodName := ⟨RX12, "tell", "(I)I"⟩
abbrev cX12_check : ByteArray := prog_14_method_91_code
def yX12_check : MethodName := ⟨RX12, "check", "()I"⟩
abbrev cX12_count : ByteArray := prog_14_method_92_code
def yX12_count : MethodName := ⟨RX12, "count", "(I)I"⟩
abbrev cX12_told : ByteArray := prog_14_method_93_code
def yX12_told : MethodName := ⟨RX12, "told", "(I)I"⟩
def RJ11 : String := "java/lang/Character"
def TJ11 : u_T := fun k => match k with
  | _ => ("", "", "", false)
def tyJ11 : Nat → FieldType := fun k => match k with
  | _ => .int
abbrev wsJ110 : List Cond := u_ws RJ11 TJ11 0
theorem nmJ11 : ∀ a, a < 0 → ∀ b, b < 0 → a ≠ b → (TJ11 a).2.1 ≠ (TJ11 b).2.1 := by decide +kernel
theorem tyJ11_ok : ∀ k, k < 0 → parseFieldDescriptor (TJ11 k).2.2.1 = some (tyJ11 k) := by decide +kernel
abbrev cJ11_isValidCodePoint_9a6ad : ByteArray := prog_15_method_11_code
def yJ11_isValidCodePoint_9a6ad : MethodName := ⟨RJ11, "isValidCodePoint", "(I)Z"⟩
abbrev cJ11_highSurrogate_5068e : ByteArray := prog_15_method_28_code
def yJ11_highSurrogate_5068e : MethodName := ⟨RJ11, "highSurrogate", "(I)C"⟩
abbrev cJ11_lowSurrogate_5068e : ByteArray := prog_15_method_29_code
def yJ11_lowSurrogate_5068e : MethodName := ⟨RJ11, "lowSurrogate", "(I)C"⟩
def RJ9 : String := "java/lang/Math"
def TJ9 : u_T := fun k => match k with
  | _ => ("", "", "", false)
def tyJ9 : Nat → FieldType := fun k => match k with
  | _ => .int
abbrev wsJ90 : List Cond := u_ws RJ9 TJ9 0
theorem nmJ9 : ∀ a, a < 0 → ∀ b, b < 0 → a ≠ b → (TJ9 a).2.1 ≠ (TJ9 b).2.1 := by decide +kernel
theorem tyJ9_ok : ∀ k, k < 0 → parseFieldDescriptor (TJ9 k).2.2.1 = some (tyJ9 k) := by decide +kernel
abbrev cJ9_max_7cf53 : ByteArray := prog_16_method_65_code
def yJ9_max_7cf53 : MethodName := ⟨RJ9, "max", "(II)I"⟩
abbrev cJ9_min_7cf53 : ByteArray := prog_16_method_69_code
def yJ9_min_7cf53 : MethodName := ⟨RJ9, "min", "(II)I"⟩
def RJ0 : String := "java/lang/String"
def TJ0 : u_T := fun k => match k with
  | _ => ("", "", "", false)
def tyJ0 : Nat → FieldType := fun k => match k with
  | _ => .int
abbrev wsJ00 : List Cond := u_ws RJ0 TJ0 0
theorem nmJ0 : ∀ a, a < 0 → ∀ b, b < 0 → a ≠ b → (TJ0 a).2.1 ≠ (TJ0 b).2.1 := by decide +kernel
theorem tyJ0_ok : ∀ k, k < 0 → parseFieldDescriptor (TJ0 k).2.2.1 = some (tyJ0 k) := by decide +kernel
abbrev cJ0_length_8abf5 : ByteArray := prog_17_method_54_code
def yJ0_length_8abf5 : MethodName := ⟨RJ0, "length", "()I"⟩
abbrev cJ0_indexOf_0f7a4 : ByteArray := prog_17_method_79_code
def yJ0_indexOf_0f7a4 : MethodName := ⟨RJ0, "indexOf", "(I)I"⟩
abbrev cJ0_indexOf_7cf53 : ByteArray := prog_17_method_80_code
def yJ0_indexOf_7cf53 : MethodName := ⟨RJ0, "indexOf", "(II)I"⟩
abbrev cJ0_coder_7d493 : ByteArray := prog_17_method_152_code
def yJ0_coder_7d493 : MethodName := ⟨RJ0, "coder", "()B"⟩
abbrev cJ0_isLatin1_aae02 : ByteArray := prog_17_method_154_code
def yJ0_isLatin1_aae02 : MethodName := ⟨RJ0, "isLatin1", "()Z"⟩
abbrev cJ0_checkBoundsBeginEnd_23922 : ByteArray := prog_17_method_158_code
def yJ0_checkBoundsBeginEnd_23922 : MethodName := ⟨RJ0, "checkBoundsBeginEnd", "(III)V"⟩
def RJ1 : String := "java/lang/StringLatin1"
def TJ1 : u_T := fun k => match k with
  | _ => ("", "", "", false)
def tyJ1 : Nat → FieldType := fun k => match k with
  | _ => .int
abbrev wsJ10 : List Cond := u_ws RJ1 TJ1 0
theorem nmJ1 : ∀ a, a < 0 → ∀ b, b < 0 → a ≠ b → (TJ1 a).2.1 ≠ (TJ1 b).2.1 := by decide +kernel
theorem tyJ1_ok : ∀ k, k < 0 → parseFieldDescriptor (TJ1 k).2.2.1 = some (tyJ1 k) := by decide +kernel
abbrev cJ1_canEncode_9a6ad : ByteArray := prog_18_method_4_code
def yJ1_canEncode_9a6ad : MethodName := ⟨RJ1, "canEncode", "(I)Z"⟩
abbrev cJ1_indexOf_4cfef : ByteArray := prog_18_method_22_code
def yJ1_indexOf_4cfef : MethodName := ⟨RJ1, "indexOf", "([BIII)I"⟩
abbrev cJ1_indexOfChar_4cfef : ByteArray := prog_18_method_23_code
def yJ1_indexOfChar_4cfef : MethodName := ⟨RJ1, "indexOfChar", "([BIII)I"⟩
def RJ2 : String := "java/lang/StringUTF16"
def TJ2 : u_T := fun k => match k with
  | _ => ("", "", "", false)
def tyJ2 : Nat → FieldType := fun k => match k with
  | _ => .int
abbrev wsJ20 : List Cond := u_ws RJ2 TJ2 0
theorem nmJ2 : ∀ a, a < 0 → ∀ b, b < 0 → a ≠ b → (TJ2 a).2.1 ≠ (TJ2 b).2.1 := by decide +kernel
theorem tyJ2_ok : ∀ k, k < 0 → parseFieldDescriptor (TJ2 k).2.2.1 = some (tyJ2 k) := by decide +kernel
abbrev cJ2_getChar_3b067 : ByteArray := prog_19_method_5_code
def yJ2_getChar_3b067 : MethodName := ⟨RJ2, "getChar", "([BI)C"⟩
abbrev cJ2_length_9d52b : ByteArray := prog_19_method_6_code
def yJ2_length_9d52b : MethodName := ⟨RJ2, "length", "([B)I"⟩
abbrev cJ2_indexOf_4cfef : ByteArray := prog_19_method_40_code
def yJ2_indexOf_4cfef : MethodName := ⟨RJ2, "indexOf", "([BIII)I"⟩
abbrev cJ2_indexOfChar_4cfef : ByteArray := prog_19_method_47_code
def yJ2_indexOfChar_4cfef : MethodName := ⟨RJ2, "indexOfChar", "([BIII)I"⟩
abbrev cJ2_indexOfCharUnsafe_4cfef : ByteArray := prog_19_method_48_code
def yJ2_indexOfCharUnsafe_4cfef : MethodName := ⟨RJ2, "indexOfCharUnsafe", "([BIII)I"⟩
abbrev cJ2_indexOfSupplementary_4cfef : ByteArray := prog_19_method_49_code
def yJ2_indexOfSupplementary_4cfef : MethodName := ⟨RJ2, "indexOfSupplementary", "([BIII)I"⟩
abbrev cJ2_checkBoundsBeginEnd_d044e : ByteArray := prog_19_method_93_code
def yJ2_checkBoundsBeginEnd_d044e : MethodName := ⟨RJ2, "checkBoundsBeginEnd", "(II[B)V"⟩
def RJ10 : String := "java/lang/System"
def TJ10 : u_T := fun k => match k with
  | _ => ("", "", "", false)
def tyJ10 : Nat → FieldType := fun k => match k with
  | _ => .int
abbrev wsJ100 : List Cond := u_ws RJ10 TJ10 0
theorem nmJ10 : ∀ a, a < 0 → ∀ b, b < 0 → a ≠ b → (TJ10 a).2.1 ≠ (TJ10 b).2.1 := by decide +kernel
theorem tyJ10_ok : ∀ k, k < 0 → parseFieldDescriptor (TJ10 k).2.2.1 = some (tyJ10 k) := by decide +kernel
def RJ3 : String := "jdk/internal/util/Preconditions"
def TJ3 : u_T := fun k => match k with
  | _ => ("", "", "", false)
def tyJ3 : Nat → FieldType := fun k => match k with
  | _ => .int
abbrev wsJ30 : List Cond := u_ws RJ3 TJ3 0
theorem nmJ3 : ∀ a, a < 0 → ∀ b, b < 0 → a ≠ b → (TJ3 a).2.1 ≠ (TJ3 b).2.1 := by decide +kernel
theorem tyJ3_ok : ∀ k, k < 0 → parseFieldDescriptor (TJ3 k).2.2.1 = some (tyJ3 k) := by decide +kernel
abbrev cJ3_checkFromToIndex_8c36e : ByteArray := prog_21_method_12_code
def yJ3_checkFromToIndex_8c36e : MethodName := ⟨RJ3, "checkFromToIndex", "(IIILjava/util/function/BiFunction;)I"⟩
def RL : String := "NineLedgesLaw"
abbrev cL_law : ByteArray := code
def yL_law : MethodName := ⟨RL, "law", "([I)Z"⟩
end
section
/-! MINI: a small machine that runs the landed code over a list of cells; below, that what it runs the JVM runs. -/
/-- how long an instruction is (0: its own length doesn't matter) -/
def mi_len : Instr → Nat
  | .iload _ | .lload _ | .aload _ | .istore _ | .lstore _ | .astore _ | .bipush _ | .ldc _ | .newarray _ => 2
  | .sipush _ | .iinc _ _ | .ifCond _ _ | .if_icmp _ _ | .goto _ | .getfield _ | .putfield _ | .getstatic _ | .invokevirtual _ | .invokestatic _ | .invokespecial _ | .new _ | .anewarray _ | .ldc_w _ | .ldc2_w _ => 3
  | .tableswitch _ _ _ _ | .lookupswitch _ _ => 0
  | _ => 1
def mi_c2 (f : Int32 → Int32 → Int32) (st : List Value) : Option (List Value) := match st with
  | .int y :: .int x :: r => some (.int (f x y) :: r)
  | _ => none
def mi_c1 (f : Int32 → Value) (st : List Value) : Option (List Value) := match st with
  | .int x :: r => some (f x :: r)
  | _ => none
def mi_l1 (f : Int64 → Value) (st : List Value) : Option (List Value) := match st with
  | .long x :: r => some (f x :: r)
  | _ => none
def mi_l2 (f : Int64 → Int64 → Value) (st : List Value) : Option (List Value) := match st with
  | .long y :: .long x :: r => some (f x y :: r)
  | _ => none
def mi_li (f : Int64 → Int32 → Value) (st : List Value) : Option (List Value) := match st with
  | .int y :: .long x :: r => some (f x y :: r)
  | _ => none
def mi_cd (f : Int32 → Int32 → Int32) (st : List Value) : Option (List Value) := match st with
  | .int y :: .int x :: r => if y = 0 then none else some (.int (f x y) :: r)
  | _ => none
theorem mi_c2_inv {f : Int32 → Int32 → Int32} {st st' : List Value} (h : mi_c2 f st = some st') : ∃ x y r, st = .int y :: .int x :: r ∧ st' = .int (f x y) :: r := by
  unfold mi_c2 at h
  split at h
  · cases h; exact ⟨_, _, _, rfl, rfl⟩
  · cases h
theorem mi_c1_inv {f : Int32 → Value} {st st' : List Value} (h : mi_c1 f st = some st') : ∃ x r, st = .int x :: r ∧ st' = f x :: r := by
  unfold mi_c1 at h
  split at h
  · cases h; exact ⟨_, _, rfl, rfl⟩
  · cases h
theorem mi_l1_inv {f : Int64 → Value} {st st' : List Value} (h : mi_l1 f st = some st') : ∃ x r, st = .long x :: r ∧ st' = f x :: r := by
  unfold mi_l1 at h
  split at h
  · cases h; exact ⟨_, _, rfl, rfl⟩
  · cases h
theorem mi_l2_inv {f : Int64 → Int64 → Value} {st st' : List Value} (h : mi_l2 f st = some st') : ∃ x y r, st = .long y :: .long x :: r ∧ st' = f x y :: r := by
  unfold mi_l2 at h
  split at h
  · cases h; exact ⟨_, _, _, rfl, rfl⟩
  · cases h
theorem mi_li_inv {f : Int64 → Int32 → Value} {st st' : List Value} (h : mi_li f st = some st') : ∃ x y r, st = .int y :: .long x :: r ∧ st' = f x y :: r := by
  unfold mi_li at h
  split at h
  · cases h; exact ⟨_, _, _, rfl, rfl⟩
  · cases h
theorem mi_cd_inv {f : Int32 → Int32 → Int32} {st st' : List Value} (h : mi_cd f st = some st') : ∃ x y r, st = .int y :: .int x :: r ∧ ¬ y = 0 ∧ st' = .int (f x y) :: r := by
  unfold mi_cd at h
  split at h
  · split at h
    · cases h
    · cases h; exact ⟨_, _, _, rfl, by assumption, rfl⟩
  · cases h
/-- the stack alone -/
def mi_A (i : Instr) (st : List Value) : Option (List Value) := match i with
  | .iconst n => some (.int (Int32.ofInt n) :: st)
  | .bipush n => some (.int (Int8.ofInt n).toInt32 :: st)
  | .sipush n => some (.int (Int16.ofInt n).toInt32 :: st)
  | .lconst n => some (.long (Int64.ofNat (n : Nat)) :: st)
  | .iadd => mi_c2 (fun x y => x + y) st
  | .isub => mi_c2 (fun x y => x - y) st
  | .imul => mi_c2 (fun x y => x * y) st
  | .iand => mi_c2 (fun x y => x &&& y) st
  | .ior => mi_c2 (fun x y => x ||| y) st
  | .ixor => mi_c2 (fun x y => x ^^^ y) st
  | .ishl => mi_c2 (fun x y => x <<< (y &&& 31)) st
  | .iushr => mi_c2 (fun x y => (x.toUInt32 >>> (y.toUInt32 &&& Int32.toUInt32 31)).toInt32) st
  | .idiv => mi_cd (fun x y => x / y) st
  | .irem => mi_cd (fun x y => x - x / y * y) st
  | .ineg => mi_c1 (fun x => .int (-x)) st
  | .i2l => mi_c1 (fun x => .long x.toInt64) st
  | .i2b => mi_c1 (fun x => .int x.toInt8.toInt32) st
  | .i2s => mi_c1 (fun x => .int x.toInt16.toInt32) st
  | .i2c => mi_c1 (fun x => .int (x.toUInt32 % 65536).toInt32) st
  | .l2i => mi_l1 (fun x => .int x.toInt32) st
  | .land => mi_l2 (fun x y => .long (x &&& y)) st
  | .lor => mi_l2 (fun x y => .long (x ||| y)) st
  | .lcmp => mi_l2 (fun x y => .int (lg_cmp x y)) st
  | .lshl => mi_li (fun x y => .long (x <<< (y.toInt64 &&& 63))) st
  | .lshr => mi_li (fun x y => .long (x >>> (y.toInt64 &&& 63))) st
  | .lushr => mi_li (fun x y => .long (x.toUInt64 >>> (y.toInt64.toUInt64 &&& Int64.toUInt64 63)).toInt64) st
  | .dup => (match st with
    | v :: r => if v.category = 1 then some (v :: v :: r) else none
    | _ => none)
  | .pop => (match st with
    | v :: r => if v.category = 1 then some r else none
    | _ => none)
  | .dup2 => (match st with
    | v :: w :: r => if v.category = 1 ∧ w.category = 1 then some (v :: w :: v :: w :: r) else none
    | _ => none)
  | _ => none
/-- a value of Mini's as the machine has it: cell k lies at ad k -/
def mi_v (ad : Nat → Nat) (v : Value) : Value := match v with
  | .ref a => .ref (ad a)
  | v => v
theorem mi_v_cat (ad : Nat → Nat) (v : Value) : (mi_v ad v).category = v.category := by cases v <;> rfl
section MIA
variable {p : Program} {l : Launch} {e : Env} {R : Room} {s : State} {m : MethodId} {args : Array Value} {below : List Frame} {meth : Method} {c : Code} {H : Heap} {locs : List Loc} {cells slots : Nat} {Q : State → Prop}
variable {cc : ByteArray} {pc : Nat} {ls : Array Slot} {ad : Nat → Nat}
theorem mi_sA (hx : p.tables.exec = Jvm.exec) (hb : c.code = cc) {i : Instr} {st st' : List Value} (h : mi_A i st = some st') (hd : decode cc pc = .ok (i, mi_len i))
    (kk : W p l e R s m args below meth c H locs cells slots Q (F0 m (pc + mi_len i) ls (st'.map (mi_v ad)))) : W p l e R s m args below meth c H locs cells slots Q (F0 m pc ls (st.map (mi_v ad))) := by
  unfold mi_A at h
  split at h
  · cases h; exact lv_iconst hx hb hd rfl kk
  · cases h; exact lv_bipush hx hb hd rfl kk
  · cases h; exact lv_sipush hx hb hd rfl kk
  · cases h; exact lv_lconst hx hb hd rfl kk
  · obtain ⟨x, y, r, rfl, rfl⟩ := mi_c2_inv h; exact lv_iadd hx hb hd kk
  · obtain ⟨x, y, r, rfl, rfl⟩ := mi_c2_inv h; exact lv_isub hx hb hd kk
  · obtain ⟨x, y, r, rfl, rfl⟩ := mi_c2_inv h; exact lv_imul hx hb hd kk
  · obtain ⟨x, y, r, rfl, rfl⟩ := mi_c2_inv h; exact lv_iand hx hb hd kk
  · obtain ⟨x, y, r, rfl, rfl⟩ := mi_c2_inv h; exact lv_ior hx hb hd kk
  · obtain ⟨x, y, r, rfl, rfl⟩ := mi_c2_inv h; exact lv_ixor hx hb hd kk
  · obtain ⟨x, y, r, rfl, rfl⟩ := mi_c2_inv h; exact lv_ishl hx hb hd kk
  · obtain ⟨x, y, r, rfl, rfl⟩ := mi_c2_inv h; exact lv_iushr hx hb hd rfl kk
  · obtain ⟨x, y, r, rfl, hy, rfl⟩ := mi_cd_inv h; exact lv_idiv hx hb hd hy kk
  · obtain ⟨x, y, r, rfl, hy, rfl⟩ := mi_cd_inv h; exact lv_irem hx hb hd hy kk
  · obtain ⟨x, r, rfl, rfl⟩ := mi_c1_inv h; exact lv_ineg hx hb hd kk
  · obtain ⟨x, r, rfl, rfl⟩ := mi_c1_inv h; exact lv_i2l hx hb hd rfl kk
  · obtain ⟨x, r, rfl, rfl⟩ := mi_c1_inv h; exact lv_i2b hx hb hd rfl kk
  · obtain ⟨x, r, rfl, rfl⟩ := mi_c1_inv h; exact lv_i2s hx hb hd rfl kk
  · obtain ⟨x, r, rfl, rfl⟩ := mi_c1_inv h; exact lv_i2c hx hb hd rfl kk
  · obtain ⟨x, r, rfl, rfl⟩ := mi_l1_inv h; exact lv_l2i hx hb hd rfl kk
  · obtain ⟨x, y, r, rfl, rfl⟩ := mi_l2_inv h; exact lv_land hx hb hd kk
  · obtain ⟨x, y, r, rfl, rfl⟩ := mi_l2_inv h; exact lv_lor hx hb hd kk
  · obtain ⟨x, y, r, rfl, rfl⟩ := mi_l2_inv h; exact W.lcmp hx hb hd kk
  · obtain ⟨x, y, r, rfl, rfl⟩ := mi_li_inv h; exact lv_lshl hx hb hd rfl kk
  · obtain ⟨x, y, r, rfl, rfl⟩ := mi_li_inv h; exact lv_lshr hx hb hd rfl kk
  · obtain ⟨x, y, r, rfl, rfl⟩ := mi_li_inv h; exact lv_lushr hx hb hd rfl kk
  · split at h
    · split at h
      · cases h; exact lv_dup hx hb hd (by rw [mi_v_cat]; assumption) kk
      · cases h
    · cases h
  · split at h
    · split at h
      · cases h; exact lv_pop hx hb hd (by rw [mi_v_cat]; assumption) kk
      · cases h
    · cases h
  · split at h
    · split at h
      next hh => cases h; exact lv_dup2_11 hx hb hd (by rw [mi_v_cat]; exact hh.1) (by rw [mi_v_cat]; exact hh.2) kk
      next => cases h
    · cases h
  · cases h
end MIA
/-! branches -/
def mi_tgt (pc : Nat) (off : Int) : Nat := ((pc : Int) + off).toNat
def mi_ok (pc : Nat) (off : Int) : Bool := decide (0 ≤ (pc : Int) + off)
theorem mi_tgt_eq {pc : Nat} {off : Int} (h : mi_ok pc off = true) : (pc : Int) + off = (mi_tgt pc off : Int) := by
  have h1 := of_decide_eq_true h
  unfold mi_tgt
  omega
def mi_to (pc : Nat) (off : Int) (st : List Value) : Option (Nat × List Value) := if mi_ok pc off = true then some (mi_tgt pc off, st) else none
def mi_br (b : Bool) (pc : Nat) (off : Int) (st : List Value) : Option (Nat × List Value) := if mi_ok pc off = true then some (if b = true then mi_tgt pc off else pc + 3, st) else none
def mi_i1 (f : Int32 → Bool) (pc : Nat) (off : Int) (st : List Value) : Option (Nat × List Value) := match st with
  | .int x :: r => mi_br (f x) pc off r
  | _ => none
def mi_i2 (f : Int32 → Int32 → Bool) (pc : Nat) (off : Int) (st : List Value) : Option (Nat × List Value) := match st with
  | .int y :: .int x :: r => mi_br (f x y) pc off r
  | _ => none
theorem mi_to_inv {pc : Nat} {off : Int} {st : List Value} {q : Nat × List Value} (h : mi_to pc off st = some q) : (pc : Int) + off = (q.1 : Int) ∧ q.2 = st := by
  unfold mi_to at h
  split at h
  next ho => cases h; exact ⟨mi_tgt_eq ho, rfl⟩
  next => cases h
theorem mi_br_inv {b : Bool} {pc : Nat} {off : Int} {st : List Value} {q : Nat × List Value} (h : mi_br b pc off st = some q) : ∃ t : Nat, (pc : Int) + off = (t : Int) ∧ q = (if b = true then t else pc + 3, st) := by
  unfold mi_br at h
  split at h
  next ho => cases h; exact ⟨_, mi_tgt_eq ho, rfl⟩
  next => cases h
theorem mi_i1_inv {f : Int32 → Bool} {pc : Nat} {off : Int} {st : List Value} {q : Nat × List Value} (h : mi_i1 f pc off st = some q) : ∃ (x : Int32) (r : List Value) (t : Nat), st = .int x :: r ∧ (pc : Int) + off = (t : Int) ∧ q = (if f x = true then t else pc + 3, r) := by
  unfold mi_i1 at h
  split at h
  · obtain ⟨t, h1, h2⟩ := mi_br_inv h; exact ⟨_, _, t, rfl, h1, h2⟩
  · cases h
theorem mi_i2_inv {f : Int32 → Int32 → Bool} {pc : Nat} {off : Int} {st : List Value} {q : Nat × List Value} (h : mi_i2 f pc off st = some q) : ∃ (x y : Int32) (r : List Value) (t : Nat), st = .int y :: .int x :: r ∧ (pc : Int) + off = (t : Int) ∧ q = (if f x y = true then t else pc + 3, r) := by
  unfold mi_i2 at h
  split at h
  · obtain ⟨t, h1, h2⟩ := mi_br_inv h; exact ⟨_, _, _, t, rfl, h1, h2⟩
  · cases h
/-- branches: the next place, and the stack -/
def mi_B (i : Instr) (pc : Nat) (st : List Value) : Option (Nat × List Value) := match i with
  | .ifCond .eq off => mi_i1 (fun x => decide (x = 0)) pc off st
  | .ifCond .ne off => mi_i1 (fun x => decide (¬ x = 0)) pc off st
  | .ifCond .lt off => mi_i1 (fun x => decide (x < 0)) pc off st
  | .ifCond .ge off => mi_i1 (fun x => decide (0 ≤ x)) pc off st
  | .ifCond .gt off => mi_i1 (fun x => decide (0 < x)) pc off st
  | .ifCond .le off => mi_i1 (fun x => decide (x ≤ 0)) pc off st
  | .if_icmp .eq off => mi_i2 (fun x y => decide (x = y)) pc off st
  | .if_icmp .ne off => mi_i2 (fun x y => decide (¬ x = y)) pc off st
  | .if_icmp .lt off => mi_i2 (fun x y => decide (x < y)) pc off st
  | .if_icmp .ge off => mi_i2 (fun x y => decide (y ≤ x)) pc off st
  | .if_icmp .gt off => mi_i2 (fun x y => decide (y < x)) pc off st
  | .if_icmp .le off => mi_i2 (fun x y => decide (x ≤ y)) pc off st
  | .goto off => mi_to pc off st
  | .tableswitch d lo hi offs => (match st with
    | .int x :: r => if x.toInt < lo ∨ hi < x.toInt then mi_to pc d r else (match offs[(x.toInt - lo).toNat]? with
      | some off => mi_to pc off r
      | none => none)
    | _ => none)
  | .lookupswitch d ps => (match st with
    | .int x :: r => if (ps.toList.zip (ps.toList.drop 1)).all (fun (a, next) => a.1 < next.1) = true then mi_to pc (Op.lookupswitch.offset ps.toList d x.toInt) r else none
    | _ => none)
  | _ => none
section MIB
variable {p : Program} {l : Launch} {e : Env} {R : Room} {s : State} {m : MethodId} {args : Array Value} {below : List Frame} {meth : Method} {c : Code} {H : Heap} {locs : List Loc} {cells slots : Nat} {Q : State → Prop}
variable {cc : ByteArray} {pc : Nat} {ls : Array Slot} {ad : Nat → Nat}
theorem mi_sB (hx : p.tables.exec = Jvm.exec) (hb : c.code = cc) {i : Instr} {len : Nat} {st : List Value} {q : Nat × List Value} (h : mi_B i pc st = some q) (hd : decode cc pc = .ok (i, len)) (hn : mi_len i = 0 ∨ mi_len i = len)
    (kk : W p l e R s m args below meth c H locs cells slots Q (F0 m q.1 ls (q.2.map (mi_v ad)))) : W p l e R s m args below meth c H locs cells slots Q (F0 m pc ls (st.map (mi_v ad))) := by
  unfold mi_B at h
  split at h
  · obtain rfl : 3 = len := hn.resolve_left (show ¬ (3 : Nat) = 0 by decide)
    obtain ⟨x, r, t, rfl, ht, rfl⟩ := mi_i1_inv h
    refine lv_if_eq hx hb hd ht (fun hc => ?_) (fun hc => ?_) <;> simpa [hc] using kk
  · obtain rfl : 3 = len := hn.resolve_left (show ¬ (3 : Nat) = 0 by decide)
    obtain ⟨x, r, t, rfl, ht, rfl⟩ := mi_i1_inv h
    refine lv_if_ne hx hb hd ht (fun hc => ?_) (fun hc => ?_) <;> simpa [hc] using kk
  · obtain rfl : 3 = len := hn.resolve_left (show ¬ (3 : Nat) = 0 by decide)
    obtain ⟨x, r, t, rfl, ht, rfl⟩ := mi_i1_inv h
    refine lv_if_lt hx hb hd ht (fun hc => ?_) (fun hc => ?_) <;> simpa [hc] using kk
  · obtain rfl : 3 = len := hn.resolve_left (show ¬ (3 : Nat) = 0 by decide)
    obtain ⟨x, r, t, rfl, ht, rfl⟩ := mi_i1_inv h
    refine lv_if_ge hx hb hd ht (fun hc => ?_) (fun hc => ?_) <;> simpa [hc] using kk
  · obtain rfl : 3 = len := hn.resolve_left (show ¬ (3 : Nat) = 0 by decide)
    obtain ⟨x, r, t, rfl, ht, rfl⟩ := mi_i1_inv h
    refine lv_if_gt hx hb hd ht (fun hc => ?_) (fun hc => ?_) <;> simpa [hc] using kk
  · obtain rfl : 3 = len := hn.resolve_left (show ¬ (3 : Nat) = 0 by decide)
    obtain ⟨x, r, t, rfl, ht, rfl⟩ := mi_i1_inv h
    refine lv_if_le hx hb hd ht (fun hc => ?_) (fun hc => ?_) <;> simpa [hc] using kk
  · obtain rfl : 3 = len := hn.resolve_left (show ¬ (3 : Nat) = 0 by decide)
    obtain ⟨x, y, r, t, rfl, ht, rfl⟩ := mi_i2_inv h
    refine lv_icmp_eq hx hb hd ht (fun hc => ?_) (fun hc => ?_) <;> simpa [hc] using kk
  · obtain rfl : 3 = len := hn.resolve_left (show ¬ (3 : Nat) = 0 by decide)
    obtain ⟨x, y, r, t, rfl, ht, rfl⟩ := mi_i2_inv h
    refine lv_icmp_ne hx hb hd ht (fun hc => ?_) (fun hc => ?_) <;> simpa [hc] using kk
  · obtain rfl : 3 = len := hn.resolve_left (show ¬ (3 : Nat) = 0 by decide)
    obtain ⟨x, y, r, t, rfl, ht, rfl⟩ := mi_i2_inv h
    refine lv_icmp_lt hx hb hd ht (fun hc => ?_) (fun hc => ?_) <;> simpa [hc] using kk
  · obtain rfl : 3 = len := hn.resolve_left (show ¬ (3 : Nat) = 0 by decide)
    obtain ⟨x, y, r, t, rfl, ht, rfl⟩ := mi_i2_inv h
    refine lv_icmp_ge hx hb hd ht (fun hc => ?_) (fun hc => ?_) <;> simpa [hc] using kk
  · obtain rfl : 3 = len := hn.resolve_left (show ¬ (3 : Nat) = 0 by decide)
    obtain ⟨x, y, r, t, rfl, ht, rfl⟩ := mi_i2_inv h
    refine lv_icmp_gt hx hb hd ht (fun hc => ?_) (fun hc => ?_) <;> simpa [hc] using kk
  · obtain rfl : 3 = len := hn.resolve_left (show ¬ (3 : Nat) = 0 by decide)
    obtain ⟨x, y, r, t, rfl, ht, rfl⟩ := mi_i2_inv h
    refine lv_icmp_le hx hb hd ht (fun hc => ?_) (fun hc => ?_) <;> simpa [hc] using kk
  · obtain rfl : 3 = len := hn.resolve_left (show ¬ (3 : Nat) = 0 by decide)
    obtain ⟨h1, h2⟩ := mi_to_inv h
    rw [h2] at kk
    exact lv_goto hx hb hd h1 kk
  · split at h
    · split at h
      next ho =>
        obtain ⟨h1, h2⟩ := mi_to_inv h
        rw [h2] at kk
        exact lv_tableOut hx hb hd ho h1 kk
      next ho =>
        split at h
        next off hoff =>
          obtain ⟨h1, h2⟩ := mi_to_inv h
          rw [h2] at kk
          exact lv_tableIn hx hb hd (fun z => ho (Or.inl z)) (fun z => ho (Or.inr z)) hoff h1 kk
        next => cases h
    · cases h
  · split at h
    · split at h
      next hp =>
        obtain ⟨h1, h2⟩ := mi_to_inv h
        rw [h2] at kk
        exact lv_lookup hx hb hd hp rfl h1 kk
      next => cases h
    · cases h
  · cases h
end MIB
/-! locals: one value a place; null: none is known there -/
def mi_lv (ad : Nat → Nat) (ls : List Value) : List (Nat × Value) := (List.range ls.length).filterMap (fun k => (ls[k]?).bind (fun v => if v = Value.null then none else some (k, mi_v ad v)))
theorem mi_lv_mem {ad : Nat → Nat} {ls : List Value} {q : Nat × Value} : q ∈ mi_lv ad ls ↔ ∃ v, ls[q.1]? = some v ∧ v ≠ .null ∧ q.2 = mi_v ad v := by
  unfold mi_lv
  rw [List.mem_filterMap]
  constructor
  · rintro ⟨k, hk, h⟩
    obtain ⟨v, hv, h2⟩ := Option.bind_eq_some_iff.mp h
    split at h2
    · cases h2
    next hn => cases h2; exact ⟨v, hv, hn, rfl⟩
  · rintro ⟨v, hv, hn, h2⟩
    refine ⟨q.1, List.mem_range.mpr (List.getElem?_eq_some_iff.mp hv).1, ?_⟩
    rw [hv, Option.bind_some, if_neg hn, ← h2]
/-- a place in which a value of one slot may be stored -/
def mi_st1 (ls : List Value) (i : Nat) : Bool := decide (i < ls.length) && (match i with
  | 0 => true
  | j + 1 => (match ls[j]? with
    | some v => v.category == 1
    | none => true))
def mi_has (ad : Nat → Nat) (nL : Nat) (a : Array Slot) (ls : List Value) : Prop := ls.length = nL ∧ lv_has a nL (mi_lv ad ls)
theorem mi_has_get {ad : Nat → Nat} {nL : Nat} {a : Array Slot} {ls : List Value} {i : Nat} {v : Value} (h : mi_has ad nL a ls) (hv : ls[i]? = some v) (hn : v ≠ .null) : a[i]? = some (.val (mi_v ad v)) := h.2.2.2 (i, mi_v ad v) (mi_lv_mem.mpr ⟨v, hv, hn, rfl⟩)
theorem mi_has_set {ad : Nat → Nat} {nL : Nat} {a : Array Slot} {ls : List Value} {i : Nat} {v : Value} (hl : ls.length = nL) (hs : mi_st1 ls i = true)
    (h : lv_has a nL ((i, mi_v ad v) :: (mi_lv ad ls).filter (fun q => !(q.1 == i) && !(q.1 + 1 == i && q.2.category == 2)))) : mi_has ad nL a (ls.set i v) := by
  refine ⟨by rw [List.length_set]; exact hl, h.1, h.2.1, fun q hq => h.2.2 q ?_⟩
  obtain ⟨w, hw, hn, h2⟩ := mi_lv_mem.mp hq
  obtain ⟨k, z⟩ := q
  by_cases hk : k = i
  · subst hk
    have hlt := (List.getElem?_eq_some_iff.mp hw).1
    rw [List.length_set] at hlt
    rw [List.getElem?_set_self hlt] at hw
    cases hw
    cases h2
    exact List.mem_cons_self
  · rw [List.getElem?_set_ne (fun e => hk e.symm)] at hw
    refine List.mem_cons_of_mem _ (List.mem_filter.mpr ⟨mi_lv_mem.mpr ⟨w, hw, hn, h2⟩, ?_⟩)
    simp only [Bool.and_eq_true, Bool.not_eq_true', beq_eq_false_iff_ne, Bool.and_eq_false_iff]
    refine ⟨hk, ?_⟩
    by_cases h1 : k + 1 = i
    · right
      subst h1
      simp only [mi_st1, Bool.and_eq_true] at hs
      have hs2 := hs.2
      rw [hw] at hs2
      have hs3 : (w.category == 1) = true := hs2
      rw [show z = mi_v ad w from h2, mi_v_cat]
      intro h3
      rw [h3] at hs3
      cases hs3
    · left; exact h1
def mi_ldi (ls st : List Value) (k : Nat) : Option (List Value × List Value) := match ls[k]? with
  | some (.int x) => some (ls, .int x :: st)
  | _ => none
def mi_ldl (ls st : List Value) (k : Nat) : Option (List Value × List Value) := match ls[k]? with
  | some (.long x) => some (ls, .long x :: st)
  | _ => none
def mi_lda (ls st : List Value) (k : Nat) : Option (List Value × List Value) := match ls[k]? with
  | some (.ref x) => some (ls, .ref x :: st)
  | _ => none
def mi_sti (ls st : List Value) (k : Nat) : Option (List Value × List Value) := match st with
  | .int x :: r => if mi_st1 ls k = true then some (ls.set k (.int x), r) else none
  | _ => none
def mi_sta (ls st : List Value) (k : Nat) : Option (List Value × List Value) := match st with
  | .ref x :: r => if mi_st1 ls k = true then some (ls.set k (.ref x), r) else none
  | _ => none
def mi_inc (ls st : List Value) (k : Nat) (n : Int) : Option (List Value × List Value) := match ls[k]? with
  | some (.int x) => if mi_st1 ls k = true then some (ls.set k (.int (x + Int32.ofInt n)), st) else none
  | _ => none
theorem mi_ldi_inv {ls st : List Value} {k : Nat} {q : List Value × List Value} (h : mi_ldi ls st k = some q) : ∃ x, ls[k]? = some (.int x) ∧ q = (ls, .int x :: st) := by
  unfold mi_ldi at h
  split at h
  next x hx => cases h; exact ⟨_, hx, rfl⟩
  · cases h
theorem mi_ldl_inv {ls st : List Value} {k : Nat} {q : List Value × List Value} (h : mi_ldl ls st k = some q) : ∃ x, ls[k]? = some (.long x) ∧ q = (ls, .long x :: st) := by
  unfold mi_ldl at h
  split at h
  next x hx => cases h; exact ⟨_, hx, rfl⟩
  · cases h
theorem mi_lda_inv {ls st : List Value} {k : Nat} {q : List Value × List Value} (h : mi_lda ls st k = some q) : ∃ x, ls[k]? = some (.ref x) ∧ q = (ls, .ref x :: st) := by
  unfold mi_lda at h
  split at h
  next x hx => cases h; exact ⟨_, hx, rfl⟩
  · cases h
theorem mi_sti_inv {ls st : List Value} {k : Nat} {q : List Value × List Value} (h : mi_sti ls st k = some q) : ∃ x r, st = .int x :: r ∧ mi_st1 ls k = true ∧ q = (ls.set k (.int x), r) := by
  unfold mi_sti at h
  split at h
  · split at h
    next hs => cases h; exact ⟨_, _, rfl, hs, rfl⟩
    · cases h
  · cases h
theorem mi_sta_inv {ls st : List Value} {k : Nat} {q : List Value × List Value} (h : mi_sta ls st k = some q) : ∃ x r, st = .ref x :: r ∧ mi_st1 ls k = true ∧ q = (ls.set k (.ref x), r) := by
  unfold mi_sta at h
  split at h
  · split at h
    next hs => cases h; exact ⟨_, _, rfl, hs, rfl⟩
    · cases h
  · cases h
theorem mi_inc_inv {ls st : List Value} {k : Nat} {n : Int} {q : List Value × List Value} (h : mi_inc ls st k n = some q) : ∃ x, ls[k]? = some (.int x) ∧ mi_st1 ls k = true ∧ q = (ls.set k (.int (x + Int32.ofInt n)), st) := by
  unfold mi_inc at h
  split at h
  next x hx =>
    split at h
    next hs => cases h; exact ⟨_, hx, hs, rfl⟩
    · cases h
  · cases h
theorem mi_st1_lt {ls : List Value} {k : Nat} (h : mi_st1 ls k = true) : k < ls.length := by
  simp only [mi_st1, Bool.and_eq_true, decide_eq_true_eq] at h
  exact h.1
/-- locals and stack -/
def mi_L (i : Instr) (ls st : List Value) : Option (List Value × List Value) := match i with
  | .iload k => mi_ldi ls st k
  | .iload_n k => mi_ldi ls st (k : Nat)
  | .lload k => mi_ldl ls st k
  | .lload_n k => mi_ldl ls st (k : Nat)
  | .aload k => mi_lda ls st k
  | .aload_n k => mi_lda ls st (k : Nat)
  | .istore k => mi_sti ls st k
  | .istore_n k => mi_sti ls st (k : Nat)
  | .astore k => mi_sta ls st k
  | .astore_n k => mi_sta ls st (k : Nat)
  | .iinc k n => mi_inc ls st k n
  | _ => none
section MIL
variable {p : Program} {l : Launch} {e : Env} {R : Room} {s : State} {m : MethodId} {args : Array Value} {below : List Frame} {meth : Method} {c : Code} {H : Heap} {locs : List Loc} {cells slots : Nat} {Q : State → Prop}
variable {cc : ByteArray} {pc nL : Nat} {la : Array Slot} {ad : Nat → Nat}
theorem mi_sL (hx : p.tables.exec = Jvm.exec) (hb : c.code = cc) {i : Instr} {ls st : List Value} {q : List Value × List Value} (hl : mi_has ad nL la ls) (h : mi_L i ls st = some q) (hd : decode cc pc = .ok (i, mi_len i))
    (kk : ∀ la' : Array Slot, mi_has ad nL la' q.1 → W p l e R s m args below meth c H locs cells slots Q (F0 m (pc + mi_len i) la' (q.2.map (mi_v ad)))) : W p l e R s m args below meth c H locs cells slots Q (F0 m pc la (st.map (mi_v ad))) := by
  unfold mi_L at h
  split at h
  · obtain ⟨x, h1, rfl⟩ := mi_ldi_inv h; exact lv_iload hx hb hd (mi_has_get hl h1 (fun z => by cases z)) (kk la hl)
  · obtain ⟨x, h1, rfl⟩ := mi_ldi_inv h; exact lv_iload_n hx hb hd rfl (mi_has_get hl h1 (fun z => by cases z)) (kk la hl)
  · obtain ⟨x, h1, rfl⟩ := mi_ldl_inv h; exact lv_lload hx hb hd (mi_has_get hl h1 (fun z => by cases z)) (kk la hl)
  · obtain ⟨x, h1, rfl⟩ := mi_ldl_inv h; exact lv_lload_n hx hb hd rfl (mi_has_get hl h1 (fun z => by cases z)) (kk la hl)
  · obtain ⟨x, h1, rfl⟩ := mi_lda_inv h; exact lv_aload hx hb hd (mi_has_get hl h1 (fun z => by cases z)) (kk la hl)
  · obtain ⟨x, h1, rfl⟩ := mi_lda_inv h; exact lv_aload_n hx hb hd rfl (mi_has_get hl h1 (fun z => by cases z)) (kk la hl)
  · obtain ⟨x, r, rfl, hs, rfl⟩ := mi_sti_inv h; exact lv_istore hx hb hd hl.2 (hl.1 ▸ mi_st1_lt hs) rfl (fun la' h' => kk la' (mi_has_set (v := .int x) hl.1 hs h'))
  · obtain ⟨x, r, rfl, hs, rfl⟩ := mi_sti_inv h; exact lv_istore_n hx hb hd rfl hl.2 (hl.1 ▸ mi_st1_lt hs) rfl (fun la' h' => kk la' (mi_has_set (v := .int x) hl.1 hs h'))
  · obtain ⟨x, r, rfl, hs, rfl⟩ := mi_sta_inv h; exact lv_astore hx hb hd hl.2 (hl.1 ▸ mi_st1_lt hs) rfl (fun la' h' => kk la' (mi_has_set (v := .ref x) hl.1 hs h'))
  · obtain ⟨x, r, rfl, hs, rfl⟩ := mi_sta_inv h; exact lv_astore_n hx hb hd rfl hl.2 (hl.1 ▸ mi_st1_lt hs) rfl (fun la' h' => kk la' (mi_has_set (v := .ref x) hl.1 hs h'))
  · obtain ⟨x, h1, hs, rfl⟩ := mi_inc_inv h
    have hm := (mi_lv_mem (ad := ad) (ls := ls) (q := (_, .int x))).mpr ⟨_, h1, (fun z => by cases z), rfl⟩
    obtain ⟨k, hk⟩ := List.getElem?_of_mem hm
    exact lv_iinc hx hb hd hl.2 hk rfl (hl.1 ▸ mi_st1_lt hs) rfl (fun la' h' => kk la' (mi_has_set (v := .int _) hl.1 hs h'))
  · cases h
/-- the locals with which a method begins -/
def mi_args : List Value → List Value
  | [] => []
  | v :: vs => if v.category = 2 then v :: .null :: mi_args vs else v :: mi_args vs
def mi_ent (as : List Value) (nL : Nat) : List Value := mi_args as ++ List.replicate (nL - (mi_args as).length) .null
end MIL
end
section
/-! TABLES of the landed code (written by wip/whole/gen/gen04.py out of the task): classes, methods, links; each entry with the places of its words in lw_tbl -/
def mi_cl : List vw_C := [(RX0, TX0, 0), (RX1, TX1, 10), (RX2, TX2, 0), (RX3, TX3, 0), (RX4, TX4, 16), (RX5, TX5, 0), (RX6, TX6, 2), (RX7, TX7, 0), (RX8, TX8, 9), (RX9, TX9, 0), (RX10, TX10, 0), (RX11, TX11, 10), (RX12, TX12, 25)]
def mi_ty (ci : Nat) : Nat → FieldType := match ci with
  | 0 => tyX0
  | 1 => tyX1
  | 2 => tyX2
  | 3 => tyX3
  | 4 => tyX4
  | 5 => tyX5
  | 6 => tyX6
  | 7 => tyX7
  | 8 => tyX8
  | 9 => tyX9
  | 10 => tyX10
  | 11 => tyX11
  | _ => tyX12
def mi_R : List String := [RX0, RX1, RX2, RX3, RX4, RX5, RX6, RX7, RX8, RX9, RX10, RX11, RX12, RL]
def mi_ak : List FieldType := [.int, .object "NineLedges$Goer", .object "NineLedges$Text", .object "NineLedges$Row", .object "NineLedges$Walker"]
def mi_k0 : List (Nat × Instr) := [(0, .aload_n 0), (1, .invokespecial 1), (4, .return_)]
def mi_k1 : List (Nat × Instr) := [(0, .aload_n 0), (1, .iload_n 1), (2, .invokespecial 7), (5, .iload_n 1), (6, .isub), (7, .ireturn)]
def mi_k2 : List (Nat × Instr) := [(0, .iconst 0), (1, .ireturn)]
def mi_k3 : List (Nat × Instr) := [(0, .aload_n 2), (1, .bipush 70), (3, .invokevirtual 11), (6, .pop), (7, .aload_n 0), (8, .aload_n 1), (9, .aload_n 2), (10, .iload_n 3), (11, .invokespecial 17), (14, .aload_n 1), (15, .getfield 21), (18, .ixor), (19, .ireturn)]
def mi_k4 : List (Nat × Instr) := [(0, .aload_n 2), (1, .bipush 71), (3, .invokevirtual 11), (6, .pop), (7, .aload_n 0), (8, .aload_n 1), (9, .aload_n 2), (10, .iload_n 3), (11, .invokevirtual 27), (14, .aload_n 0), (15, .aload_n 1), (16, .aload_n 2), (17, .iload_n 3), (18, .invokespecial 32), (21, .isub), (22, .ireturn)]
def mi_k5 : List (Nat × Instr) := [(0, .aload_n 0), (1, .invokespecial 3), (4, .aload_n 0), (5, .bipush 24), (7, .newarray .int), (9, .putfield 9), (12, .iconst 0), (13, .istore_n 1), (14, .iload_n 1), (15, .bipush 24), (17, .if_icmp .ge 16), (20, .aload_n 0), (21, .getfield 9), (24, .iload_n 1), (25, .iconst 1), (26, .iastore), (27, .iinc 1 1), (30, .goto (-16)), (33, .aload_n 0), (34, .bipush 8), (36, .anewarray 15), (39, .putfield 17), (42, .iconst 0), (43, .istore_n 1), (44, .iload_n 1), (45, .bipush 8), (47, .if_icmp .ge 23), (50, .aload_n 0), (51, .getfield 17), (54, .iload_n 1), (55, .new 15), (58, .dup), (59, .iload_n 1), (60, .invokespecial 21), (63, .aastore), (64, .iinc 1 1), (67, .goto (-23)), (70, .aload_n 0), (71, .iconst 1), (72, .putfield 24), (75, .aload_n 0), (76, .new 28), (79, .dup), (80, .bipush 50), (82, .invokespecial 30), (85, .putfield 31), (88, .aload_n 0), (89, .new 28), (92, .dup), (93, .bipush 20), (95, .invokespecial 30), (98, .putfield 35), (101, .aload_n 0), (102, .iconst 2), (103, .anewarray 38), (106, .dup), (107, .iconst 0), (108, .new 38), (111, .dup), (112, .ldc 40), (114, .ldc 41), (116, .invokespecial 42), (119, .aastore), (120, .dup), (121, .iconst 1), (122, .new 38), (125, .dup), (126, .bipush (-99)), (128, .bipush 99), (130, .invokespecial 42), (133, .aastore), (134, .putfield 45), (137, .return_)]
def mi_k6 : List (Nat × Instr) := [(0, .aload_n 1), (1, .getfield 9), (4, .iconst 0), (5, .aload_n 0), (6, .getfield 9), (9, .iconst 0), (10, .bipush 24), (12, .invokestatic 49), (15, .aload_n 0), (16, .aload_n 1), (17, .getfield 55), (20, .putfield 55), (23, .iconst 0), (24, .istore_n 2), (25, .iload_n 2), (26, .aload_n 0), (27, .getfield 55), (30, .if_icmp .ge 24), (33, .aload_n 0), (34, .getfield 17), (37, .iload_n 2), (38, .aaload), (39, .aload_n 1), (40, .getfield 17), (43, .iload_n 2), (44, .aaload), (45, .invokevirtual 58), (48, .iinc 2 1), (51, .goto (-26)), (54, .aload_n 0), (55, .aload_n 1), (56, .getfield 62), (59, .putfield 62), (62, .aload_n 0), (63, .aload_n 1), (64, .getfield 65), (67, .putfield 65), (70, .aload_n 0), (71, .aload_n 1), (72, .getfield 68), (75, .putfield 68), (78, .aload_n 0), (79, .aload_n 1), (80, .getfield 24), (83, .putfield 24), (86, .aload_n 0), (87, .getfield 31), (90, .aload_n 1), (91, .getfield 31), (94, .invokevirtual 71), (97, .aload_n 0), (98, .getfield 35), (101, .aload_n 1), (102, .getfield 35), (105, .invokevirtual 71), (108, .iconst 0), (109, .istore_n 2), (110, .iload_n 2), (111, .iconst 2), (112, .if_icmp .ge 24), (115, .aload_n 0), (116, .getfield 45), (119, .iload_n 2), (120, .aaload), (121, .aload_n 1), (122, .getfield 45), (125, .iload_n 2), (126, .aaload), (127, .invokevirtual 74), (130, .iinc 2 1), (133, .goto (-23)), (136, .return_)]
def mi_k7 : List (Nat × Instr) := [(0, .iload_n 1), (1, .invokestatic 77), (4, .ifCond .eq 17), (7, .aload_n 0), (8, .getfield 9), (11, .iload_n 1), (12, .iaload), (13, .iconst 1), (14, .if_icmp .le 7), (17, .iconst 1), (18, .goto 4), (21, .iconst 0), (22, .ireturn)]
def mi_k8 : List (Nat × Instr) := [(0, .aload_n 0), (1, .bipush 24), (3, .invokevirtual 81), (6, .ireturn)]
def mi_k9 : List (Nat × Instr) := [(0, .iconst 0), (1, .istore_n 2), (2, .iconst 0), (3, .istore_n 3), (4, .iload_n 3), (5, .iload_n 1), (6, .if_icmp .ge 28), (9, .iload_n 3), (10, .bipush 24), (12, .if_icmp .ge 22), (15, .aload_n 0), (16, .getfield 9), (19, .iload_n 3), (20, .iaload), (21, .iconst 1), (22, .if_icmp .le 6), (25, .iinc 2 1), (28, .iinc 3 1), (31, .goto (-27)), (34, .iload_n 2), (35, .ireturn)]
def mi_k10 : List (Nat × Instr) := [(0, .aload_n 0), (1, .iload_n 1), (2, .invokevirtual 85), (5, .ifCond .eq 11), (8, .aload_n 0), (9, .iload_n 1), (10, .invokevirtual 81), (13, .goto 4), (16, .iconst (-1)), (17, .ireturn)]
def mi_k11 : List (Nat × Instr) := [(0, .iconst 0), (1, .istore_n 2), (2, .iload_n 2), (3, .bipush 24), (5, .if_icmp .ge 28), (8, .aload_n 0), (9, .iload_n 2), (10, .invokevirtual 85), (13, .ifCond .eq 14), (16, .aload_n 0), (17, .iload_n 2), (18, .invokevirtual 81), (21, .iload_n 1), (22, .if_icmp .ne 5), (25, .iload_n 2), (26, .ireturn), (27, .iinc 2 1), (30, .goto (-28)), (33, .iconst (-1)), (34, .ireturn)]
def mi_k12 : List (Nat × Instr) := [(0, .iconst 0), (1, .istore_n 2), (2, .iconst 0), (3, .istore_n 3), (4, .iload_n 3), (5, .aload_n 0), (6, .getfield 55), (9, .if_icmp .ge 38), (12, .aload_n 0), (13, .getfield 17), (16, .iload_n 3), (17, .aaload), (18, .getfield 88), (21, .iconst 1), (22, .if_icmp .ne 19), (25, .aload_n 0), (26, .getfield 17), (29, .iload_n 3), (30, .aaload), (31, .getfield 91), (34, .iload_n 1), (35, .if_icmp .ne 6), (38, .iinc 2 1), (41, .iinc 3 1), (44, .goto (-40)), (47, .iload_n 2), (48, .ireturn)]
def mi_k13 : List (Nat × Instr) := [(0, .iconst 0), (1, .istore_n 2), (2, .iconst 0), (3, .istore_n 3), (4, .iload_n 3), (5, .aload_n 0), (6, .getfield 55), (9, .if_icmp .ge 25), (12, .aload_n 0), (13, .getfield 17), (16, .iload_n 3), (17, .aaload), (18, .getfield 88), (21, .iload_n 1), (22, .if_icmp .ne 6), (25, .iinc 2 1), (28, .iinc 3 1), (31, .goto (-27)), (34, .iload_n 2), (35, .ireturn)]
def mi_k14 : List (Nat × Instr) := [(0, .iload_n 1), (1, .invokestatic 77), (4, .ifCond .eq 13), (7, .iload_n 2), (8, .iconst 1), (9, .if_icmp .lt 8), (12, .iload_n 2), (13, .iconst 5), (14, .if_icmp .le 6), (17, .ldc 94), (19, .ireturn), (20, .aload_n 0), (21, .iload_n 1), (22, .invokevirtual 95), (25, .iload_n 2), (26, .if_icmp .le 6), (29, .ldc 98), (31, .ireturn), (32, .iload_n 2), (33, .iconst 1), (34, .if_icmp .le 25), (37, .aload_n 0), (38, .iload_n 1), (39, .invokevirtual 85), (42, .ifCond .ne 17), (45, .aload_n 0), (46, .invokevirtual 99), (49, .bipush 9), (51, .if_icmp .lt 8), (54, .ldc 103), (56, .goto 4), (59, .iconst 0), (60, .ireturn)]
def mi_k15 : List (Nat × Instr) := [(0, .aload_n 0), (1, .getfield 45), (4, .iconst 0), (5, .aaload), (6, .aload_n 1), (7, .getfield 104), (10, .aload_n 1), (11, .getfield 107), (14, .aload_n 1), (15, .getfield 110), (18, .invokevirtual 113), (21, .ireturn)]
def mi_k16 : List (Nat × Instr) := [(0, .aload_n 0), (1, .aload_n 0), (2, .getfield 24), (5, .ldc 117), (7, .imul), (8, .sipush 12345), (11, .iadd), (12, .putfield 24), (15, .aload_n 0), (16, .getfield 24), (19, .bipush 8), (21, .iushr), (22, .ireturn)]
def mi_k17 : List (Nat × Instr) := [(0, .aload_n 0), (1, .dup), (2, .getfield 62), (5, .iconst 1), (6, .iadd), (7, .putfield 62), (10, .iconst 0), (11, .istore_n 2), (12, .iconst 0), (13, .istore_n 3), (14, .iload_n 3), (15, .aload_n 0), (16, .getfield 55), (19, .if_icmp .ge 78), (22, .aload_n 0), (23, .getfield 17), (26, .iload_n 3), (27, .aaload), (28, .astore 4), (30, .aload 4), (32, .getfield 88), (35, .iconst 1), (36, .if_icmp .ne 16), (39, .iload_n 2), (40, .aload_n 0), (41, .aload 4), (43, .iload_n 1), (44, .invokevirtual 118), (47, .ior), (48, .istore_n 2), (49, .goto 42), (52, .aload 4), (54, .getfield 88), (57, .ifCond .ne 34), (60, .aload 4), (62, .getfield 122), (65, .aload_n 0), (66, .getfield 62), (69, .if_icmp .gt 22), (72, .aload_n 0), (73, .aload 4), (75, .getfield 125), (78, .invokevirtual 128), (81, .ifCond .eq 10), (84, .aload 4), (86, .invokevirtual 131), (89, .iconst 1), (90, .istore_n 2), (91, .iinc 3 1), (94, .goto (-80)), (97, .iload_n 2), (98, .ireturn)]
def mi_k18 : List (Nat × Instr) := [(0, .aload_n 1), (1, .getfield 134), (4, .ifCond .le 15), (7, .aload_n 1), (8, .dup), (9, .getfield 134), (12, .iconst 1), (13, .isub), (14, .putfield 134), (17, .iconst 1), (18, .ireturn), (19, .aload_n 1), (20, .getfield 91), (23, .aload_n 1), (24, .getfield 137), (27, .if_icmp .ne 17), (30, .aload_n 1), (31, .getfield 140), (34, .ifCond .ne 10), (37, .aload_n 1), (38, .iconst 2), (39, .invokevirtual 143), (42, .iconst 1), (43, .ireturn), (44, .aload_n 0), (45, .aload_n 1), (46, .getfield 91), (49, .invokevirtual 85), (52, .istore_n 3), (53, .iload_n 3), (54, .ifCond .eq 31), (57, .aload_n 1), (58, .getfield 140), (61, .ifCond .ne 24), (64, .aload_n 1), (65, .getfield 146), (68, .ifCond .eq 17), (71, .iload_n 2), (72, .ifCond .ne 13), (75, .aload_n 0), (76, .aload_n 1), (77, .invokevirtual 149), (80, .ifCond .eq 5), (83, .iconst 0), (84, .ireturn), (85, .aload_n 1), (86, .getfield 140), (89, .ifCond .eq 15), (92, .aload_n 1), (93, .getfield 91), (96, .aload_n 1), (97, .invokevirtual 153), (100, .isub), (101, .goto 12), (104, .aload_n 1), (105, .getfield 91), (108, .aload_n 1), (109, .invokevirtual 153), (112, .iadd), (113, .istore 4), (115, .iload 4), (117, .invokestatic 77), (120, .ifCond .ne 5), (123, .iconst 0), (124, .ireturn), (125, .aload_n 0), (126, .iload 4), (128, .invokevirtual 128), (131, .ifCond .eq 12), (134, .aload_n 0), (135, .aload_n 1), (136, .iload 4), (138, .invokevirtual 156), (141, .iconst 1), (142, .ireturn), (143, .aload_n 1), (144, .getfield 140), (147, .ifCond .ne 21), (150, .iload_n 3), (151, .ifCond .ne 17), (154, .aload_n 0), (155, .aload_n 1), (156, .iload 4), (158, .invokevirtual 160), (161, .ifCond .eq 7), (164, .iconst 1), (165, .goto 4), (168, .iconst 0), (169, .ireturn)]
def mi_k19 : List (Nat × Instr) := [(0, .iload_n 1), (1, .invokestatic 77), (4, .ifCond .eq 21), (7, .aload_n 0), (8, .iload_n 1), (9, .invokevirtual 95), (12, .aload_n 0), (13, .getfield 9), (16, .iload_n 1), (17, .iaload), (18, .if_icmp .ge 7), (21, .iconst 1), (22, .goto 4), (25, .iconst 0), (26, .ireturn)]
def mi_k20 : List (Nat × Instr) := [(0, .aload_n 1), (1, .iload_n 2), (2, .putfield 91), (5, .aload_n 1), (6, .aload_n 1), (7, .getfield 164), (10, .iconst 1), (11, .isub), (12, .putfield 134), (15, .aload_n 0), (16, .iload_n 2), (17, .invokevirtual 85), (20, .ifCond .eq 51), (23, .aload_n 1), (24, .iconst 0), (25, .putfield 140), (28, .aload_n 0), (29, .getfield 45), (32, .iconst 1), (33, .aaload), (34, .aload_n 1), (35, .getfield 104), (38, .aload_n 0), (39, .iload_n 2), (40, .invokevirtual 167), (43, .aload_n 0), (44, .getfield 62), (47, .invokevirtual 113), (50, .istore_n 3), (51, .aload_n 0), (52, .ldc 170), (54, .ldc 171), (56, .aload_n 0), (57, .getfield 65), (60, .iload_n 3), (61, .iadd), (62, .invokestatic 172), (65, .invokestatic 178), (68, .putfield 65), (71, .return_)]
def mi_k21 : List (Nat × Instr) := [(0, .aload_n 1), (1, .invokevirtual 153), (4, .istore_n 2), (5, .iconst 1), (6, .istore_n 3), (7, .iload_n 3), (8, .bipush 24), (10, .if_icmp .ge 38), (13, .aload_n 1), (14, .getfield 91), (17, .iload_n 3), (18, .iload_n 2), (19, .imul), (20, .iadd), (21, .invokestatic 77), (24, .ifCond .eq 24), (27, .aload_n 0), (28, .aload_n 1), (29, .getfield 91), (32, .iload_n 3), (33, .iload_n 2), (34, .imul), (35, .iadd), (36, .invokevirtual 85), (39, .ifCond .ne 9), (42, .iinc 3 1), (45, .goto (-38)), (48, .iconst 0), (49, .istore 4), (51, .iload 4), (53, .aload_n 0), (54, .getfield 55), (57, .if_icmp .ge 55), (60, .aload_n 0), (61, .getfield 17), (64, .iload 4), (66, .aaload), (67, .getfield 91), (70, .aload_n 1), (71, .getfield 91), (74, .isub), (75, .iload_n 2), (76, .imul), (77, .istore 5), (79, .aload_n 0), (80, .getfield 17), (83, .iload 4), (85, .aaload), (86, .aload_n 1), (87, .invokevirtual 181), (90, .ifCond .eq 16), (93, .iload 5), (95, .ifCond .le 11), (98, .iload 5), (100, .iload_n 3), (101, .if_icmp .ge 5), (104, .iconst 1), (105, .ireturn), (106, .iinc 4 1), (109, .goto (-58)), (112, .iconst 0), (113, .ireturn)]
def mi_k22 : List (Nat × Instr) := [(0, .iconst 0), (1, .istore_n 3), (2, .iload_n 3), (3, .aload_n 0), (4, .getfield 55), (7, .if_icmp .ge 54), (10, .aload_n 0), (11, .getfield 17), (14, .iload_n 3), (15, .aaload), (16, .astore 4), (18, .aload 4), (20, .getfield 91), (23, .iload_n 2), (24, .if_icmp .ne 31), (27, .aload 4), (29, .aload_n 1), (30, .invokevirtual 181), (33, .ifCond .eq 22), (36, .aload_n 0), (37, .aload_n 1), (38, .aload_n 0), (39, .aload_n 1), (40, .invokevirtual 184), (43, .aload 4), (45, .aload_n 0), (46, .aload 4), (48, .invokevirtual 184), (51, .invokevirtual 188), (54, .ireturn), (55, .iinc 3 1), (58, .goto (-56)), (61, .iconst 0), (62, .ireturn)]
def mi_k23 : List (Nat × Instr) := [(0, .iload_n 2), (1, .iload 4), (3, .if_icmp .gt 20), (6, .iload_n 2), (7, .iload 4), (9, .if_icmp .ne 16), (12, .aload_n 1), (13, .getfield 107), (16, .aload_n 3), (17, .getfield 107), (20, .if_icmp .ge 5), (23, .iconst 0), (24, .ireturn), (25, .aload_n 1), (26, .getfield 192), (29, .ifCond .ne 10), (32, .aload_n 1), (33, .iconst 1), (34, .putfield 195), (37, .iconst 0), (38, .ireturn), (39, .aload_n 1), (40, .iconst 1), (41, .putfield 140), (44, .aload_n 1), (45, .dup), (46, .getfield 110), (49, .iconst 1), (50, .iadd), (51, .putfield 110), (54, .aload_n 0), (55, .sipush 9999), (58, .aload_n 0), (59, .getfield 68), (62, .iconst 1), (63, .iadd), (64, .invokestatic 172), (67, .putfield 68), (70, .iconst 1), (71, .ireturn)]
def mi_k24 : List (Nat × Instr) := [(0, .aload_n 0), (1, .iconst 2), (2, .invokevirtual 198), (5, .aload_n 0), (6, .getfield 55), (9, .if_icmp .ne 7), (12, .iconst 1), (13, .goto 4), (16, .iconst 0), (17, .ireturn)]
def mi_k25 : List (Nat × Instr) := [(0, .iconst 0), (1, .istore_n 1), (2, .iload_n 1), (3, .aload_n 0), (4, .getfield 55), (7, .if_icmp .ge 39), (10, .aload_n 0), (11, .getfield 17), (14, .iload_n 1), (15, .aaload), (16, .getfield 88), (19, .ifCond .ne 21), (22, .aload_n 0), (23, .getfield 17), (26, .iload_n 1), (27, .aaload), (28, .getfield 122), (31, .aload_n 0), (32, .getfield 62), (35, .if_icmp .le 5), (38, .iconst 1), (39, .ireturn), (40, .iinc 1 1), (43, .goto (-41)), (46, .iconst 0), (47, .ireturn)]
def mi_k26 : List (Nat × Instr) := [(0, .iconst 0), (1, .istore_n 1), (2, .iload_n 1), (3, .sipush 300), (6, .if_icmp .gt 35), (9, .aload_n 0), (10, .invokevirtual 201), (13, .ifCond .eq 5), (16, .iload_n 1), (17, .ireturn), (18, .aload_n 0), (19, .iconst 0), (20, .invokevirtual 205), (23, .ifCond .ne 12), (26, .aload_n 0), (27, .invokevirtual 209), (30, .ifCond .ne 5), (33, .iconst (-1)), (34, .ireturn), (35, .iinc 1 1), (38, .goto (-36)), (41, .iconst (-1)), (42, .ireturn)]
def mi_k27 : List (Nat × Instr) := [(0, .iconst 0), (1, .istore_n 1), (2, .iload_n 1), (3, .sipush 300), (6, .if_icmp .gt 43), (9, .aload_n 0), (10, .invokevirtual 201), (13, .ifCond .ne 14), (16, .aload_n 0), (17, .invokevirtual 209), (20, .ifCond .ne 7), (23, .iconst 1), (24, .goto 4), (27, .iconst 0), (28, .istore_n 2), (29, .aload_n 0), (30, .iconst 0), (31, .invokevirtual 205), (34, .ifCond .ne 9), (37, .iload_n 2), (38, .ifCond .eq 5), (41, .iload_n 1), (42, .ireturn), (43, .iinc 1 1), (46, .goto (-44)), (49, .iconst (-1)), (50, .ireturn)]
def mi_k28 : List (Nat × Instr) := [(0, .aload_n 0), (1, .invokespecial 1), (4, .return_)]
def mi_k29 : List (Nat × Instr) := [(0, .iconst 2), (1, .ireturn)]
def mi_k30 : List (Nat × Instr) := [(0, .bipush 20), (2, .ireturn)]
def mi_k31 : List (Nat × Instr) := [(0, .iconst 0), (1, .ireturn)]
def mi_k32 : List (Nat × Instr) := [(0, .aload_n 2), (1, .bipush 20), (3, .invokevirtual 7), (6, .pop), (7, .aload_n 0), (8, .aload_n 1), (9, .aload_n 2), (10, .iload_n 3), (11, .invokespecial 13), (14, .aload_n 0), (15, .aload_n 1), (16, .aload_n 2), (17, .iconst 1), (18, .invokevirtual 17), (21, .isub), (22, .ireturn)]
def mi_k33 : List (Nat × Instr) := [(0, .aload_n 0), (1, .invokespecial 1), (4, .return_)]
def mi_k34 : List (Nat × Instr) := [(0, .iconst 0), (1, .aload_n 0), (2, .iload_n 1), (3, .invokespecial 7), (6, .iconst 3), (7, .isub), (8, .invokestatic 11), (11, .ireturn)]
def mi_k35 : List (Nat × Instr) := [(0, .aload_n 2), (1, .bipush 30), (3, .invokevirtual 17), (6, .pop), (7, .aload_n 0), (8, .aload_n 1), (9, .aload_n 2), (10, .iload_n 3), (11, .invokespecial 23), (14, .iconst 3), (15, .imul), (16, .ireturn)]
def mi_k36 : List (Nat × Instr) := [(0, .aload_n 0), (1, .invokespecial 3), (4, .aload_n 0), (5, .iload_n 1), (6, .putfield 9), (9, .aload_n 0), (10, .iconst (-1)), (11, .putfield 15), (14, .return_)]
def mi_k37 : List (Nat × Instr) := [(0, .aload_n 0), (1, .iload_n 2), (2, .putfield 18), (5, .aload_n 0), (6, .iload_n 3), (7, .putfield 21), (10, .aload_n 0), (11, .aload_n 1), (12, .aload_n 0), (13, .getfield 21), (16, .invokevirtual 24), (19, .putfield 30), (22, .aload_n 0), (23, .aload_n 1), (24, .aload_n 0), (25, .getfield 21), (28, .invokevirtual 33), (31, .putfield 36), (34, .aload_n 0), (35, .aload_n 1), (36, .aload_n 0), (37, .getfield 21), (40, .invokevirtual 39), (43, .putfield 43), (46, .aload_n 0), (47, .aload_n 1), (48, .invokevirtual 46), (51, .putfield 50), (54, .return_)]
def mi_k38 : List (Nat × Instr) := [(0, .aload_n 0), (1, .iconst 0), (2, .invokevirtual 52), (5, .aload_n 0), (6, .iconst 0), (7, .putfield 56), (10, .return_)]
def mi_k39 : List (Nat × Instr) := [(0, .aload_n 0), (1, .iload_n 1), (2, .putfield 59), (5, .aload_n 0), (6, .iconst (-1)), (7, .putfield 15), (10, .aload_n 0), (11, .iconst 0), (12, .putfield 62), (15, .aload_n 0), (16, .iconst 0), (17, .putfield 65), (20, .aload_n 0), (21, .iconst 0), (22, .putfield 68), (25, .return_)]
def mi_k40 : List (Nat × Instr) := [(0, .aload_n 0), (1, .iconst 1), (2, .putfield 59), (5, .aload_n 0), (6, .aload_n 0), (7, .getfield 71), (10, .putfield 15), (13, .aload_n 0), (14, .iconst 0), (15, .putfield 62), (18, .aload_n 0), (19, .iconst 0), (20, .putfield 65), (23, .return_)]
def mi_k41 : List (Nat × Instr) := [(0, .aload_n 0), (1, .getfield 74), (4, .aload_n 0), (5, .getfield 71), (8, .if_icmp .le 7), (11, .iconst 1), (12, .goto 4), (15, .iconst (-1)), (16, .ireturn)]
def mi_k42 : List (Nat × Instr) := [(0, .aload_n 0), (1, .getfield 59), (4, .iconst 1), (5, .if_icmp .ne 25), (8, .aload_n 0), (9, .getfield 65), (12, .ifCond .ne 18), (15, .aload_n 0), (16, .invokevirtual 77), (19, .aload_n 1), (20, .invokevirtual 77), (23, .if_icmp .eq 7), (26, .iconst 1), (27, .goto 4), (30, .iconst 0), (31, .ireturn)]
def mi_k43 : List (Nat × Instr) := [(0, .iload_n 1), (1, .tableswitch 152 0 13 #[71, 76, 81, 86, 91, 96, 101, 106, 111, 124, 129, 134, 152, 139]), (72, .aload_n 0), (73, .getfield 18), (76, .ireturn), (77, .aload_n 0), (78, .getfield 21), (81, .ireturn), (82, .aload_n 0), (83, .getfield 71), (86, .ireturn), (87, .aload_n 0), (88, .getfield 74), (91, .ireturn), (92, .aload_n 0), (93, .getfield 81), (96, .ireturn), (97, .aload_n 0), (98, .getfield 59), (101, .ireturn), (102, .aload_n 0), (103, .getfield 15), (106, .ireturn), (107, .aload_n 0), (108, .getfield 62), (111, .ireturn), (112, .aload_n 0), (113, .getfield 65), (116, .ifCond .eq 7), (119, .iconst 1), (120, .goto 4), (123, .iconst 0), (124, .ireturn), (125, .aload_n 0), (126, .getfield 56), (129, .ireturn), (130, .aload_n 0), (131, .getfield 30), (134, .ireturn), (135, .aload_n 0), (136, .getfield 36), (139, .ireturn), (140, .aload_n 0), (141, .getfield 43), (144, .ifCond .eq 7), (147, .iconst 1), (148, .goto 4), (151, .iconst 0), (152, .ireturn), (153, .aload_n 0), (154, .getfield 50), (157, .ifCond .eq 7), (160, .iconst 1), (161, .goto 4), (164, .iconst 0), (165, .ireturn)]
def mi_k44 : List (Nat × Instr) := [(0, .aload_n 0), (1, .aload_n 1), (2, .getfield 18), (5, .putfield 18), (8, .aload_n 0), (9, .aload_n 1), (10, .getfield 21), (13, .putfield 21), (16, .aload_n 0), (17, .aload_n 1), (18, .getfield 71), (21, .putfield 71), (24, .aload_n 0), (25, .aload_n 1), (26, .getfield 74), (29, .putfield 74), (32, .aload_n 0), (33, .aload_n 1), (34, .getfield 81), (37, .putfield 81), (40, .aload_n 0), (41, .aload_n 1), (42, .getfield 59), (45, .putfield 59), (48, .aload_n 0), (49, .aload_n 1), (50, .getfield 15), (53, .putfield 15), (56, .aload_n 0), (57, .aload_n 1), (58, .getfield 62), (61, .putfield 62), (64, .aload_n 0), (65, .aload_n 1), (66, .getfield 65), (69, .putfield 65), (72, .aload_n 0), (73, .aload_n 1), (74, .getfield 56), (77, .putfield 56), (80, .aload_n 0), (81, .aload_n 1), (82, .getfield 68), (85, .putfield 68), (88, .aload_n 0), (89, .aload_n 1), (90, .getfield 30), (93, .putfield 30), (96, .aload_n 0), (97, .aload_n 1), (98, .getfield 36), (101, .putfield 36), (104, .aload_n 0), (105, .aload_n 1), (106, .getfield 43), (109, .putfield 43), (112, .aload_n 0), (113, .aload_n 1), (114, .getfield 50), (117, .putfield 50), (120, .return_)]
def mi_k45 : List (Nat × Instr) := [(0, .aload_n 0), (1, .invokespecial 1), (4, .return_)]
def mi_k46 : List (Nat × Instr) := [(0, .aload_n 0), (1, .iload_n 1), (2, .invokespecial 7), (5, .iload_n 1), (6, .iconst 3), (7, .irem), (8, .iadd), (9, .ireturn)]
def mi_k47 : List (Nat × Instr) := [(0, .aload_n 0), (1, .iload_n 1), (2, .invokespecial 11), (5, .iconst 2), (6, .imul), (7, .ireturn)]
def mi_k48 : List (Nat × Instr) := [(0, .aload_n 2), (1, .bipush 60), (3, .invokevirtual 14), (6, .pop), (7, .aload_n 0), (8, .aload_n 1), (9, .aload_n 2), (10, .iload_n 3), (11, .invokespecial 20), (14, .aload_n 0), (15, .aload_n 1), (16, .aload_n 2), (17, .iconst 2), (18, .invokevirtual 24), (21, .isub), (22, .ireturn)]
def mi_k49 : List (Nat × Instr) := [(0, .aload_n 0), (1, .invokespecial 1), (4, .aload_n 0), (5, .iload_n 1), (6, .iconst 0), (7, .invokestatic 7), (10, .newarray .int), (12, .putfield 13), (15, .return_)]
def mi_k50 : List (Nat × Instr) := [(0, .iload_n 1), (1, .ifCond .lt 15), (4, .iload_n 1), (5, .aload_n 0), (6, .getfield 19), (9, .if_icmp .ge 7), (12, .iconst 1), (13, .goto 4), (16, .iconst 0), (17, .ireturn)]
def mi_k51 : List (Nat × Instr) := [(0, .iload_n 1), (1, .ifCond .lt 29), (4, .iload_n 2), (5, .ifCond .lt 25), (8, .iload_n 2), (9, .aload_n 0), (10, .getfield 19), (13, .if_icmp .gt 17), (16, .iload_n 1), (17, .aload_n 0), (18, .getfield 19), (21, .iload_n 2), (22, .isub), (23, .if_icmp .gt 7), (26, .iconst 1), (27, .goto 4), (30, .iconst 0), (31, .ireturn)]
def mi_k52 : List (Nat × Instr) := [(0, .iload_n 1), (1, .ifCond .lt 20), (4, .iload_n 1), (5, .aload_n 0), (6, .getfield 19), (9, .if_icmp .ge 12), (12, .aload_n 0), (13, .getfield 13), (16, .iload_n 1), (17, .iaload), (18, .goto 4), (21, .iconst 0), (22, .ireturn)]
def mi_k53 : List (Nat × Instr) := [(0, .aload_n 0), (1, .iload_n 1), (2, .invokevirtual 23), (5, .ifCond .eq 10), (8, .aload_n 0), (9, .getfield 13), (12, .iload_n 1), (13, .iload_n 2), (14, .iastore), (15, .return_)]
def mi_k54 : List (Nat × Instr) := [(0, .aload_n 0), (1, .getfield 19), (4, .aload_n 0), (5, .getfield 13), (8, .arraylength), (9, .if_icmp .lt 5), (12, .iconst 0), (13, .ireturn), (14, .aload_n 0), (15, .getfield 13), (18, .aload_n 0), (19, .getfield 19), (22, .iload_n 1), (23, .iastore), (24, .aload_n 0), (25, .dup), (26, .getfield 19), (29, .iconst 1), (30, .iadd), (31, .putfield 19), (34, .iconst 1), (35, .ireturn)]
def mi_k55 : List (Nat × Instr) := [(0, .aload_n 0), (1, .getfield 19), (4, .ifCond .le 17), (7, .aload_n 0), (8, .getfield 13), (11, .aload_n 0), (12, .getfield 19), (15, .iconst 1), (16, .isub), (17, .iaload), (18, .goto 4), (21, .iconst 0), (22, .ireturn)]
def mi_k56 : List (Nat × Instr) := [(0, .aload_n 0), (1, .getfield 19), (4, .ifCond .ne 5), (7, .iconst 0), (8, .ireturn), (9, .aload_n 0), (10, .dup), (11, .getfield 19), (14, .iconst 1), (15, .isub), (16, .putfield 19), (19, .aload_n 0), (20, .getfield 13), (23, .aload_n 0), (24, .getfield 19), (27, .iaload), (28, .ireturn)]
def mi_k57 : List (Nat × Instr) := [(0, .aload_n 0), (1, .iconst 0), (2, .putfield 19), (5, .return_)]
def mi_k58 : List (Nat × Instr) := [(0, .aload_n 0), (1, .iconst 0), (2, .iload_n 1), (3, .aload_n 0), (4, .getfield 13), (7, .arraylength), (8, .invokestatic 27), (11, .invokestatic 7), (14, .putfield 19), (17, .iconst 0), (18, .istore_n 2), (19, .iload_n 2), (20, .aload_n 0), (21, .getfield 19), (24, .if_icmp .ge 16), (27, .aload_n 0), (28, .getfield 13), (31, .iload_n 2), (32, .iconst 0), (33, .iastore), (34, .iinc 2 1), (37, .goto (-18)), (40, .return_)]
def mi_k59 : List (Nat × Instr) := [(0, .aload_n 0), (1, .iload_n 1), (2, .iload 4), (4, .invokevirtual 30), (7, .ifCond .eq 28), (10, .aload_n 2), (11, .iload_n 3), (12, .iload 4), (14, .invokevirtual 30), (17, .ifCond .eq 18), (20, .aload_n 2), (21, .getfield 13), (24, .iload_n 3), (25, .aload_n 0), (26, .getfield 13), (29, .iload_n 1), (30, .iload 4), (32, .invokestatic 34), (35, .return_)]
def mi_k60 : List (Nat × Instr) := [(0, .aload_n 0), (1, .aload_n 1), (2, .getfield 19), (5, .aload_n 0), (6, .getfield 13), (9, .arraylength), (10, .invokestatic 27), (13, .putfield 19), (16, .aload_n 1), (17, .getfield 13), (20, .iconst 0), (21, .aload_n 0), (22, .getfield 13), (25, .iconst 0), (26, .aload_n 0), (27, .getfield 19), (30, .invokestatic 34), (33, .return_)]
def mi_k61 : List (Nat × Instr) := [(0, .aload_n 0), (1, .invokespecial 1), (4, .return_)]
def mi_k62 : List (Nat × Instr) := [(0, .aload_n 0), (1, .iload_n 1), (2, .invokespecial 7), (5, .iconst 1), (6, .iadd), (7, .ireturn)]
def mi_k63 : List (Nat × Instr) := [(0, .iconst 0), (1, .ireturn)]
def mi_k64 : List (Nat × Instr) := [(0, .aload_n 2), (1, .bipush 50), (3, .invokevirtual 11), (6, .pop), (7, .aload_n 0), (8, .aload_n 1), (9, .aload_n 2), (10, .iload_n 3), (11, .iconst 1), (12, .iadd), (13, .invokespecial 17), (16, .ireturn)]
def mi_k65 : List (Nat × Instr) := [(0, .aload_n 0), (1, .invokespecial 3), (4, .aload_n 0), (5, .iload_n 1), (6, .putfield 9), (9, .aload_n 0), (10, .iload_n 2), (11, .putfield 15), (14, .aload_n 0), (15, .new 18), (18, .dup), (19, .bipush 50), (21, .invokespecial 20), (24, .putfield 23), (27, .aload_n 0), (28, .new 18), (31, .dup), (32, .bipush 50), (34, .invokespecial 20), (37, .putfield 27), (40, .aload_n 0), (41, .new 18), (44, .dup), (45, .bipush 50), (47, .invokespecial 20), (50, .putfield 30), (53, .aload_n 0), (54, .ldc 33), (56, .putfield 35), (59, .aload_n 0), (60, .getfield 23), (63, .iconst (-1)), (64, .invokevirtual 39), (67, .pop), (68, .return_)]
def mi_k66 : List (Nat × Instr) := [(0, .aload_n 0), (1, .getfield 23), (4, .aload_n 1), (5, .getfield 23), (8, .invokevirtual 43), (11, .return_)]
def mi_k67 : List (Nat × Instr) := [(0, .aload_n 0), (1, .getfield 27), (4, .invokevirtual 47), (7, .iconst 0), (8, .istore 4), (10, .iload 4), (12, .aload_n 0), (13, .getfield 23), (16, .getfield 50), (19, .if_icmp .ge 147), (22, .aload_n 0), (23, .getfield 23), (26, .iload 4), (28, .invokevirtual 53), (31, .istore 5), (33, .iload 5), (35, .ifCond .lt 16), (38, .aload_n 0), (39, .getfield 27), (42, .iload 5), (44, .invokevirtual 39), (47, .pop), (48, .goto 112), (51, .iload 5), (53, .bipush (-3)), (55, .if_icmp .lt 36), (58, .aload_n 0), (59, .getfield 27), (62, .iload 5), (64, .iconst (-1)), (65, .if_icmp .ne 7), (68, .iload_n 1), (69, .goto 15), (72, .iload 5), (74, .bipush (-3)), (76, .if_icmp .ne 7), (79, .iload_n 3), (80, .goto 4), (83, .iload_n 2), (84, .invokevirtual 39), (87, .pop), (88, .goto 72), (91, .iload 5), (93, .bipush (-33)), (95, .if_icmp .ne 29), (98, .aload_n 0), (99, .getfield 27), (102, .aload_n 0), (103, .getfield 27), (106, .invokevirtual 57), (109, .ifCond .ne 7), (112, .iconst 1), (113, .goto 4), (116, .iconst 0), (117, .invokevirtual 39), (120, .pop), (121, .goto 39), (124, .aload_n 0), (125, .getfield 27), (128, .invokevirtual 57), (131, .istore 6), (133, .aload_n 0), (134, .getfield 27), (137, .invokevirtual 57), (140, .istore 7), (142, .aload_n 0), (143, .getfield 27), (146, .iload 5), (148, .ineg), (149, .iload 7), (151, .iload 6), (153, .invokestatic 61), (156, .invokevirtual 39), (159, .pop), (160, .iinc 4 1), (163, .goto (-153)), (166, .aload_n 0), (167, .getfield 9), (170, .aload_n 0), (171, .getfield 15), (174, .aload_n 0), (175, .getfield 27), (178, .invokevirtual 65), (181, .invokestatic 68), (184, .invokestatic 74), (187, .ireturn)]
def mi_k68 : List (Nat × Instr) := [(0, .iload_n 0), (1, .lookupswitch 188 #[(37, 176), (38, 105), (42, 160), (43, 152), (45, 156), (47, 164), (60, 119), (61, 130), (62, 141), (124, 91)]), (92, .iload_n 1), (93, .ifCond .ne 7), (96, .iload_n 2), (97, .ifCond .eq 7), (100, .iconst 1), (101, .goto 4), (104, .iconst 0), (105, .ireturn), (106, .iload_n 1), (107, .ifCond .eq 11), (110, .iload_n 2), (111, .ifCond .eq 7), (114, .iconst 1), (115, .goto 4), (118, .iconst 0), (119, .ireturn), (120, .iload_n 1), (121, .iload_n 2), (122, .if_icmp .ge 7), (125, .iconst 1), (126, .goto 4), (129, .iconst 0), (130, .ireturn), (131, .iload_n 1), (132, .iload_n 2), (133, .if_icmp .ne 7), (136, .iconst 1), (137, .goto 4), (140, .iconst 0), (141, .ireturn), (142, .iload_n 1), (143, .iload_n 2), (144, .if_icmp .le 7), (147, .iconst 1), (148, .goto 4), (151, .iconst 0), (152, .ireturn), (153, .iload_n 1), (154, .iload_n 2), (155, .iadd), (156, .ireturn), (157, .iload_n 1), (158, .iload_n 2), (159, .isub), (160, .ireturn), (161, .iload_n 1), (162, .iload_n 2), (163, .imul), (164, .ireturn), (165, .iload_n 2), (166, .ifCond .ne 7), (169, .iconst 0), (170, .goto 6), (173, .iload_n 1), (174, .iload_n 2), (175, .idiv), (176, .ireturn), (177, .iload_n 2), (178, .ifCond .ne 7), (181, .iconst 0), (182, .goto 6), (185, .iload_n 1), (186, .iload_n 2), (187, .irem), (188, .ireturn), (189, .iconst 0), (190, .ireturn)]
def mi_k69 : List (Nat × Instr) := [(0, .aload_n 0), (1, .aload_n 2), (2, .putfield 35), (5, .aload_n 0), (6, .getfield 23), (9, .invokevirtual 47), (12, .aload_n 0), (13, .getfield 30), (16, .invokevirtual 47), (19, .aload_n 0), (20, .iconst 0), (21, .putfield 77), (24, .aload_n 0), (25, .iconst 0), (26, .putfield 80), (29, .aload_n 0), (30, .iconst 1), (31, .putfield 83), (34, .iconst 0), (35, .istore_n 3), (36, .iload_n 3), (37, .aload_n 1), (38, .getfield 50), (41, .if_icmp .ge 46), (44, .aload_n 1), (45, .iload_n 3), (46, .invokevirtual 53), (49, .istore 4), (51, .aload_n 0), (52, .getfield 83), (55, .ifCond .eq 15), (58, .aload_n 0), (59, .iload 4), (61, .invokevirtual 87), (64, .ifCond .eq 15), (67, .goto 14), (70, .aload_n 0), (71, .iload 4), (73, .invokevirtual 90), (76, .ifCond .ne 5), (79, .iload_n 3), (80, .ireturn), (81, .iinc 3 1), (84, .goto (-48)), (87, .aload_n 0), (88, .getfield 83), (91, .ifCond .eq 8), (94, .aload_n 1), (95, .getfield 50), (98, .ireturn), (99, .aload_n 0), (100, .iconst 1), (101, .invokevirtual 93), (104, .aload_n 0), (105, .getfield 30), (108, .getfield 50), (111, .ifCond .ne 7), (114, .iconst (-1)), (115, .goto 7), (118, .aload_n 1), (119, .getfield 50), (122, .ireturn)]
def mi_k70 : List (Nat × Instr) := [(0, .iload_n 1), (1, .bipush 33), (3, .if_icmp .eq 9), (6, .iload_n 1), (7, .bipush 40), (9, .if_icmp .ne 38), (12, .aload_n 0), (13, .dup), (14, .getfield 77), (17, .iconst 1), (18, .iadd), (19, .putfield 77), (22, .aload_n 0), (23, .getfield 77), (26, .iconst 5), (27, .if_icmp .gt 18), (30, .aload_n 0), (31, .getfield 30), (34, .iload_n 1), (35, .invokevirtual 39), (38, .ifCond .eq 7), (41, .iconst 1), (42, .goto 4), (45, .iconst 0), (46, .ireturn), (47, .aload_n 0), (48, .getfield 35), (51, .iload_n 1), (52, .i2c), (53, .invokevirtual 96), (56, .istore_n 2), (57, .iload_n 1), (58, .invokestatic 101), (61, .ifCond .eq 23), (64, .aload_n 0), (65, .getfield 23), (68, .iload_n 1), (69, .bipush 48), (71, .isub), (72, .invokevirtual 39), (75, .pop), (76, .aload_n 0), (77, .iconst 1), (78, .putfield 80), (81, .goto 28), (84, .iload_n 2), (85, .ifCond .lt 22), (88, .aload_n 0), (89, .getfield 23), (92, .iconst (-1)), (93, .iload_n 2), (94, .isub), (95, .invokevirtual 39), (98, .pop), (99, .aload_n 0), (100, .iconst 0), (101, .putfield 80), (104, .goto 5), (107, .iconst 0), (108, .ireturn), (109, .aload_n 0), (110, .iconst 0), (111, .putfield 83), (114, .iconst 1), (115, .ireturn)]
def mi_k71 : List (Nat × Instr) := [(0, .iload_n 1), (1, .invokestatic 101), (4, .ifCond .eq 12), (7, .aload_n 0), (8, .iload_n 1), (9, .bipush 48), (11, .isub), (12, .invokevirtual 104), (15, .ireturn), (16, .iload_n 1), (17, .bipush 41), (19, .if_icmp .ne 8), (22, .aload_n 0), (23, .invokevirtual 107), (26, .ireturn), (27, .iload_n 1), (28, .invokestatic 111), (31, .istore_n 2), (32, .iload_n 2), (33, .iconst 1), (34, .if_icmp .lt 8), (37, .iload_n 2), (38, .iconst 5), (39, .if_icmp .le 5), (42, .iconst 0), (43, .ireturn), (44, .aload_n 0), (45, .iload_n 2), (46, .iconst 3), (47, .if_icmp .ne 9), (50, .iload_n 2), (51, .iconst 1), (52, .iadd), (53, .goto 4), (56, .iload_n 2), (57, .invokevirtual 93), (60, .iload_n 2), (61, .iconst 3), (62, .if_icmp .ne 19), (65, .aload_n 0), (66, .getfield 30), (69, .invokevirtual 65), (72, .invokestatic 111), (75, .iconst 3), (76, .if_icmp .ne 5), (79, .iconst 0), (80, .ireturn), (81, .aload_n 0), (82, .iconst 1), (83, .putfield 83), (86, .aload_n 0), (87, .getfield 30), (90, .iload_n 1), (91, .invokevirtual 39), (94, .ireturn)]
def mi_k72 : List (Nat × Instr) := [(0, .aload_n 0), (1, .getfield 80), (4, .iconst 1), (5, .if_icmp .lt 11), (8, .aload_n 0), (9, .getfield 80), (12, .iconst 4), (13, .if_icmp .lt 5), (16, .iconst 0), (17, .ireturn), (18, .aload_n 0), (19, .getfield 23), (22, .aload_n 0), (23, .getfield 23), (26, .getfield 50), (29, .iconst 1), (30, .isub), (31, .aload_n 0), (32, .getfield 23), (35, .invokevirtual 65), (38, .bipush 10), (40, .imul), (41, .iload_n 1), (42, .iadd), (43, .invokevirtual 114), (46, .aload_n 0), (47, .dup), (48, .getfield 80), (51, .iconst 1), (52, .iadd), (53, .putfield 80), (56, .iconst 1), (57, .ireturn)]
def mi_k73 : List (Nat × Instr) := [(0, .aload_n 0), (1, .iconst 1), (2, .invokevirtual 93), (5, .aload_n 0), (6, .getfield 30), (9, .invokevirtual 65), (12, .bipush 40), (14, .if_icmp .eq 5), (17, .iconst 0), (18, .ireturn), (19, .aload_n 0), (20, .getfield 30), (23, .invokevirtual 57), (26, .pop), (27, .aload_n 0), (28, .dup), (29, .getfield 77), (32, .iconst 1), (33, .isub), (34, .putfield 77), (37, .aload_n 0), (38, .iconst 0), (39, .putfield 80), (42, .iconst 1), (43, .ireturn)]
def mi_k74 : List (Nat × Instr) := [(0, .aload_n 0), (1, .getfield 30), (4, .getfield 50), (7, .istore_n 2), (8, .iload_n 2), (9, .ifCond .le 57), (12, .aload_n 0), (13, .getfield 30), (16, .invokevirtual 65), (19, .invokestatic 111), (22, .iload_n 1), (23, .if_icmp .lt 43), (26, .aload_n 0), (27, .getfield 30), (30, .invokevirtual 57), (33, .istore_n 3), (34, .iload_n 3), (35, .bipush 33), (37, .if_icmp .ne 13), (40, .aload_n 0), (41, .dup), (42, .getfield 77), (45, .iconst 1), (46, .isub), (47, .putfield 77), (50, .aload_n 0), (51, .getfield 23), (54, .iload_n 3), (55, .ineg), (56, .invokevirtual 39), (59, .pop), (60, .iinc 2 (-1)), (63, .goto (-55)), (66, .return_)]
def mi_k75 : List (Nat × Instr) := [(0, .iload_n 0), (1, .bipush 48), (3, .if_icmp .lt 13), (6, .iload_n 0), (7, .bipush 57), (9, .if_icmp .gt 7), (12, .iconst 1), (13, .goto 4), (16, .iconst 0), (17, .ireturn)]
def mi_k76 : List (Nat × Instr) := [(0, .iload_n 0), (1, .lookupswitch 112 #[(33, 109), (37, 107), (38, 101), (42, 107), (43, 105), (45, 105), (47, 107), (60, 103), (61, 103), (62, 103), (124, 99)]), (100, .iconst 1), (101, .ireturn), (102, .iconst 2), (103, .ireturn), (104, .iconst 3), (105, .ireturn), (106, .iconst 4), (107, .ireturn), (108, .iconst 5), (109, .ireturn), (110, .bipush 6), (112, .ireturn), (113, .iconst 0), (114, .ireturn)]
def mi_k77 : List (Nat × Instr) := [(0, .aload_n 0), (1, .invokespecial 1), (4, .return_)]
def mi_k78 : List (Nat × Instr) := [(0, .iconst 1), (1, .ireturn)]
def mi_k79 : List (Nat × Instr) := [(0, .iload_n 1), (1, .ireturn)]
def mi_k80 : List (Nat × Instr) := [(0, .iconst 1), (1, .ireturn)]
def mi_k81 : List (Nat × Instr) := [(0, .iconst 1), (1, .ireturn)]
def mi_k82 : List (Nat × Instr) := [(0, .aload_n 2), (1, .bipush 10), (3, .invokevirtual 7), (6, .pop), (7, .iload_n 3), (8, .aload_n 1), (9, .getfield 13), (12, .iadd), (13, .ireturn)]
def mi_k83 : List (Nat × Instr) := [(0, .aload_n 2), (1, .bipush 11), (3, .invokevirtual 7), (6, .pop), (7, .aload_n 0), (8, .aload_n 1), (9, .aload_n 2), (10, .iload_n 3), (11, .invokevirtual 19), (14, .iconst 2), (15, .imul), (16, .ireturn)]
def mi_k84 : List (Nat × Instr) := [(0, .aload_n 2), (1, .bipush 12), (3, .invokevirtual 7), (6, .pop), (7, .iload_n 3), (8, .aload_n 1), (9, .getfield 25), (12, .isub), (13, .ireturn)]
def mi_k85 : List (Nat × Instr) := [(0, .aload_n 2), (1, .bipush 13), (3, .invokevirtual 7), (6, .pop), (7, .aload_n 0), (8, .aload_n 1), (9, .aload_n 2), (10, .iload_n 3), (11, .invokevirtual 28), (14, .aload_n 0), (15, .aload_n 1), (16, .aload_n 2), (17, .iload_n 3), (18, .invokevirtual 31), (21, .ixor), (22, .ireturn)]
def mi_k86 : List (Nat × Instr) := [(0, .aload_n 0), (1, .invokespecial 1), (4, .return_)]
def mi_k87 : List (Nat × Instr) := [(0, .aload_n 0), (1, .iload_n 1), (2, .invokespecial 7), (5, .bipush 9), (7, .iadd), (8, .ireturn)]
def mi_k88 : List (Nat × Instr) := [(0, .iload_n 1), (1, .iconst 2), (2, .irem), (3, .ifCond .eq 7), (6, .iconst 1), (7, .goto 4), (10, .iconst 0), (11, .ireturn)]
def mi_k89 : List (Nat × Instr) := [(0, .aload_n 2), (1, .bipush 40), (3, .invokevirtual 11), (6, .pop), (7, .aload_n 0), (8, .aload_n 1), (9, .aload_n 2), (10, .iload_n 3), (11, .invokespecial 17), (14, .ineg), (15, .ireturn)]
def mi_k90 : List (Nat × Instr) := [(0, .aload_n 0), (1, .invokespecial 3), (4, .aload_n 0), (5, .bipush 7), (7, .anewarray 9), (10, .dup), (11, .iconst 0), (12, .new 9), (15, .dup), (16, .invokespecial 11), (19, .aastore), (20, .dup), (21, .iconst 1), (22, .new 12), (25, .dup), (26, .invokespecial 14), (29, .aastore), (30, .dup), (31, .iconst 2), (32, .new 15), (35, .dup), (36, .invokespecial 17), (39, .aastore), (40, .dup), (41, .iconst 3), (42, .new 18), (45, .dup), (46, .invokespecial 20), (49, .aastore), (50, .dup), (51, .iconst 4), (52, .new 21), (55, .dup), (56, .invokespecial 23), (59, .aastore), (60, .dup), (61, .iconst 5), (62, .new 24), (65, .dup), (66, .invokespecial 26), (69, .aastore), (70, .dup), (71, .bipush 6), (73, .new 27), (76, .dup), (77, .invokespecial 29), (80, .aastore), (81, .putfield 30), (84, .aload_n 0), (85, .new 34), (88, .dup), (89, .invokespecial 36), (92, .putfield 37), (95, .aload_n 0), (96, .new 34), (99, .dup), (100, .invokespecial 36), (103, .putfield 41), (106, .aload_n 0), (107, .new 34), (110, .dup), (111, .invokespecial 36), (114, .putfield 44), (117, .aload_n 0), (118, .new 47), (121, .dup), (122, .ldc 49), (124, .ldc 50), (126, .invokespecial 51), (129, .putfield 54), (132, .aload_n 0), (133, .new 58), (136, .dup), (137, .bipush 40), (139, .invokespecial 60), (142, .putfield 63), (145, .aload_n 0), (146, .iconst 4), (147, .anewarray 58), (150, .putfield 67), (153, .iconst 0), (154, .istore_n 1), (155, .iload_n 1), (156, .iconst 4), (157, .if_icmp .ge 24), (160, .aload_n 0), (161, .getfield 67), (164, .iload_n 1), (165, .new 58), (168, .dup), (169, .bipush 40), (171, .invokespecial 60), (174, .aastore), (175, .iinc 1 1), (178, .goto (-23)), (181, .aload_n 0), (182, .iconst 4), (183, .newarray .int), (185, .putfield 71), (188, .aload_n 0), (189, .bipush 6), (191, .newarray .int), (193, .putfield 75), (196, .return_)]
def mi_k91 : List (Nat × Instr) := [(0, .aload_n 0), (1, .getfield 37), (4, .iload_n 1), (5, .iload_n 2), (6, .invokevirtual 78), (9, .istore_n 3), (10, .iload_n 3), (11, .ifCond .eq 9), (14, .aload_n 0), (15, .iload_n 3), (16, .invokevirtual 82), (19, .ireturn), (20, .aload_n 0), (21, .getfield 37), (24, .getfield 86), (27, .iload_n 1), (28, .iaload), (29, .istore 4), (31, .aload_n 0), (32, .getfield 37), (35, .getfield 86), (38, .iload_n 1), (39, .iload_n 2), (40, .iastore), (41, .iload 4), (43, .ireturn)]
def mi_k92 : List (Nat × Instr) := [(0, .iload_n 1), (1, .invokestatic 89), (4, .ifCond .eq 12), (7, .iload_n 2), (8, .ifCond .lt 8), (11, .iload_n 2), (12, .iconst 2), (13, .if_icmp .le 10), (16, .aload_n 0), (17, .ldc 93), (19, .invokevirtual 82), (22, .ireturn), (23, .iload_n 2), (24, .ifCond .ne 13), (27, .aload_n 0), (28, .getfield 37), (31, .getfield 86), (34, .iload_n 1), (35, .iaload), (36, .ireturn), (37, .iload_n 2), (38, .iconst 1), (39, .if_icmp .ne 14), (42, .aload_n 0), (43, .getfield 37), (46, .iload_n 1), (47, .invokevirtual 94), (50, .goto 11), (53, .aload_n 0), (54, .getfield 37), (57, .iload_n 1), (58, .invokevirtual 97), (61, .ireturn)]
def mi_k93 : List (Nat × Instr) := [(0, .iload_n 1), (1, .invokestatic 100), (4, .ifCond .eq 30), (7, .iload_n 2), (8, .invokestatic 89), (11, .ifCond .eq 23), (14, .iload_n 3), (15, .invokestatic 89), (18, .ifCond .eq 16), (21, .iload_n 2), (22, .iload_n 3), (23, .if_icmp .eq 11), (26, .iload 4), (28, .invokestatic 103), (31, .ifCond .ne 10), (34, .aload_n 0), (35, .ldc 93), (37, .invokevirtual 82), (40, .ireturn), (41, .aload_n 0), (42, .getfield 37), (45, .getfield 106), (48, .bipush 8), (50, .if_icmp .lt 10), (53, .aload_n 0), (54, .ldc 110), (56, .invokevirtual 82), (59, .ireturn), (60, .aload_n 0), (61, .getfield 37), (64, .getfield 106), (67, .istore 5), (69, .aload_n 0), (70, .getfield 37), (73, .getfield 111), (76, .iload 5), (78, .aaload), (79, .astore 6), (81, .aload 6), (83, .aload_n 0), (84, .getfield 30), (87, .iload_n 1), (88, .bipush 10), (90, .idiv), (91, .aaload), (92, .iload_n 1), (93, .bipush 10), (95, .idiv), (96, .iload_n 1), (97, .bipush 10), (99, .irem), (100, .invokevirtual 115), (103, .aload 6), (105, .iload_n 2), (106, .putfield 121), (109, .aload 6), (111, .iload_n 3), (112, .putfield 124), (115, .aload 6), (117, .iload 4), (119, .putfield 127), (122, .aload 6), (124, .invokevirtual 130), (127, .aload_n 0), (128, .getfield 37), (131, .dup), (132, .getfield 106), (135, .iconst 1), (136, .iadd), (137, .putfield 106), (140, .iload 5), (142, .ireturn)]
def mi_k94 : List (Nat × Instr) := [(0, .aload_n 0), (1, .iload_n 1), (2, .invokevirtual 133), (5, .ifCond .eq 13), (8, .iload_n 2), (9, .ifCond .lt 9), (12, .iload_n 2), (13, .bipush 14), (15, .if_icmp .le 10), (18, .aload_n 0), (19, .ldc 93), (21, .invokevirtual 82), (24, .ireturn), (25, .iload_n 2), (26, .bipush 12), (28, .if_icmp .ne 22), (31, .aload_n 0), (32, .getfield 37), (35, .aload_n 0), (36, .getfield 37), (39, .getfield 111), (42, .iload_n 1), (43, .aaload), (44, .invokevirtual 136), (47, .goto 16), (50, .aload_n 0), (51, .getfield 37), (54, .getfield 111), (57, .iload_n 1), (58, .aaload), (59, .iload_n 2), (60, .invokevirtual 140), (63, .ireturn)]
def mi_k95 : List (Nat × Instr) := [(0, .aload_n 0), (1, .iload_n 1), (2, .invokevirtual 133), (5, .ifCond .eq 10), (8, .iload_n 2), (9, .invokestatic 100), (12, .ifCond .ne 10), (15, .aload_n 0), (16, .ldc 93), (18, .invokevirtual 82), (21, .ireturn), (22, .aload_n 0), (23, .getfield 37), (26, .getfield 111), (29, .iload_n 1), (30, .aaload), (31, .getfield 143), (34, .istore_n 3), (35, .aload_n 0), (36, .getfield 37), (39, .getfield 111), (42, .iload_n 1), (43, .aaload), (44, .aload_n 0), (45, .getfield 30), (48, .iload_n 2), (49, .bipush 10), (51, .idiv), (52, .aaload), (53, .iload_n 2), (54, .bipush 10), (56, .idiv), (57, .iload_n 2), (58, .bipush 10), (60, .irem), (61, .invokevirtual 115), (64, .iload_n 3), (65, .ireturn)]
def mi_k96 : List (Nat × Instr) := [(0, .aload_n 0), (1, .iload_n 1), (2, .invokevirtual 133), (5, .ifCond .eq 13), (8, .iload_n 2), (9, .ifCond .lt 9), (12, .iload_n 2), (13, .bipush 7), (15, .if_icmp .lt 10), (18, .aload_n 0), (19, .ldc 93), (21, .invokevirtual 82), (24, .ireturn), (25, .aload_n 0), (26, .getfield 37), (29, .getfield 111), (32, .iload_n 1), (33, .aaload), (34, .getfield 143), (37, .iload_n 2), (38, .invokestatic 146), (41, .ifCond .eq 18), (44, .aload_n 0), (45, .getfield 37), (48, .getfield 111), (51, .iload_n 1), (52, .aaload), (53, .getfield 150), (56, .goto 9), (59, .aload_n 0), (60, .ldc 153), (62, .invokevirtual 82), (65, .ireturn)]
def mi_k97 : List (Nat × Instr) := [(0, .aload_n 0), (1, .iload_n 1), (2, .invokevirtual 133), (5, .ifCond .eq 10), (8, .iload_n 2), (9, .invokestatic 103), (12, .ifCond .ne 10), (15, .aload_n 0), (16, .ldc 93), (18, .invokevirtual 82), (21, .ireturn), (22, .aload_n 0), (23, .getfield 37), (26, .getfield 111), (29, .iload_n 1), (30, .aaload), (31, .astore_n 3), (32, .aload_n 3), (33, .getfield 154), (36, .ifCond .eq 10), (39, .aload_n 0), (40, .ldc 157), (42, .invokevirtual 82), (45, .ireturn), (46, .aload_n 3), (47, .getfield 127), (50, .istore 4), (52, .aload_n 3), (53, .iload_n 2), (54, .putfield 127), (57, .iload 4), (59, .ireturn)]
def mi_k98 : List (Nat × Instr) := [(0, .aload_n 0), (1, .iload_n 1), (2, .invokevirtual 133), (5, .ifCond .ne 10), (8, .aload_n 0), (9, .ldc 93), (11, .invokevirtual 82), (14, .ireturn), (15, .aload_n 0), (16, .getfield 37), (19, .getfield 111), (22, .iload_n 1), (23, .aaload), (24, .getfield 154), (27, .istore_n 2), (28, .aload_n 0), (29, .getfield 37), (32, .getfield 111), (35, .iload_n 1), (36, .aaload), (37, .invokevirtual 130), (40, .iload_n 2), (41, .ireturn)]
def mi_k99 : List (Nat × Instr) := [(0, .iload_n 3), (1, .iconst 1), (2, .if_icmp .lt 9), (5, .iload_n 3), (6, .bipush 8), (8, .if_icmp .le 10), (11, .aload_n 0), (12, .ldc 93), (14, .invokevirtual 82), (17, .ireturn), (18, .aload_n 0), (19, .getfield 37), (22, .getfield 158), (25, .getfield 161), (28, .iload_n 3), (29, .iadd), (30, .bipush 50), (32, .if_icmp .le 10), (35, .aload_n 0), (36, .ldc 110), (38, .invokevirtual 82), (41, .ireturn), (42, .iconst 0), (43, .istore 4), (45, .iload 4), (47, .iload_n 3), (48, .if_icmp .ge 32), (51, .aload_n 0), (52, .getfield 37), (55, .getfield 158), (58, .lload_n 1), (59, .bipush 8), (61, .iload 4), (63, .imul), (64, .lushr), (65, .ldc2_w 164), (68, .land), (69, .l2i), (70, .invokevirtual 166), (73, .pop), (74, .iinc 4 1), (77, .goto (-32)), (80, .aload_n 0), (81, .getfield 37), (84, .getfield 158), (87, .getfield 161), (90, .ireturn)]
def mi_k100 : List (Nat × Instr) := [(0, .iload_n 1), (1, .invokestatic 169), (4, .ifCond .ne 10), (7, .aload_n 0), (8, .ldc 93), (10, .invokevirtual 82), (13, .ireturn), (14, .aload_n 0), (15, .getfield 54), (18, .aload_n 0), (19, .getfield 37), (22, .getfield 158), (25, .iload_n 1), (26, .ifCond .ne 8), (29, .ldc 172), (31, .goto 5), (34, .ldc 174), (36, .invokevirtual 176), (39, .istore_n 2), (40, .aload_n 0), (41, .getfield 37), (44, .getfield 158), (47, .invokevirtual 180), (50, .iload_n 2), (51, .ifCond .lt 8), (54, .bipush (-10)), (56, .iload_n 2), (57, .isub), (58, .ireturn), (59, .aload_n 0), (60, .getfield 37), (63, .getfield 183), (66, .iload_n 1), (67, .aaload), (68, .aload_n 0), (69, .getfield 54), (72, .invokevirtual 187), (75, .iconst 1), (76, .ireturn)]
def mi_k101 : List (Nat × Instr) := [(0, .iload_n 1), (1, .invokestatic 169), (4, .ifCond .eq 22), (7, .aload_n 0), (8, .getfield 37), (11, .getfield 183), (14, .iload_n 1), (15, .aaload), (16, .iload_n 2), (17, .iload_n 3), (18, .iload 4), (20, .invokevirtual 191), (23, .goto 9), (26, .aload_n 0), (27, .ldc 93), (29, .invokevirtual 82), (32, .ireturn)]
def mi_k102 : List (Nat × Instr) := [(0, .aload_n 0), (1, .iload_n 1), (2, .invokevirtual 195), (5, .istore_n 2), (6, .iload_n 2), (7, .ifCond .eq 9), (10, .aload_n 0), (11, .iload_n 2), (12, .invokevirtual 82), (15, .ireturn), (16, .iconst 0), (17, .istore_n 3), (18, .iload_n 3), (19, .iload_n 1), (20, .if_icmp .ge 18), (23, .aload_n 0), (24, .getfield 37), (27, .iconst 0), (28, .invokevirtual 198), (31, .pop), (32, .iinc 3 1), (35, .goto (-17)), (38, .aload_n 0), (39, .getfield 37), (42, .iconst 2), (43, .invokevirtual 202), (46, .ireturn)]
def mi_k103 : List (Nat × Instr) := [(0, .aload_n 0), (1, .iload_n 1), (2, .invokevirtual 195), (5, .istore_n 2), (6, .iload_n 2), (7, .ifCond .eq 9), (10, .aload_n 0), (11, .iload_n 2), (12, .invokevirtual 82), (15, .ireturn), (16, .iconst 0), (17, .istore_n 3), (18, .iload_n 3), (19, .iload_n 1), (20, .if_icmp .ge 34), (23, .aload_n 0), (24, .getfield 37), (27, .aload_n 0), (28, .getfield 37), (31, .invokevirtual 205), (34, .iconst 4), (35, .irem), (36, .ifCond .ne 7), (39, .iconst 1), (40, .goto 4), (43, .iconst 0), (44, .invokevirtual 198), (47, .pop), (48, .iinc 3 1), (51, .goto (-33)), (54, .aload_n 0), (55, .getfield 37), (58, .iconst 2), (59, .invokevirtual 202), (62, .ireturn)]
def mi_k104 : List (Nat × Instr) := [(0, .iload_n 1), (1, .ifCond .lt 29), (4, .iload_n 1), (5, .sipush 300), (8, .if_icmp .gt 22), (11, .aload_n 0), (12, .iload_n 2), (13, .invokevirtual 133), (16, .ifCond .eq 14), (19, .iload_n 3), (20, .iconst 5), (21, .if_icmp .lt 9), (24, .iload_n 3), (25, .bipush 9), (27, .if_icmp .le 10), (30, .aload_n 0), (31, .ldc 93), (33, .invokevirtual 82), (36, .ireturn), (37, .aload_n 0), (38, .getfield 41), (41, .aload_n 0), (42, .getfield 37), (45, .invokevirtual 209), (48, .iconst 0), (49, .istore 4), (51, .iload 4), (53, .iload_n 1), (54, .if_icmp .ge 18), (57, .aload_n 0), (58, .getfield 41), (61, .iconst 0), (62, .invokevirtual 198), (65, .pop), (66, .iinc 4 1), (69, .goto (-18)), (72, .aload_n 0), (73, .getfield 41), (76, .getfield 111), (79, .iload_n 2), (80, .aaload), (81, .iload_n 3), (82, .invokevirtual 140), (85, .ireturn)]
def mi_k105 : List (Nat × Instr) := [(0, .aload_n 0), (1, .getfield 41), (4, .aload_n 0), (5, .getfield 37), (8, .invokevirtual 209), (11, .aload_n 0), (12, .aload_n 0), (13, .getfield 41), (16, .invokevirtual 212), (19, .invokevirtual 215), (22, .ireturn)]
def mi_k106 : List (Nat × Instr) := [(0, .aload_n 0), (1, .getfield 41), (4, .aload_n 0), (5, .getfield 37), (8, .invokevirtual 209), (11, .aload_n 0), (12, .aload_n 0), (13, .getfield 41), (16, .invokevirtual 218), (19, .invokevirtual 215), (22, .ireturn)]
def mi_k107 : List (Nat × Instr) := [(0, .aload_n 0), (1, .iload_n 1), (2, .invokevirtual 133), (5, .ifCond .eq 12), (8, .iload_n 2), (9, .ifCond .lt 8), (12, .iload_n 2), (13, .iconst 2), (14, .if_icmp .le 10), (17, .aload_n 0), (18, .ldc 93), (20, .invokevirtual 82), (23, .ireturn), (24, .aload_n 0), (25, .getfield 37), (28, .getfield 111), (31, .iload_n 1), (32, .aaload), (33, .getfield 154), (36, .ifCond .eq 10), (39, .aload_n 0), (40, .ldc 157), (42, .invokevirtual 82), (45, .ireturn), (46, .iconst (-1)), (47, .istore_n 3), (48, .iconst 0), (49, .istore 4), (51, .iconst 0), (52, .istore 5), (54, .aload_n 0), (55, .getfield 37), (58, .getfield 221), (61, .bipush 60), (63, .iadd), (64, .iconst 1), (65, .isub), (66, .sipush 999), (69, .invokestatic 224), (72, .istore 6), (74, .aload_n 0), (75, .getfield 37), (78, .getfield 221), (81, .istore 7), (83, .iload 7), (85, .iload 6), (87, .if_icmp .gt 106), (90, .aload_n 0), (91, .getfield 41), (94, .aload_n 0), (95, .getfield 37), (98, .invokevirtual 209), (101, .aload_n 0), (102, .getfield 41), (105, .getfield 111), (108, .iload_n 1), (109, .aaload), (110, .iload 7), (112, .putfield 127), (115, .aload_n 0), (116, .getfield 41), (119, .invokevirtual 212), (122, .istore 8), (124, .iload 8), (126, .iload 4), (128, .if_icmp .ne 19), (131, .aload_n 0), (132, .getfield 41), (135, .getfield 229), (138, .iload 5), (140, .if_icmp .ge 7), (143, .iconst 1), (144, .goto 4), (147, .iconst 0), (148, .istore 9), (150, .iload 8), (152, .ifCond .lt 35), (155, .iload_n 3), (156, .ifCond .lt 15), (159, .iload 8), (161, .iload 4), (163, .if_icmp .lt 8), (166, .iload 9), (168, .ifCond .eq 19), (171, .iload 7), (173, .istore_n 3), (174, .iload 8), (176, .istore 4), (178, .aload_n 0), (179, .getfield 41), (182, .getfield 229), (185, .istore 5), (187, .iinc 7 1), (190, .goto (-107)), (193, .iload_n 3), (194, .ifCond .ge 10), (197, .aload_n 0), (198, .ldc 232), (200, .invokevirtual 82), (203, .ireturn), (204, .iload_n 2), (205, .ifCond .ne 5), (208, .iload_n 3), (209, .ireturn), (210, .iload_n 2), (211, .iconst 1), (212, .if_icmp .ne 8), (215, .iload 4), (217, .goto 5), (220, .iload 5), (222, .ireturn)]
def mi_k108 : List (Nat × Instr) := [(0, .aload_n 0), (1, .iload_n 1), (2, .invokevirtual 133), (5, .ifCond .ne 10), (8, .aload_n 0), (9, .ldc 93), (11, .invokevirtual 82), (14, .ireturn), (15, .aload_n 0), (16, .getfield 37), (19, .getfield 111), (22, .iload_n 1), (23, .aaload), (24, .getfield 154), (27, .ifCond .eq 10), (30, .aload_n 0), (31, .ldc 157), (33, .invokevirtual 82), (36, .ireturn), (37, .aload_n 0), (38, .getfield 41), (41, .aload_n 0), (42, .getfield 37), (45, .invokevirtual 209), (48, .aload_n 0), (49, .getfield 41), (52, .invokevirtual 212), (55, .ifCond .ge 10), (58, .aload_n 0), (59, .ldc 232), (61, .invokevirtual 82), (64, .ireturn), (65, .aload_n 0), (66, .getfield 41), (69, .getfield 229), (72, .istore_n 2), (73, .aload_n 0), (74, .getfield 37), (77, .getfield 111), (80, .iload_n 1), (81, .aaload), (82, .getfield 127), (85, .istore_n 3), (86, .bipush 60), (88, .sipush 999), (91, .iload_n 3), (92, .isub), (93, .invokestatic 224), (96, .istore 4), (98, .iconst 1), (99, .istore 5), (101, .iload 5), (103, .iload 4), (105, .if_icmp .gt 62), (108, .aload_n 0), (109, .getfield 41), (112, .aload_n 0), (113, .getfield 37), (116, .invokevirtual 209), (119, .aload_n 0), (120, .getfield 41), (123, .getfield 111), (126, .iload_n 1), (127, .aaload), (128, .iload_n 3), (129, .iload 5), (131, .iadd), (132, .putfield 127), (135, .aload_n 0), (136, .getfield 41), (139, .invokevirtual 212), (142, .ifCond .lt 14), (145, .aload_n 0), (146, .getfield 41), (149, .getfield 229), (152, .iload_n 2), (153, .if_icmp .le 8), (156, .iload 5), (158, .iconst 1), (159, .isub), (160, .ireturn), (161, .iinc 5 1), (164, .goto (-63)), (167, .iload 4), (169, .ireturn)]
def mi_k109 : List (Nat × Instr) := [(0, .aload_n 0), (1, .getfield 37), (4, .iload_n 1), (5, .invokevirtual 233), (8, .istore_n 2), (9, .iload_n 2), (10, .invokestatic 89), (13, .ifCond .ne 10), (16, .aload_n 0), (17, .ldc 93), (19, .invokevirtual 82), (22, .ireturn), (23, .aload_n 0), (24, .getfield 37), (27, .iload_n 2), (28, .invokevirtual 94), (31, .iconst 1), (32, .if_icmp .le 10), (35, .aload_n 0), (36, .ldc 157), (38, .invokevirtual 82), (41, .ireturn), (42, .aload_n 0), (43, .getfield 41), (46, .aload_n 0), (47, .getfield 37), (50, .invokevirtual 209), (53, .aload_n 0), (54, .getfield 41), (57, .getfield 86), (60, .iload_n 2), (61, .iconst 1), (62, .iastore), (63, .aload_n 0), (64, .aload_n 0), (65, .getfield 41), (68, .invokevirtual 212), (71, .invokevirtual 215), (74, .ireturn)]
def mi_k110 : List (Nat × Instr) := [(0, .iload_n 1), (1, .ifCond .lt 8), (4, .iload_n 1), (5, .iconst 1), (6, .if_icmp .le 10), (9, .aload_n 0), (10, .ldc 93), (12, .invokevirtual 82), (15, .ireturn), (16, .aload_n 0), (17, .getfield 37), (20, .invokevirtual 236), (23, .bipush 9), (25, .if_icmp .lt 10), (28, .aload_n 0), (29, .ldc 110), (31, .invokevirtual 82), (34, .ireturn), (35, .iconst (-1)), (36, .istore_n 2), (37, .iconst 0), (38, .istore_n 3), (39, .iconst 0), (40, .istore 4), (42, .iload 4), (44, .bipush 24), (46, .if_icmp .ge 73), (49, .aload_n 0), (50, .getfield 37), (53, .iload 4), (55, .invokevirtual 239), (58, .ifCond .ne 55), (61, .aload_n 0), (62, .getfield 41), (65, .aload_n 0), (66, .getfield 37), (69, .invokevirtual 209), (72, .aload_n 0), (73, .getfield 41), (76, .getfield 86), (79, .iload 4), (81, .iconst 2), (82, .iastore), (83, .aload_n 0), (84, .getfield 41), (87, .invokevirtual 212), (90, .istore 5), (92, .iload 5), (94, .ifCond .lt 19), (97, .iload_n 2), (98, .ifCond .lt 9), (101, .iload 5), (103, .iload_n 3), (104, .if_icmp .ge 9), (107, .iload 4), (109, .istore_n 2), (110, .iload 5), (112, .istore_n 3), (113, .iinc 4 1), (116, .goto (-74)), (119, .iload_n 2), (120, .ifCond .ge 10), (123, .aload_n 0), (124, .ldc 232), (126, .invokevirtual 82), (129, .ireturn), (130, .iload_n 1), (131, .ifCond .ne 7), (134, .iload_n 2), (135, .goto 4), (138, .iload_n 3), (139, .ireturn)]
def mi_k111 : List (Nat × Instr) := [(0, .iconst 0), (1, .istore_n 1), (2, .iconst 0), (3, .istore_n 2), (4, .iload_n 2), (5, .aload_n 0), (6, .getfield 37), (9, .getfield 106), (12, .if_icmp .ge 30), (15, .aload_n 0), (16, .getfield 37), (19, .getfield 111), (22, .iload_n 2), (23, .aaload), (24, .getfield 242), (27, .ifCond .eq 9), (30, .iload_n 1), (31, .iconst 1), (32, .iload_n 2), (33, .ishl), (34, .ior), (35, .istore_n 1), (36, .iinc 2 1), (39, .goto (-35)), (42, .iload_n 1), (43, .ireturn)]
def mi_k112 : List (Nat × Instr) := [(0, .aload_n 0), (1, .getfield 37), (4, .getfield 246), (7, .istore_n 2), (8, .aload_n 0), (9, .getfield 37), (12, .iload_n 1), (13, .putfield 246), (16, .iload_n 2), (17, .ireturn)]
def mi_k113 : List (Nat × Instr) := [(0, .aload_n 0), (1, .iload_n 1), (2, .invokevirtual 133), (5, .ifCond .eq 12), (8, .iload_n 2), (9, .ifCond .lt 8), (12, .iload_n 2), (13, .iconst 4), (14, .if_icmp .lt 10), (17, .aload_n 0), (18, .ldc 93), (20, .invokevirtual 82), (23, .ireturn), (24, .aload_n 0), (25, .getfield 37), (28, .getfield 111), (31, .iload_n 1), (32, .aaload), (33, .astore 4), (35, .aload_n 0), (36, .getfield 30), (39, .aload 4), (41, .getfield 143), (44, .aaload), (45, .astore 5), (47, .aload_n 0), (48, .getfield 63), (51, .invokevirtual 180), (54, .iload_n 2), (55, .tableswitch 64 0 2 #[25, 38, 51]), (80, .aload 5), (82, .aload 4), (84, .aload_n 0), (85, .getfield 63), (88, .iload_n 3), (89, .invokevirtual 249), (92, .ireturn), (93, .aload 5), (95, .aload 4), (97, .aload_n 0), (98, .getfield 63), (101, .iload_n 3), (102, .invokevirtual 253), (105, .ireturn), (106, .aload 5), (108, .aload 4), (110, .aload_n 0), (111, .getfield 63), (114, .iload_n 3), (115, .invokevirtual 256), (118, .ireturn), (119, .aload 5), (121, .aload 4), (123, .aload_n 0), (124, .getfield 63), (127, .iload_n 3), (128, .invokevirtual 259), (131, .ireturn)]
def mi_k114 : List (Nat × Instr) := [(0, .aload_n 0), (1, .getfield 63), (4, .iload_n 1), (5, .invokevirtual 262), (8, .ifCond .eq 14), (11, .aload_n 0), (12, .getfield 63), (15, .iload_n 1), (16, .invokevirtual 265), (19, .goto 9), (22, .aload_n 0), (23, .ldc 232), (25, .invokevirtual 82), (28, .ireturn)]
def mi_k115 : List (Nat × Instr) := [(0, .iload_n 1), (1, .invokestatic 268), (4, .ifCond .eq 10), (7, .iload_n 2), (8, .invokestatic 271), (11, .ifCond .ne 10), (14, .aload_n 0), (15, .ldc 93), (17, .invokevirtual 82), (20, .ireturn), (21, .iload_n 2), (22, .ifCond .eq 14), (25, .iload_n 3), (26, .ifCond .ge 10), (29, .aload_n 0), (30, .ldc 157), (32, .invokevirtual 82), (35, .ireturn), (36, .iload_n 2), (37, .ifCond .eq 16), (40, .iload_n 3), (41, .bipush 40), (43, .if_icmp .le 10), (46, .aload_n 0), (47, .ldc 93), (49, .invokevirtual 82), (52, .ireturn), (53, .aload_n 0), (54, .getfield 71), (57, .iload_n 1), (58, .iload_n 2), (59, .iastore), (60, .aload_n 0), (61, .getfield 67), (64, .iload_n 1), (65, .aaload), (66, .iload_n 2), (67, .ifCond .ne 7), (70, .iconst 0), (71, .goto 4), (74, .iload_n 3), (75, .invokevirtual 274), (78, .iconst 1), (79, .ireturn)]
def mi_k116 : List (Nat × Instr) := [(0, .aload_n 0), (1, .iload_n 1), (2, .invokevirtual 277), (5, .istore 4), (7, .iload 4), (9, .ifCond .eq 10), (12, .aload_n 0), (13, .iload 4), (15, .invokevirtual 82), (18, .ireturn), (19, .aload_n 0), (20, .getfield 67), (23, .iload_n 1), (24, .aaload), (25, .iload_n 2), (26, .invokevirtual 262), (29, .ifCond .ne 10), (32, .aload_n 0), (33, .ldc 93), (35, .invokevirtual 82), (38, .ireturn), (39, .aload_n 0), (40, .getfield 67), (43, .iload_n 1), (44, .aaload), (45, .iload_n 2), (46, .iload_n 3), (47, .aload_n 0), (48, .getfield 71), (51, .iload_n 1), (52, .iaload), (53, .invokestatic 280), (56, .invokevirtual 283), (59, .iconst 1), (60, .ireturn)]
def mi_k117 : List (Nat × Instr) := [(0, .iload_n 1), (1, .invokestatic 268), (4, .ifCond .eq 10), (7, .iload_n 3), (8, .invokestatic 268), (11, .ifCond .ne 10), (14, .aload_n 0), (15, .ldc 93), (17, .invokevirtual 82), (20, .ireturn), (21, .aload_n 0), (22, .getfield 71), (25, .iload_n 1), (26, .iaload), (27, .ifCond .eq 12), (30, .aload_n 0), (31, .getfield 71), (34, .iload_n 3), (35, .iaload), (36, .ifCond .ne 10), (39, .aload_n 0), (40, .ldc 232), (42, .invokevirtual 82), (45, .ireturn), (46, .aload_n 0), (47, .getfield 71), (50, .iload_n 1), (51, .iaload), (52, .aload_n 0), (53, .getfield 71), (56, .iload_n 3), (57, .iaload), (58, .if_icmp .eq 10), (61, .aload_n 0), (62, .ldc 153), (64, .invokevirtual 82), (67, .ireturn), (68, .aload_n 0), (69, .getfield 67), (72, .iload_n 1), (73, .aaload), (74, .iload_n 2), (75, .iload 5), (77, .invokevirtual 286), (80, .ifCond .eq 19), (83, .aload_n 0), (84, .getfield 67), (87, .iload_n 3), (88, .aaload), (89, .iload 4), (91, .iload 5), (93, .invokevirtual 286), (96, .ifCond .ne 10), (99, .aload_n 0), (100, .ldc 93), (102, .invokevirtual 82), (105, .ireturn), (106, .aload_n 0), (107, .getfield 67), (110, .iload_n 3), (111, .aaload), (112, .iload 4), (114, .aload_n 0), (115, .getfield 67), (118, .iload_n 1), (119, .aaload), (120, .iload_n 2), (121, .iload 5), (123, .invokevirtual 289), (126, .iload 5), (128, .ireturn)]
def mi_k118 : List (Nat × Instr) := [(0, .aload_n 0), (1, .iload_n 1), (2, .invokevirtual 277), (5, .istore_n 2), (6, .iload_n 2), (7, .ifCond .eq 9), (10, .aload_n 0), (11, .iload_n 2), (12, .invokevirtual 82), (15, .ireturn), (16, .aload_n 0), (17, .getfield 67), (20, .iload_n 1), (21, .aaload), (22, .astore_n 3), (23, .iconst 0), (24, .istore 4), (26, .iload 4), (28, .aload_n 3), (29, .getfield 161), (32, .if_icmp .ge 46), (35, .aload_n 3), (36, .iload 4), (38, .invokevirtual 265), (41, .istore 5), (43, .aload_n 0), (44, .getfield 37), (47, .iload 4), (49, .iload 5), (51, .invokevirtual 78), (54, .ifCond .eq 6), (57, .iload 4), (59, .ireturn), (60, .aload_n 0), (61, .getfield 37), (64, .getfield 86), (67, .iload 4), (69, .iload 5), (71, .iastore), (72, .iinc 4 1), (75, .goto (-49)), (78, .aload_n 3), (79, .getfield 161), (82, .ireturn)]
def mi_k119 : List (Nat × Instr) := [(0, .aload_n 0), (1, .iload_n 1), (2, .invokevirtual 277), (5, .istore_n 2), (6, .iload_n 2), (7, .ifCond .eq 9), (10, .aload_n 0), (11, .iload_n 2), (12, .invokevirtual 82), (15, .ireturn), (16, .aload_n 0), (17, .getfield 67), (20, .iload_n 1), (21, .aaload), (22, .astore_n 3), (23, .aload_n 3), (24, .getfield 161), (27, .aload_n 0), (28, .getfield 37), (31, .getfield 106), (34, .invokestatic 224), (37, .istore 4), (39, .iconst 0), (40, .istore 5), (42, .iload 5), (44, .iload 4), (46, .if_icmp .ge 34), (49, .aload_n 3), (50, .iload 5), (52, .invokevirtual 265), (55, .aload_n 0), (56, .getfield 37), (59, .getfield 111), (62, .iload 5), (64, .aaload), (65, .getfield 293), (68, .if_icmp .eq 6), (71, .iload 5), (73, .ireturn), (74, .iinc 5 1), (77, .goto (-35)), (80, .aload_n 3), (81, .getfield 161), (84, .aload_n 0), (85, .getfield 37), (88, .getfield 106), (91, .if_icmp .ne 7), (94, .iconst (-1)), (95, .goto 5), (98, .iload 4), (100, .ireturn)]
def mi_k120 : List (Nat × Instr) := [(0, .aload_n 0), (1, .getfield 44), (4, .aload_n 0), (5, .getfield 37), (8, .invokevirtual 209), (11, .aload_n 0), (12, .dup), (13, .getfield 296), (16, .iconst 1), (17, .iadd), (18, .putfield 296), (21, .aload_n 0), (22, .getfield 296), (25, .ireturn)]
def mi_k121 : List (Nat × Instr) := [(0, .aload_n 0), (1, .getfield 296), (4, .ifCond .ne 10), (7, .aload_n 0), (8, .ldc 232), (10, .invokevirtual 82), (13, .ireturn), (14, .aload_n 0), (15, .getfield 37), (18, .aload_n 0), (19, .getfield 44), (22, .invokevirtual 209), (25, .aload_n 0), (26, .getfield 37), (29, .getfield 221), (32, .ireturn)]
def mi_k122 : List (Nat × Instr) := [(0, .aload_n 0), (1, .getfield 37), (4, .getfield 299), (7, .iload_n 1), (8, .invokevirtual 166), (11, .ifCond .eq 16), (14, .aload_n 0), (15, .getfield 37), (18, .getfield 299), (21, .getfield 161), (24, .goto 9), (27, .aload_n 0), (28, .ldc 110), (30, .invokevirtual 82), (33, .ireturn)]
def mi_k123 : List (Nat × Instr) := [(0, .iconst 0), (1, .istore_n 1), (2, .aload_n 0), (3, .getfield 41), (6, .aload_n 0), (7, .getfield 37), (10, .invokevirtual 209), (13, .iconst 0), (14, .istore_n 2), (15, .iload_n 2), (16, .aload_n 0), (17, .getfield 37), (20, .getfield 299), (23, .getfield 161), (26, .if_icmp .ge 48), (29, .iload_n 1), (30, .ifCond .ne 44), (33, .aload_n 0), (34, .getfield 41), (37, .iconst 0), (38, .invokevirtual 198), (41, .pop), (42, .aload_n 0), (43, .getfield 37), (46, .getfield 299), (49, .iload_n 2), (50, .invokevirtual 265), (53, .aload_n 0), (54, .getfield 41), (57, .iconst 2), (58, .invokevirtual 202), (61, .if_icmp .eq 7), (64, .iconst 1), (65, .iload_n 2), (66, .iadd), (67, .istore_n 1), (68, .iinc 2 1), (71, .goto (-56)), (74, .aload_n 0), (75, .getfield 37), (78, .getfield 299), (81, .invokevirtual 180), (84, .iload_n 1), (85, .ireturn)]
def mi_k124 : List (Nat × Instr) := [(0, .iload_n 1), (1, .tableswitch 155 0 10 #[59, 67, 75, 83, 92, 101, 109, 117, 128, 139, 147]), (60, .aload_n 0), (61, .getfield 37), (64, .getfield 106), (67, .ireturn), (68, .aload_n 0), (69, .getfield 37), (72, .invokevirtual 236), (75, .ireturn), (76, .aload_n 0), (77, .getfield 37), (80, .getfield 221), (83, .ireturn), (84, .aload_n 0), (85, .getfield 37), (88, .iconst 1), (89, .invokevirtual 202), (92, .ireturn), (93, .aload_n 0), (94, .getfield 37), (97, .iconst 2), (98, .invokevirtual 202), (101, .ireturn), (102, .aload_n 0), (103, .getfield 37), (106, .getfield 302), (109, .ireturn), (110, .aload_n 0), (111, .getfield 37), (114, .getfield 229), (117, .ireturn), (118, .aload_n 0), (119, .getfield 37), (122, .getfield 158), (125, .getfield 161), (128, .ireturn), (129, .aload_n 0), (130, .getfield 37), (133, .getfield 299), (136, .getfield 161), (139, .ireturn), (140, .aload_n 0), (141, .getfield 63), (144, .getfield 161), (147, .ireturn), (148, .aload_n 0), (149, .getfield 37), (152, .getfield 246), (155, .ireturn), (156, .aload_n 0), (157, .ldc 93), (159, .invokevirtual 82), (162, .ireturn)]
def mi_k125 : List (Nat × Instr) := [(0, .iload_n 1), (1, .iconst 1), (2, .if_icmp .lt 8), (5, .iload_n 1), (6, .iconst 5), (7, .if_icmp .le 12), (10, .aload_n 0), (11, .ldc 93), (13, .invokevirtual 82), (16, .goto 9), (19, .aload_n 0), (20, .getfield 75), (23, .iload_n 1), (24, .iaload), (25, .ireturn)]
def mi_k126 : List (Nat × Instr) := [(0, .ldc_w 305), (3, .iload_n 1), (4, .isub), (5, .istore_n 2), (6, .iload_n 2), (7, .iconst 1), (8, .if_icmp .lt 18), (11, .iload_n 2), (12, .iconst 5), (13, .if_icmp .gt 13), (16, .aload_n 0), (17, .getfield 75), (20, .iload_n 2), (21, .dup2), (22, .iaload), (23, .iconst 1), (24, .iadd), (25, .iastore), (26, .iload_n 1), (27, .ireturn)]
def mi_k127 : List (Nat × Instr) := [(0, .iload_n 1), (1, .ifCond .ge 12), (4, .aload_n 0), (5, .ldc 232), (7, .invokevirtual 82), (10, .goto 4), (13, .iload_n 1), (14, .ireturn)]
def mi_k128 : List (Nat × Instr) := [(0, .iload_n 1), (1, .ifCond .lt 18), (4, .iload_n 1), (5, .aload_n 0), (6, .getfield 37), (9, .getfield 106), (12, .if_icmp .ge 7), (15, .iconst 1), (16, .goto 4), (19, .iconst 0), (20, .ireturn)]
def mi_k129 : List (Nat × Instr) := [(0, .iload_n 1), (1, .iconst 1), (2, .if_icmp .lt 10), (5, .iload_n 1), (6, .sipush 300), (9, .if_icmp .le 6), (12, .ldc 93), (14, .ireturn), (15, .aload_n 0), (16, .getfield 37), (19, .getfield 221), (22, .iload_n 1), (23, .iadd), (24, .sipush 9999), (27, .if_icmp .le 8), (30, .ldc 157), (32, .goto 4), (35, .iconst 0), (36, .ireturn)]
def mi_k130 : List (Nat × Instr) := [(0, .iload_n 1), (1, .invokestatic 268), (4, .ifCond .ne 6), (7, .ldc 93), (9, .ireturn), (10, .aload_n 0), (11, .getfield 71), (14, .iload_n 1), (15, .iaload), (16, .ifCond .ne 8), (19, .ldc 232), (21, .goto 4), (24, .iconst 0), (25, .ireturn)]
def mi_k131 : List (Nat × Instr) := [(0, .iload_n 0), (1, .ifCond .lt 13), (4, .iload_n 0), (5, .bipush 24), (7, .if_icmp .ge 7), (10, .iconst 1), (11, .goto 4), (14, .iconst 0), (15, .ireturn)]
def mi_k132 : List (Nat × Instr) := [(0, .iload_n 0), (1, .ifCond .lt 14), (4, .iload_n 0), (5, .sipush 999), (8, .if_icmp .gt 7), (11, .iconst 1), (12, .goto 4), (15, .iconst 0), (16, .ireturn)]
def mi_k133 : List (Nat × Instr) := [(0, .iload_n 0), (1, .ifCond .lt 13), (4, .iload_n 0), (5, .bipush 70), (7, .if_icmp .ge 7), (10, .iconst 1), (11, .goto 4), (14, .iconst 0), (15, .ireturn)]
def mi_k134 : List (Nat × Instr) := [(0, .iload_n 0), (1, .ifCond .lt 12), (4, .iload_n 0), (5, .iconst 2), (6, .if_icmp .ge 7), (9, .iconst 1), (10, .goto 4), (13, .iconst 0), (14, .ireturn)]
def mi_k135 : List (Nat × Instr) := [(0, .iload_n 0), (1, .ifCond .lt 12), (4, .iload_n 0), (5, .iconst 4), (6, .if_icmp .ge 7), (9, .iconst 1), (10, .goto 4), (13, .iconst 0), (14, .ireturn)]
def mi_k136 : List (Nat × Instr) := [(0, .iload_n 0), (1, .ifCond .eq 21), (4, .iload_n 0), (5, .bipush 8), (7, .if_icmp .eq 15), (10, .iload_n 0), (11, .bipush 16), (13, .if_icmp .eq 9), (16, .iload_n 0), (17, .bipush 32), (19, .if_icmp .ne 7), (22, .iconst 1), (23, .goto 4), (26, .iconst 0), (27, .ireturn)]
def mi_k137 : List (Nat × Instr) := [(0, .iload_n 0), (1, .istore_n 2), (2, .iconst 0), (3, .istore_n 3), (4, .iload_n 3), (5, .bipush 7), (7, .if_icmp .ge 32), (10, .iload_n 2), (11, .ifCond .lt 28), (14, .iload_n 2), (15, .bipush 7), (17, .if_icmp .ge 22), (20, .iload_n 2), (21, .iload_n 1), (22, .if_icmp .ne 5), (25, .iconst 1), (26, .ireturn), (27, .getstatic 306), (30, .iload_n 2), (31, .iaload), (32, .istore_n 2), (33, .iinc 3 1), (36, .goto (-32)), (39, .iconst 0), (40, .ireturn)]
def mi_k138 : List (Nat × Instr) := [(0, .iload_n 1), (1, .bipush 8), (3, .if_icmp .ne 6), (6, .iload_n 0), (7, .i2b), (8, .ireturn), (9, .iload_n 1), (10, .bipush 16), (12, .if_icmp .ne 8), (15, .iload_n 0), (16, .i2s), (17, .goto 4), (20, .iload_n 0), (21, .ireturn)]
def mi_k139 : List (Nat × Instr) := [(0, .aload_n 0), (1, .invokespecial 1), (4, .aload_n 0), (5, .sipush 286), (8, .newarray .int), (10, .putfield 7), (13, .aload_n 0), (14, .sipush 286), (17, .newarray .int), (19, .putfield 13), (22, .aload_n 0), (23, .bipush 114), (25, .newarray .int), (27, .putfield 16), (30, .aload_n 0), (31, .bipush 6), (33, .newarray .int), (35, .putfield 19), (38, .aload_n 0), (39, .iconst 3), (40, .newarray .int), (42, .putfield 22), (45, .aload_n 0), (46, .bipush 32), (48, .newarray .int), (50, .putfield 25), (53, .aload_n 0), (54, .bipush 40), (56, .newarray .int), (58, .putfield 28), (61, .aload_n 0), (62, .iconst 4), (63, .newarray .int), (65, .putfield 31), (68, .aload_n 0), (69, .iconst 4), (70, .newarray .int), (72, .putfield 34), (75, .aload_n 0), (76, .sipush 160), (79, .newarray .int), (81, .putfield 37), (84, .aload_n 0), (85, .bipush 40), (87, .newarray .int), (89, .putfield 40), (92, .aload_n 0), (93, .getfield 7), (96, .iconst 4), (97, .iconst 1), (98, .iastore), (99, .iconst 0), (100, .istore_n 1), (101, .iload_n 1), (102, .bipush 24), (104, .if_icmp .ge 19), (107, .aload_n 0), (108, .getfield 7), (111, .bipush 10), (113, .iload_n 1), (114, .iadd), (115, .iconst 1), (116, .iastore), (117, .iinc 1 1), (120, .goto (-19)), (123, .return_)]
def mi_k140 : List (Nat × Instr) := [(0, .aload_n 0), (1, .getfield 19), (4, .iload_n 1), (5, .dup2), (6, .iaload), (7, .iconst 1), (8, .iadd), (9, .iastore), (10, .ldc 43), (12, .iload_n 1), (13, .isub), (14, .ireturn)]
def mi_k141 : List (Nat × Instr) := [(0, .lload_n 0), (1, .lload_n 2), (2, .lcmp), (3, .ifCond .lt 14), (6, .lload_n 0), (7, .lload 4), (9, .lcmp), (10, .ifCond .gt 7), (13, .iconst 1), (14, .goto 4), (17, .iconst 0), (18, .ireturn)]
def mi_k142 : List (Nat × Instr) := [(0, .iload_n 0), (1, .iload_n 1), (2, .if_icmp .ge 7), (5, .iload_n 1), (6, .goto 13), (9, .iload_n 0), (10, .iload_n 2), (11, .if_icmp .le 7), (14, .iload_n 2), (15, .goto 4), (18, .iload_n 0), (19, .ireturn)]
def mi_k143 : List (Nat × Instr) := [(0, .iload_n 1), (1, .i2l), (2, .lconst 0), (3, .aload_n 0), (4, .getfield 7), (7, .iconst 0), (8, .iaload), (9, .iconst 1), (10, .isub), (11, .i2l), (12, .invokestatic 44), (15, .ireturn)]
def mi_k144 : List (Nat × Instr) := [(0, .iload_n 0), (1, .i2l), (2, .lconst 0), (3, .ldc2_w 48), (6, .invokestatic 44), (9, .ireturn)]
def mi_k145 : List (Nat × Instr) := [(0, .aload_n 0), (1, .getfield 7), (4, .bipush 34), (6, .bipush 10), (8, .iload_n 1), (9, .imul), (10, .iadd), (11, .iload_n 2), (12, .iadd), (13, .iaload), (14, .ireturn)]
def mi_k146 : List (Nat × Instr) := [(0, .aload_n 0), (1, .getfield 7), (4, .bipush 34), (6, .bipush 10), (8, .iload_n 1), (9, .imul), (10, .iadd), (11, .iload_n 2), (12, .iadd), (13, .iload_n 3), (14, .iastore), (15, .return_)]
def mi_k147 : List (Nat × Instr) := [(0, .iconst 0), (1, .istore_n 1), (2, .iload_n 1), (3, .bipush 114), (5, .if_icmp .ge 21), (8, .aload_n 0), (9, .getfield 16), (12, .iload_n 1), (13, .aload_n 0), (14, .getfield 7), (17, .iload_n 1), (18, .iaload), (19, .iastore), (20, .iinc 1 1), (23, .goto (-21)), (26, .return_)]
def mi_k148 : List (Nat × Instr) := [(0, .iconst 0), (1, .istore_n 1), (2, .iload_n 1), (3, .bipush 114), (5, .if_icmp .ge 21), (8, .aload_n 0), (9, .getfield 7), (12, .iload_n 1), (13, .aload_n 0), (14, .getfield 16), (17, .iload_n 1), (18, .iaload), (19, .iastore), (20, .iinc 1 1), (23, .goto (-21)), (26, .return_)]
def mi_k149 : List (Nat × Instr) := [(0, .aload_n 0), (1, .getfield 50), (4, .aload_n 0), (5, .getfield 54), (8, .if_icmp .ge 27), (11, .aload_n 0), (12, .getfield 57), (15, .ifCond .ge 20), (18, .aload_n 0), (19, .getfield 7), (22, .aload_n 0), (23, .getfield 60), (26, .aload_n 0), (27, .getfield 50), (30, .iadd), (31, .iaload), (32, .goto 4), (35, .iconst (-1)), (36, .ireturn)]
def mi_k150 : List (Nat × Instr) := [(0, .aload_n 0), (1, .aload_n 0), (2, .getfield 57), (5, .ifCond .ge 10), (8, .aload_n 0), (9, .getfield 50), (12, .goto 7), (15, .aload_n 0), (16, .getfield 57), (19, .putfield 57), (22, .iconst 0), (23, .ireturn)]
def mi_k151 : List (Nat × Instr) := [(0, .aload_n 0), (1, .invokevirtual 63), (4, .iload_n 1), (5, .if_icmp .eq 5), (8, .iconst 0), (9, .ireturn), (10, .aload_n 0), (11, .dup), (12, .getfield 50), (15, .iconst 1), (16, .iadd), (17, .putfield 50), (20, .iconst 1), (21, .ireturn)]
def mi_k152 : List (Nat × Instr) := [(0, .aload_n 0), (1, .getfield 67), (4, .ifCond .eq 35), (7, .iload_n 1), (8, .bipush 108), (10, .if_icmp .ne 7), (13, .iconst 0), (14, .goto 24), (17, .iload_n 1), (18, .bipush 107), (20, .if_icmp .ne 7), (23, .iconst 1), (24, .goto 14), (27, .iload_n 1), (28, .bipush 116), (30, .if_icmp .ne 7), (33, .iconst 2), (34, .goto 4), (37, .iconst (-1)), (38, .ireturn), (39, .iload_n 1), (40, .bipush 108), (42, .if_icmp .ne 7), (45, .iconst 0), (46, .goto 24), (49, .iload_n 1), (50, .bipush 110), (52, .if_icmp .ne 7), (55, .iconst 1), (56, .goto 14), (59, .iload_n 1), (60, .bipush 98), (62, .if_icmp .ne 7), (65, .iconst 2), (66, .goto 4), (69, .iconst (-1)), (70, .ireturn)]
def mi_k153 : List (Nat × Instr) := [(0, .aload_n 0), (1, .invokevirtual 71), (4, .istore_n 1), (5, .aload_n 0), (6, .bipush 124), (8, .invokevirtual 74), (11, .ifCond .eq 25), (14, .aload_n 0), (15, .invokevirtual 71), (18, .istore_n 2), (19, .iload_n 1), (20, .ifCond .ne 7), (23, .iload_n 2), (24, .ifCond .eq 7), (27, .iconst 1), (28, .goto 4), (31, .iconst 0), (32, .istore_n 1), (33, .goto (-28)), (36, .iload_n 1), (37, .ireturn)]
def mi_k154 : List (Nat × Instr) := [(0, .aload_n 0), (1, .invokevirtual 78), (4, .istore_n 1), (5, .aload_n 0), (6, .bipush 38), (8, .invokevirtual 74), (11, .ifCond .eq 25), (14, .aload_n 0), (15, .invokevirtual 78), (18, .istore_n 2), (19, .iload_n 1), (20, .ifCond .eq 11), (23, .iload_n 2), (24, .ifCond .eq 7), (27, .iconst 1), (28, .goto 4), (31, .iconst 0), (32, .istore_n 1), (33, .goto (-28)), (36, .iload_n 1), (37, .ireturn)]
def mi_k155 : List (Nat × Instr) := [(0, .aload_n 0), (1, .invokevirtual 81), (4, .istore_n 1), (5, .aload_n 0), (6, .invokevirtual 63), (9, .istore_n 2), (10, .iload_n 2), (11, .bipush 60), (13, .if_icmp .eq 17), (16, .iload_n 2), (17, .bipush 61), (19, .if_icmp .eq 11), (22, .iload_n 2), (23, .bipush 62), (25, .if_icmp .eq 5), (28, .iload_n 1), (29, .ireturn), (30, .aload_n 0), (31, .dup), (32, .getfield 50), (35, .iconst 1), (36, .iadd), (37, .putfield 50), (40, .aload_n 0), (41, .invokevirtual 81), (44, .istore_n 3), (45, .iload_n 2), (46, .bipush 60), (48, .if_icmp .ne 11), (51, .iload_n 1), (52, .iload_n 3), (53, .if_icmp .ge 29), (56, .goto 22), (59, .iload_n 2), (60, .bipush 61), (62, .if_icmp .ne 11), (65, .iload_n 1), (66, .iload_n 3), (67, .if_icmp .ne 15), (70, .goto 8), (73, .iload_n 1), (74, .iload_n 3), (75, .if_icmp .le 7), (78, .iconst 1), (79, .goto 4), (82, .iconst 0), (83, .ireturn)]
def mi_k156 : List (Nat × Instr) := [(0, .aload_n 0), (1, .invokevirtual 84), (4, .istore_n 1), (5, .aload_n 0), (6, .invokevirtual 63), (9, .bipush 43), (11, .if_icmp .eq 12), (14, .aload_n 0), (15, .invokevirtual 63), (18, .bipush 45), (20, .if_icmp .ne 42), (23, .aload_n 0), (24, .invokevirtual 63), (27, .istore_n 2), (28, .aload_n 0), (29, .dup), (30, .getfield 50), (33, .iconst 1), (34, .iadd), (35, .putfield 50), (38, .aload_n 0), (39, .invokevirtual 84), (42, .istore_n 3), (43, .iload_n 2), (44, .bipush 43), (46, .if_icmp .ne 9), (49, .iload_n 1), (50, .iload_n 3), (51, .iadd), (52, .goto 6), (55, .iload_n 1), (56, .iload_n 3), (57, .isub), (58, .istore_n 1), (59, .goto (-54)), (62, .iload_n 1), (63, .ireturn)]
def mi_k157 : List (Nat × Instr) := [(0, .aload_n 0), (1, .invokevirtual 87), (4, .istore_n 1), (5, .aload_n 0), (6, .invokevirtual 63), (9, .bipush 42), (11, .if_icmp .eq 21), (14, .aload_n 0), (15, .invokevirtual 63), (18, .bipush 47), (20, .if_icmp .eq 12), (23, .aload_n 0), (24, .invokevirtual 63), (27, .bipush 37), (29, .if_icmp .ne 62), (32, .aload_n 0), (33, .invokevirtual 63), (36, .istore_n 2), (37, .aload_n 0), (38, .dup), (39, .getfield 50), (42, .iconst 1), (43, .iadd), (44, .putfield 50), (47, .aload_n 0), (48, .invokevirtual 87), (51, .istore_n 3), (52, .iload_n 2), (53, .bipush 42), (55, .if_icmp .ne 9), (58, .iload_n 1), (59, .iload_n 3), (60, .imul), (61, .goto 26), (64, .iload_n 3), (65, .ifCond .ne 7), (68, .iconst 0), (69, .goto 18), (72, .iload_n 2), (73, .bipush 47), (75, .if_icmp .ne 9), (78, .iload_n 1), (79, .iload_n 3), (80, .idiv), (81, .goto 6), (84, .iload_n 1), (85, .iload_n 3), (86, .irem), (87, .istore_n 1), (88, .goto (-83)), (91, .iload_n 1), (92, .ireturn)]
def mi_k158 : List (Nat × Instr) := [(0, .aload_n 0), (1, .invokevirtual 63), (4, .istore_n 1), (5, .iload_n 1), (6, .bipush 33), (8, .if_icmp .eq 9), (11, .iload_n 1), (12, .bipush 40), (14, .if_icmp .ne 104), (17, .aload_n 0), (18, .getfield 90), (21, .iconst 5), (22, .if_icmp .ne 8), (25, .aload_n 0), (26, .invokevirtual 93), (29, .ireturn), (30, .aload_n 0), (31, .dup), (32, .getfield 90), (35, .iconst 1), (36, .iadd), (37, .putfield 90), (40, .aload_n 0), (41, .dup), (42, .getfield 50), (45, .iconst 1), (46, .iadd), (47, .putfield 50), (50, .iload_n 1), (51, .bipush 40), (53, .if_icmp .ne 10), (56, .aload_n 0), (57, .invokevirtual 96), (60, .goto 7), (63, .aload_n 0), (64, .invokevirtual 87), (67, .istore_n 2), (68, .iload_n 1), (69, .bipush 40), (71, .if_icmp .ne 17), (74, .aload_n 0), (75, .bipush 41), (77, .invokevirtual 74), (80, .ifCond .ne 8), (83, .aload_n 0), (84, .invokevirtual 93), (87, .ireturn), (88, .aload_n 0), (89, .dup), (90, .getfield 90), (93, .iconst 1), (94, .isub), (95, .putfield 90), (98, .iload_n 1), (99, .bipush 40), (101, .if_icmp .ne 7), (104, .iload_n 2), (105, .goto 12), (108, .iload_n 2), (109, .ifCond .ne 7), (112, .iconst 1), (113, .goto 4), (116, .iconst 0), (117, .ireturn), (118, .aload_n 0), (119, .iload_n 1), (120, .invokevirtual 99), (123, .istore_n 2), (124, .iload_n 2), (125, .ifCond .lt 20), (128, .aload_n 0), (129, .dup), (130, .getfield 50), (133, .iconst 1), (134, .iadd), (135, .putfield 50), (138, .aload_n 0), (139, .getfield 22), (142, .iload_n 2), (143, .iaload), (144, .ireturn), (145, .iconst 0), (146, .istore_n 3), (147, .iconst 0), (148, .istore 4), (150, .iload 4), (152, .iconst 4), (153, .if_icmp .ge 49), (156, .aload_n 0), (157, .invokevirtual 63), (160, .i2l), (161, .ldc2_w 103), (164, .ldc2_w 105), (167, .invokestatic 44), (170, .ifCond .eq 32), (173, .bipush 10), (175, .iload_n 3), (176, .imul), (177, .aload_n 0), (178, .invokevirtual 63), (181, .iadd), (182, .bipush 48), (184, .isub), (185, .istore_n 3), (186, .aload_n 0), (187, .dup), (188, .getfield 50), (191, .iconst 1), (192, .iadd), (193, .putfield 50), (196, .iinc 4 1), (199, .goto (-49)), (202, .iload 4), (204, .ifCond .ne 10), (207, .aload_n 0), (208, .invokevirtual 93), (211, .goto 4), (214, .iload_n 3), (215, .ireturn)]
def mi_k159 : List (Nat × Instr) := [(0, .aload_n 0), (1, .iload_n 1), (2, .putfield 60), (5, .aload_n 0), (6, .iconst 0), (7, .putfield 50), (10, .aload_n 0), (11, .iload_n 2), (12, .putfield 54), (15, .aload_n 0), (16, .iconst (-1)), (17, .putfield 57), (20, .aload_n 0), (21, .iconst 0), (22, .putfield 90), (25, .aload_n 0), (26, .iload_n 3), (27, .iconst 1), (28, .if_icmp .ne 7), (31, .iconst 1), (32, .goto 4), (35, .iconst 0), (36, .putfield 67), (39, .aload_n 0), (40, .invokevirtual 96), (43, .istore 4), (45, .aload_n 0), (46, .getfield 57), (49, .ifCond .ge 19), (52, .aload_n 0), (53, .getfield 50), (56, .aload_n 0), (57, .getfield 54), (60, .if_icmp .ge 8), (63, .aload_n 0), (64, .invokevirtual 93), (67, .ireturn), (68, .iload 4), (70, .ireturn)]
def mi_k160 : List (Nat × Instr) := [(0, .iload_n 3), (1, .i2l), (2, .lconst 1), (3, .ldc2_w 107), (6, .invokestatic 44), (9, .ifCond .ne 9), (12, .aload_n 0), (13, .iconst 1), (14, .invokevirtual 109), (17, .ireturn), (18, .aload_n 0), (19, .getfield 7), (22, .bipush 6), (24, .iaload), (25, .iload_n 3), (26, .iadd), (27, .bipush 50), (29, .if_icmp .le 9), (32, .aload_n 0), (33, .iconst 4), (34, .invokevirtual 109), (37, .ireturn), (38, .iconst 0), (39, .istore 4), (41, .iload 4), (43, .iload_n 3), (44, .if_icmp .ge 48), (47, .aload_n 0), (48, .getfield 7), (51, .sipush 236), (54, .aload_n 0), (55, .getfield 7), (58, .bipush 6), (60, .iaload), (61, .iadd), (62, .lload_n 1), (63, .bipush 8), (65, .iload 4), (67, .imul), (68, .lshr), (69, .ldc2_w 112), (72, .land), (73, .l2i), (74, .iastore), (75, .aload_n 0), (76, .getfield 7), (79, .bipush 6), (81, .dup2), (82, .iaload), (83, .iconst 1), (84, .iadd), (85, .iastore), (86, .iinc 4 1), (89, .goto (-48)), (92, .aload_n 0), (93, .getfield 7), (96, .bipush 6), (98, .iaload), (99, .ireturn)]
def mi_k161 : List (Nat × Instr) := [(0, .iload_n 1), (1, .i2l), (2, .lconst 0), (3, .lconst 1), (4, .invokestatic 44), (7, .ifCond .ne 9), (10, .aload_n 0), (11, .iconst 1), (12, .invokevirtual 109), (15, .ireturn), (16, .aload_n 0), (17, .getfield 7), (20, .bipush 6), (22, .iaload), (23, .istore_n 2), (24, .aload_n 0), (25, .getfield 7), (28, .bipush 6), (30, .iconst 0), (31, .iastore), (32, .aload_n 0), (33, .sipush 236), (36, .iload_n 2), (37, .iload_n 1), (38, .invokevirtual 114), (41, .istore_n 3), (42, .aload_n 0), (43, .getfield 57), (46, .ifCond .lt 11), (49, .bipush (-10)), (51, .aload_n 0), (52, .getfield 57), (55, .isub), (56, .ireturn), (57, .aload_n 0), (58, .getfield 7), (61, .bipush 114), (63, .iload_n 1), (64, .iadd), (65, .iload_n 2), (66, .iastore), (67, .iconst 0), (68, .istore 4), (70, .iload 4), (72, .iload_n 2), (73, .if_icmp .ge 36), (76, .aload_n 0), (77, .getfield 7), (80, .sipush 136), (83, .bipush 50), (85, .iload_n 1), (86, .imul), (87, .iadd), (88, .iload 4), (90, .iadd), (91, .aload_n 0), (92, .getfield 7), (95, .sipush 236), (98, .iload 4), (100, .iadd), (101, .iaload), (102, .iastore), (103, .iinc 4 1), (106, .goto (-36)), (109, .iconst 1), (110, .ireturn)]
def mi_k162 : List (Nat × Instr) := [(0, .iload_n 2), (1, .istore 5), (3, .aload_n 0), (4, .getfield 7), (7, .bipush 114), (9, .iload_n 1), (10, .iadd), (11, .iaload), (12, .ifCond .le 49), (15, .aload_n 0), (16, .getfield 22), (19, .iconst 0), (20, .iload_n 2), (21, .iastore), (22, .aload_n 0), (23, .getfield 22), (26, .iconst 1), (27, .iload_n 3), (28, .iastore), (29, .aload_n 0), (30, .getfield 22), (33, .iconst 2), (34, .iload 4), (36, .iastore), (37, .aload_n 0), (38, .sipush 136), (41, .bipush 50), (43, .iload_n 1), (44, .imul), (45, .iadd), (46, .aload_n 0), (47, .getfield 7), (50, .bipush 114), (52, .iload_n 1), (53, .iadd), (54, .iaload), (55, .iload_n 1), (56, .invokevirtual 114), (59, .istore 5), (61, .iload_n 1), (62, .ifCond .ne 8), (65, .iload 5), (67, .goto 12), (70, .iload 5), (72, .bipush (-99)), (74, .bipush 99), (76, .invokestatic 118), (79, .ireturn)]
def mi_k163 : List (Nat × Instr) := [(0, .iload_n 1), (1, .i2l), (2, .lconst 0), (3, .lconst 1), (4, .invokestatic 44), (7, .ifCond .eq 15), (10, .aload_n 0), (11, .iload_n 1), (12, .iload_n 2), (13, .iload_n 3), (14, .iload 4), (16, .invokevirtual 121), (19, .goto 8), (22, .aload_n 0), (23, .iconst 1), (24, .invokevirtual 109), (27, .ireturn)]
def mi_k164 : List (Nat × Instr) := [(0, .aload_n 0), (1, .getfield 7), (4, .bipush 10), (6, .iload_n 1), (7, .iadd), (8, .iaload), (9, .iconst 1), (10, .if_icmp .le 7), (13, .iconst 1), (14, .goto 4), (17, .iconst 0), (18, .ireturn)]
def mi_k165 : List (Nat × Instr) := [(0, .iconst 0), (1, .istore_n 2), (2, .iconst 0), (3, .istore_n 3), (4, .iload_n 3), (5, .aload_n 0), (6, .getfield 7), (9, .iconst 0), (10, .iaload), (11, .if_icmp .ge 38), (14, .iload_n 2), (15, .aload_n 0), (16, .iload_n 3), (17, .iconst 5), (18, .invokevirtual 125), (21, .iconst 1), (22, .if_icmp .ne 18), (25, .aload_n 0), (26, .iload_n 3), (27, .bipush 6), (29, .invokevirtual 125), (32, .iload_n 1), (33, .if_icmp .ne 7), (36, .iconst 1), (37, .goto 4), (40, .iconst 0), (41, .iadd), (42, .istore_n 2), (43, .iinc 3 1), (46, .goto (-42)), (49, .iload_n 2), (50, .ireturn)]
def mi_k166 : List (Nat × Instr) := [(0, .iconst 0), (1, .istore_n 2), (2, .iconst 0), (3, .istore_n 3), (4, .iload_n 3), (5, .iload_n 1), (6, .if_icmp .ge 25), (9, .iload_n 2), (10, .aload_n 0), (11, .iload_n 3), (12, .invokevirtual 129), (15, .ifCond .eq 7), (18, .iconst 1), (19, .goto 4), (22, .iconst 0), (23, .iadd), (24, .istore_n 2), (25, .iinc 3 1), (28, .goto (-24)), (31, .iload_n 2), (32, .ireturn)]
def mi_k167 : List (Nat × Instr) := [(0, .iload_n 1), (1, .invokestatic 132), (4, .ifCond .eq 15), (7, .iload_n 2), (8, .i2l), (9, .lconst 1), (10, .ldc2_w 135), (13, .invokestatic 44), (16, .ifCond .ne 5), (19, .iconst 1), (20, .ireturn), (21, .aload_n 0), (22, .iload_n 1), (23, .invokevirtual 137), (26, .iload_n 2), (27, .if_icmp .le 5), (30, .iconst 3), (31, .ireturn), (32, .iload_n 2), (33, .iconst 1), (34, .if_icmp .le 26), (37, .aload_n 0), (38, .iload_n 1), (39, .invokevirtual 129), (42, .ifCond .ne 18), (45, .aload_n 0), (46, .bipush 24), (48, .invokevirtual 140), (51, .bipush 9), (53, .if_icmp .ne 7), (56, .iconst 4), (57, .goto 4), (60, .iconst 0), (61, .ireturn)]
def mi_k168 : List (Nat × Instr) := [(0, .aload_n 0), (1, .iload_n 1), (2, .iload_n 2), (3, .invokevirtual 143), (6, .istore_n 3), (7, .iload_n 3), (8, .ifCond .le 9), (11, .aload_n 0), (12, .iload_n 3), (13, .invokevirtual 109), (16, .ireturn), (17, .aload_n 0), (18, .getfield 7), (21, .bipush 10), (23, .iload_n 1), (24, .iadd), (25, .iaload), (26, .istore 4), (28, .aload_n 0), (29, .getfield 7), (32, .bipush 10), (34, .iload_n 1), (35, .iadd), (36, .iload_n 2), (37, .iastore), (38, .iload 4), (40, .ireturn)]
def mi_k169 : List (Nat × Instr) := [(0, .iload_n 1), (1, .invokestatic 132), (4, .ifCond .eq 15), (7, .iload_n 2), (8, .i2l), (9, .lconst 0), (10, .ldc2_w 146), (13, .invokestatic 44), (16, .ifCond .ne 9), (19, .aload_n 0), (20, .iconst 1), (21, .invokevirtual 109), (24, .ireturn), (25, .iload_n 2), (26, .ifCond .ne 15), (29, .aload_n 0), (30, .getfield 7), (33, .bipush 10), (35, .iload_n 1), (36, .iadd), (37, .iaload), (38, .goto 33), (41, .iload_n 2), (42, .iconst 1), (43, .if_icmp .ne 11), (46, .aload_n 0), (47, .iload_n 1), (48, .invokevirtual 137), (51, .goto 20), (54, .aload_n 0), (55, .iload_n 1), (56, .invokevirtual 129), (59, .ifCond .eq 11), (62, .aload_n 0), (63, .iload_n 1), (64, .invokevirtual 140), (67, .goto 4), (70, .iconst (-1)), (71, .ireturn)]
def mi_k170 : List (Nat × Instr) := [(0, .aload_n 0), (1, .iload_n 1), (2, .iconst 0), (3, .invokevirtual 125), (6, .tableswitch 49 1 5 #[34, 49, 49, 36, 38]), (40, .iconst 2), (41, .ireturn), (42, .iconst 3), (43, .ireturn), (44, .iconst 1), (45, .aload_n 0), (46, .iload_n 1), (47, .iconst 1), (48, .invokevirtual 125), (51, .iconst 3), (52, .irem), (53, .iadd), (54, .ireturn), (55, .iconst 1), (56, .ireturn)]
def mi_k171 : List (Nat × Instr) := [(0, .aload_n 0), (1, .iload_n 1), (2, .iconst 1), (3, .invokevirtual 125), (6, .istore_n 2), (7, .iload_n 2), (8, .iconst 3), (9, .if_icmp .ge 7), (12, .iconst 0), (13, .goto 6), (16, .iload_n 2), (17, .iconst 3), (18, .isub), (19, .istore_n 3), (20, .aload_n 0), (21, .iload_n 1), (22, .iconst 0), (23, .invokevirtual 125), (26, .tableswitch 55 1 6 #[38, 41, 47, 38, 43, 52]), (64, .bipush 20), (66, .ireturn), (67, .iload_n 3), (68, .ireturn), (69, .iconst 2), (70, .iload_n 3), (71, .imul), (72, .ireturn), (73, .iload_n 2), (74, .bipush 9), (76, .iadd), (77, .ireturn), (78, .bipush 9), (80, .ireturn), (81, .iload_n 2), (82, .ireturn)]
def mi_k172 : List (Nat × Instr) := [(0, .aload_n 0), (1, .iload_n 1), (2, .iconst 0), (3, .invokevirtual 125), (6, .istore_n 2), (7, .iload_n 2), (8, .iconst 3), (9, .if_icmp .eq 9), (12, .iload_n 2), (13, .bipush 6), (15, .if_icmp .ne 7), (18, .iconst 1), (19, .goto 4), (22, .iconst 0), (23, .istore_n 3), (24, .iload_n 3), (25, .ifCond .eq 23), (28, .aload_n 0), (29, .iload_n 1), (30, .iconst 1), (31, .invokevirtual 125), (34, .iconst 2), (35, .irem), (36, .iconst 1), (37, .if_icmp .ne 7), (40, .iconst 1), (41, .goto 22), (44, .iconst 0), (45, .goto 18), (48, .iload_n 2), (49, .iconst 1), (50, .if_icmp .eq 12), (53, .iload_n 2), (54, .iconst 4), (55, .if_icmp .eq 7), (58, .iconst 1), (59, .goto 4), (62, .iconst 0), (63, .ireturn)]
def mi_k173 : List (Nat × Instr) := [(0, .aload_n 0), (1, .iload_n 1), (2, .iconst 0), (3, .invokevirtual 125), (6, .iconst 4), (7, .if_icmp .eq 18), (10, .aload_n 0), (11, .iload_n 1), (12, .iconst 0), (13, .invokevirtual 125), (16, .bipush 6), (18, .if_icmp .eq 7), (21, .iconst 1), (22, .goto 4), (25, .iconst 0), (26, .ireturn)]
def mi_k174 : List (Nat × Instr) := [(0, .aload_n 0), (1, .iconst 0), (2, .aload_n 0), (3, .iload_n 1), (4, .invokevirtual 148), (7, .iload_n 1), (8, .aload_n 0), (9, .iload_n 1), (10, .bipush 9), (12, .invokevirtual 125), (15, .invokevirtual 121), (18, .ireturn)]
def mi_k175 : List (Nat × Instr) := [(0, .aload_n 0), (1, .iload_n 1), (2, .iconst 5), (3, .iconst 0), (4, .invokevirtual 151), (7, .aload_n 0), (8, .iload_n 1), (9, .bipush 6), (11, .iconst (-1)), (12, .invokevirtual 151), (15, .aload_n 0), (16, .iload_n 1), (17, .bipush 7), (19, .iconst 0), (20, .invokevirtual 151), (23, .aload_n 0), (24, .iload_n 1), (25, .bipush 8), (27, .iconst 0), (28, .invokevirtual 151), (31, .aload_n 0), (32, .iload_n 1), (33, .bipush 9), (35, .iconst 0), (36, .invokevirtual 151), (39, .aload_n 0), (40, .getfield 7), (43, .iconst 5), (44, .dup2), (45, .iaload), (46, .iconst 1), (47, .iload_n 1), (48, .ishl), (49, .iconst (-1)), (50, .ixor), (51, .iand), (52, .iastore), (53, .return_)]
def mi_k176 : List (Nat × Instr) := [(0, .iload_n 1), (1, .i2l), (2, .lconst 0), (3, .ldc2_w 155), (6, .invokestatic 44), (9, .ifCond .eq 35), (12, .iload_n 2), (13, .invokestatic 132), (16, .ifCond .eq 28), (19, .iload_n 3), (20, .invokestatic 132), (23, .ifCond .eq 21), (26, .iload_n 2), (27, .iload_n 3), (28, .if_icmp .eq 16), (31, .iload 4), (33, .i2l), (34, .lconst 0), (35, .ldc2_w 157), (38, .invokestatic 44), (41, .ifCond .ne 9), (44, .aload_n 0), (45, .iconst 1), (46, .invokevirtual 109), (49, .ireturn), (50, .aload_n 0), (51, .getfield 7), (54, .iconst 0), (55, .iaload), (56, .bipush 8), (58, .if_icmp .ne 9), (61, .aload_n 0), (62, .iconst 4), (63, .invokevirtual 109), (66, .ireturn), (67, .aload_n 0), (68, .getfield 7), (71, .iconst 0), (72, .iaload), (73, .istore 5), (75, .aload_n 0), (76, .getfield 7), (79, .iconst 0), (80, .dup2), (81, .iaload), (82, .iconst 1), (83, .iadd), (84, .iastore), (85, .aload_n 0), (86, .iload 5), (88, .iconst 0), (89, .iload_n 1), (90, .bipush 10), (92, .idiv), (93, .invokevirtual 151), (96, .aload_n 0), (97, .iload 5), (99, .iconst 1), (100, .iload_n 1), (101, .bipush 10), (103, .irem), (104, .invokevirtual 151), (107, .aload_n 0), (108, .iload 5), (110, .iconst 2), (111, .iload_n 2), (112, .invokevirtual 151), (115, .aload_n 0), (116, .iload 5), (118, .iconst 3), (119, .iload_n 3), (120, .invokevirtual 151), (123, .aload_n 0), (124, .iload 5), (126, .iconst 4), (127, .iload 4), (129, .invokevirtual 151), (132, .aload_n 0), (133, .iload 5), (135, .invokevirtual 159), (138, .iload 5), (140, .ireturn)]
def mi_k177 : List (Nat × Instr) := [(0, .aload_n 0), (1, .iload_n 1), (2, .invokevirtual 163), (5, .ifCond .eq 15), (8, .iload_n 2), (9, .i2l), (10, .lconst 0), (11, .ldc2_w 166), (14, .invokestatic 44), (17, .ifCond .ne 9), (20, .aload_n 0), (21, .iconst 1), (22, .invokevirtual 109), (25, .ireturn), (26, .iload_n 2), (27, .tableswitch 79 10 14 #[33, 39, 45, 51, 65]), (60, .aload_n 0), (61, .iload_n 1), (62, .invokevirtual 168), (65, .ireturn), (66, .aload_n 0), (67, .iload_n 1), (68, .invokevirtual 148), (71, .ireturn), (72, .aload_n 0), (73, .iload_n 1), (74, .invokevirtual 171), (77, .ireturn), (78, .aload_n 0), (79, .iload_n 1), (80, .invokevirtual 174), (83, .ifCond .eq 7), (86, .iconst 1), (87, .goto 4), (90, .iconst 0), (91, .ireturn), (92, .aload_n 0), (93, .iload_n 1), (94, .invokevirtual 177), (97, .ifCond .eq 7), (100, .iconst 1), (101, .goto 4), (104, .iconst 0), (105, .ireturn), (106, .aload_n 0), (107, .iload_n 1), (108, .iload_n 2), (109, .invokevirtual 125), (112, .ireturn)]
def mi_k178 : List (Nat × Instr) := [(0, .aload_n 0), (1, .iload_n 1), (2, .invokevirtual 163), (5, .ifCond .eq 15), (8, .iload_n 2), (9, .i2l), (10, .lconst 0), (11, .ldc2_w 155), (14, .invokestatic 44), (17, .ifCond .ne 9), (20, .aload_n 0), (21, .iconst 1), (22, .invokevirtual 109), (25, .ireturn), (26, .aload_n 0), (27, .iload_n 1), (28, .iconst 0), (29, .invokevirtual 125), (32, .istore_n 3), (33, .aload_n 0), (34, .iload_n 1), (35, .iconst 0), (36, .iload_n 2), (37, .bipush 10), (39, .idiv), (40, .invokevirtual 151), (43, .aload_n 0), (44, .iload_n 1), (45, .iconst 1), (46, .iload_n 2), (47, .bipush 10), (49, .irem), (50, .invokevirtual 151), (53, .iload_n 3), (54, .ireturn)]
def mi_k179 : List (Nat × Instr) := [(0, .iload_n 0), (1, .iconst 4), (2, .if_icmp .ge 7), (5, .iconst 0), (6, .goto 6), (9, .iload_n 0), (10, .iconst 3), (11, .isub), (12, .ireturn)]
def mi_k180 : List (Nat × Instr) := [(0, .aload_n 0), (1, .iload_n 1), (2, .invokevirtual 163), (5, .ifCond .eq 15), (8, .iload_n 2), (9, .i2l), (10, .lconst 0), (11, .ldc2_w 180), (14, .invokestatic 44), (17, .ifCond .ne 9), (20, .aload_n 0), (21, .iconst 1), (22, .invokevirtual 109), (25, .ireturn), (26, .aload_n 0), (27, .iload_n 1), (28, .iconst 0), (29, .invokevirtual 125), (32, .istore_n 3), (33, .iload_n 2), (34, .ifCond .eq 16), (37, .iload_n 2), (38, .iload_n 3), (39, .if_icmp .eq 11), (42, .iload_n 2), (43, .iload_n 3), (44, .invokestatic 182), (47, .if_icmp .ne 12), (50, .aload_n 0), (51, .iload_n 1), (52, .iconst 1), (53, .invokevirtual 125), (56, .goto 8), (59, .aload_n 0), (60, .iconst 5), (61, .invokevirtual 109), (64, .ireturn)]
def mi_k181 : List (Nat × Instr) := [(0, .aload_n 0), (1, .iload_n 1), (2, .invokevirtual 163), (5, .ifCond .eq 15), (8, .iload_n 2), (9, .i2l), (10, .lconst 0), (11, .ldc2_w 157), (14, .invokestatic 44), (17, .ifCond .ne 9), (20, .aload_n 0), (21, .iconst 1), (22, .invokevirtual 109), (25, .ireturn), (26, .aload_n 0), (27, .iload_n 1), (28, .iconst 5), (29, .invokevirtual 125), (32, .ifCond .eq 9), (35, .aload_n 0), (36, .iconst 3), (37, .invokevirtual 109), (40, .ireturn), (41, .aload_n 0), (42, .iload_n 1), (43, .iconst 4), (44, .invokevirtual 125), (47, .istore_n 3), (48, .aload_n 0), (49, .iload_n 1), (50, .iconst 4), (51, .iload_n 2), (52, .invokevirtual 151), (55, .iload_n 3), (56, .ireturn)]
def mi_k182 : List (Nat × Instr) := [(0, .aload_n 0), (1, .iload_n 1), (2, .invokevirtual 163), (5, .ifCond .ne 9), (8, .aload_n 0), (9, .iconst 1), (10, .invokevirtual 109), (13, .ireturn), (14, .aload_n 0), (15, .iload_n 1), (16, .iconst 5), (17, .invokevirtual 125), (20, .istore_n 2), (21, .aload_n 0), (22, .iload_n 1), (23, .invokevirtual 159), (26, .iload_n 2), (27, .ireturn)]
def mi_k183 : List (Nat × Instr) := [(0, .aload_n 0), (1, .iload_n 1), (2, .iconst 3), (3, .invokevirtual 125), (6, .aload_n 0), (7, .iload_n 1), (8, .iconst 2), (9, .invokevirtual 125), (12, .if_icmp .le 7), (15, .iconst 1), (16, .goto 4), (19, .iconst (-1)), (20, .ireturn)]
def mi_k184 : List (Nat × Instr) := [(0, .iconst 0), (1, .istore_n 3), (2, .iload_n 3), (3, .aload_n 0), (4, .getfield 7), (7, .iconst 0), (8, .iaload), (9, .if_icmp .ge 55), (12, .aload_n 0), (13, .iload_n 3), (14, .iconst 5), (15, .invokevirtual 125), (18, .iconst 1), (19, .if_icmp .ne 39), (22, .aload_n 0), (23, .iload_n 3), (24, .bipush 6), (26, .invokevirtual 125), (29, .iload_n 2), (30, .if_icmp .ne 28), (33, .aload_n 0), (34, .iload_n 3), (35, .bipush 8), (37, .invokevirtual 125), (40, .ifCond .ne 18), (43, .aload_n 0), (44, .iload_n 3), (45, .invokevirtual 185), (48, .aload_n 0), (49, .iload_n 1), (50, .invokevirtual 185), (53, .if_icmp .eq 5), (56, .iload_n 3), (57, .ireturn), (58, .iinc 3 1), (61, .goto (-59)), (64, .iconst (-1)), (65, .ireturn)]
def mi_k185 : List (Nat × Instr) := [(0, .aload_n 0), (1, .iload_n 1), (2, .bipush 6), (4, .invokevirtual 125), (7, .aload_n 0), (8, .iload_n 1), (9, .invokevirtual 185), (12, .iadd), (13, .istore_n 2), (14, .iload_n 2), (15, .invokestatic 132), (18, .ifCond .eq 33), (21, .aload_n 0), (22, .iload_n 2), (23, .invokevirtual 129), (26, .ifCond .ne 25), (29, .aload_n 0), (30, .iload_n 1), (31, .iload_n 2), (32, .invokevirtual 188), (35, .ifCond .lt 5), (38, .iconst 1), (39, .ireturn), (40, .iload_n 2), (41, .aload_n 0), (42, .iload_n 1), (43, .invokevirtual 185), (46, .iadd), (47, .istore_n 2), (48, .goto (-34)), (51, .iconst 0), (52, .ireturn)]
def mi_k186 : List (Nat × Instr) := [(0, .aload_n 0), (1, .iload_n 1), (2, .invokevirtual 171), (5, .istore_n 3), (6, .aload_n 0), (7, .iload_n 2), (8, .invokevirtual 171), (11, .istore 4), (13, .iload_n 3), (14, .iload 4), (16, .if_icmp .gt 14), (19, .iload_n 3), (20, .iload 4), (22, .if_icmp .ne 9), (25, .iload_n 1), (26, .iload_n 2), (27, .if_icmp .ge 4), (30, .return_), (31, .aload_n 0), (32, .iload_n 1), (33, .invokevirtual 174), (36, .ifCond .ne 16), (39, .aload_n 0), (40, .getfield 7), (43, .iconst 5), (44, .dup2), (45, .iaload), (46, .iconst 1), (47, .iload_n 1), (48, .ishl), (49, .ior), (50, .iastore), (51, .return_), (52, .aload_n 0), (53, .iload_n 1), (54, .bipush 8), (56, .iconst 1), (57, .invokevirtual 151), (60, .aload_n 0), (61, .iload_n 1), (62, .bipush 9), (64, .aload_n 0), (65, .iload_n 1), (66, .bipush 9), (68, .invokevirtual 125), (71, .iconst 1), (72, .iadd), (73, .invokevirtual 151), (76, .aload_n 0), (77, .getfield 7), (80, .iconst 3), (81, .aload_n 0), (82, .getfield 7), (85, .iconst 3), (86, .iaload), (87, .iconst 1), (88, .iadd), (89, .iconst 0), (90, .sipush 9999), (93, .invokestatic 118), (96, .iastore), (97, .return_)]
def mi_k187 : List (Nat × Instr) := [(0, .aload_n 0), (1, .iload_n 1), (2, .bipush 6), (4, .iload_n 2), (5, .invokevirtual 151), (8, .aload_n 0), (9, .iload_n 1), (10, .bipush 7), (12, .aload_n 0), (13, .iload_n 1), (14, .invokevirtual 168), (17, .iconst 1), (18, .isub), (19, .invokevirtual 151), (22, .aload_n 0), (23, .iload_n 2), (24, .invokevirtual 129), (27, .ifCond .eq 52), (30, .aload_n 0), (31, .iload_n 1), (32, .bipush 8), (34, .iconst 0), (35, .invokevirtual 151), (38, .aload_n 0), (39, .getfield 7), (42, .iconst 2), (43, .aload_n 0), (44, .getfield 7), (47, .iconst 2), (48, .iaload), (49, .aload_n 0), (50, .iconst 1), (51, .aload_n 0), (52, .iload_n 1), (53, .invokevirtual 148), (56, .aload_n 0), (57, .iload_n 2), (58, .invokevirtual 140), (61, .aload_n 0), (62, .getfield 7), (65, .iconst 1), (66, .iaload), (67, .invokevirtual 121), (70, .iadd), (71, .ldc 191), (73, .ldc 192), (75, .invokestatic 118), (78, .iastore), (79, .return_)]
def mi_k188 : List (Nat × Instr) := [(0, .aload_n 0), (1, .iload_n 1), (2, .bipush 8), (4, .invokevirtual 125), (7, .iconst 1), (8, .if_icmp .ne 7), (11, .iconst 1), (12, .goto 4), (15, .iconst 0), (16, .istore_n 3), (17, .aload_n 0), (18, .iload_n 1), (19, .bipush 6), (21, .invokevirtual 125), (24, .istore 4), (26, .iload_n 3), (27, .ifCond .ne 44), (30, .iload 4), (32, .aload_n 0), (33, .iload_n 1), (34, .iconst 3), (35, .invokevirtual 125), (38, .if_icmp .ne 33), (41, .aload_n 0), (42, .iload_n 1), (43, .iconst 5), (44, .iconst 2), (45, .invokevirtual 151), (48, .aload_n 0), (49, .iload_n 1), (50, .bipush 6), (52, .iconst (-1)), (53, .invokevirtual 151), (56, .aload_n 0), (57, .getfield 7), (60, .iconst 5), (61, .dup2), (62, .iaload), (63, .iconst 1), (64, .iload_n 1), (65, .ishl), (66, .iconst (-1)), (67, .ixor), (68, .iand), (69, .iastore), (70, .return_), (71, .iload_n 3), (72, .ifCond .ne 33), (75, .aload_n 0), (76, .iload 4), (78, .invokevirtual 129), (81, .ifCond .eq 24), (84, .iload_n 2), (85, .ifCond .ne 20), (88, .aload_n 0), (89, .iload_n 1), (90, .invokevirtual 177), (93, .ifCond .eq 12), (96, .aload_n 0), (97, .iload_n 1), (98, .invokevirtual 193), (101, .ifCond .eq 4), (104, .return_), (105, .iload_n 3), (106, .ifCond .eq 14), (109, .iload 4), (111, .aload_n 0), (112, .iload_n 1), (113, .invokevirtual 185), (116, .isub), (117, .goto 11), (120, .iload 4), (122, .aload_n 0), (123, .iload_n 1), (124, .invokevirtual 185), (127, .iadd), (128, .istore 5), (130, .iload 5), (132, .invokestatic 132), (135, .ifCond .ne 4), (138, .return_), (139, .aload_n 0), (140, .iload 5), (142, .invokevirtual 137), (145, .aload_n 0), (146, .getfield 7), (149, .bipush 10), (151, .iload 5), (153, .iadd), (154, .iaload), (155, .if_icmp .ge 11), (158, .aload_n 0), (159, .iload_n 1), (160, .iload 5), (162, .invokevirtual 196), (165, .return_), (166, .aload_n 0), (167, .iload_n 1), (168, .iload 5), (170, .invokevirtual 188), (173, .istore 6), (175, .iload_n 3), (176, .ifCond .ne 24), (179, .aload_n 0), (180, .iload 4), (182, .invokevirtual 129), (185, .ifCond .ne 15), (188, .iload 6), (190, .ifCond .lt 10), (193, .aload_n 0), (194, .iload_n 1), (195, .iload 6), (197, .invokevirtual 200), (200, .return_)]
def mi_k189 : List (Nat × Instr) := [(0, .aload_n 0), (1, .getfield 7), (4, .iconst 1), (5, .dup2), (6, .iaload), (7, .iconst 1), (8, .iadd), (9, .iastore), (10, .iconst 0), (11, .istore_n 2), (12, .iload_n 2), (13, .aload_n 0), (14, .getfield 7), (17, .iconst 0), (18, .iaload), (19, .if_icmp .ge 142), (22, .aload_n 0), (23, .iload_n 2), (24, .iconst 5), (25, .invokevirtual 125), (28, .istore_n 3), (29, .aload_n 0), (30, .iload_n 2), (31, .iconst 2), (32, .invokevirtual 125), (35, .istore 4), (37, .iload_n 3), (38, .ifCond .ne 72), (41, .aload_n 0), (42, .iload_n 2), (43, .iconst 4), (44, .invokevirtual 125), (47, .aload_n 0), (48, .getfield 7), (51, .iconst 1), (52, .iaload), (53, .if_icmp .gt 57), (56, .aload_n 0), (57, .iload 4), (59, .invokevirtual 137), (62, .aload_n 0), (63, .getfield 7), (66, .bipush 10), (68, .iload 4), (70, .iadd), (71, .iaload), (72, .if_icmp .ge 38), (75, .aload_n 0), (76, .iload_n 2), (77, .iconst 5), (78, .iconst 1), (79, .invokevirtual 151), (82, .aload_n 0), (83, .iload_n 2), (84, .bipush 6), (86, .iload 4), (88, .invokevirtual 151), (91, .aload_n 0), (92, .iload_n 2), (93, .bipush 7), (95, .iconst 0), (96, .invokevirtual 151), (99, .aload_n 0), (100, .iload_n 2), (101, .bipush 8), (103, .iconst 0), (104, .invokevirtual 151), (107, .goto 48), (110, .iload_n 3), (111, .iconst 1), (112, .if_icmp .ne 32), (115, .aload_n 0), (116, .iload_n 2), (117, .bipush 7), (119, .invokevirtual 125), (122, .ifCond .le 22), (125, .aload_n 0), (126, .iload_n 2), (127, .bipush 7), (129, .aload_n 0), (130, .iload_n 2), (131, .bipush 7), (133, .invokevirtual 125), (136, .iconst 1), (137, .isub), (138, .invokevirtual 151), (141, .goto 14), (144, .iload_n 3), (145, .iconst 1), (146, .if_icmp .ne 9), (149, .aload_n 0), (150, .iload_n 2), (151, .iload_n 1), (152, .invokevirtual 203), (155, .iinc 2 1), (158, .goto (-146)), (161, .return_)]
def mi_k190 : List (Nat × Instr) := [(0, .iconst 0), (1, .istore_n 2), (2, .iconst 0), (3, .istore_n 3), (4, .iload_n 3), (5, .aload_n 0), (6, .getfield 7), (9, .iconst 0), (10, .iaload), (11, .if_icmp .ge 27), (14, .iload_n 2), (15, .aload_n 0), (16, .iload_n 3), (17, .iconst 5), (18, .invokevirtual 125), (21, .iload_n 1), (22, .if_icmp .ne 7), (25, .iconst 1), (26, .goto 4), (29, .iconst 0), (30, .iadd), (31, .istore_n 2), (32, .iinc 3 1), (35, .goto (-31)), (38, .iload_n 2), (39, .ireturn)]
def mi_k191 : List (Nat × Instr) := [(0, .aload_n 0), (1, .getfield 7), (4, .iconst 4), (5, .aload_n 0), (6, .getfield 7), (9, .iconst 4), (10, .iaload), (11, .ldc 207), (13, .imul), (14, .sipush 12345), (17, .iadd), (18, .iastore), (19, .aload_n 0), (20, .getfield 7), (23, .iconst 4), (24, .iaload), (25, .bipush 8), (27, .iushr), (28, .ireturn)]
def mi_k192 : List (Nat × Instr) := [(0, .iload_n 1), (1, .i2l), (2, .lconst 1), (3, .ldc2_w 208), (6, .invokestatic 44), (9, .ifCond .ne 9), (12, .aload_n 0), (13, .iconst 1), (14, .invokevirtual 109), (17, .ireturn), (18, .aload_n 0), (19, .getfield 7), (22, .iconst 1), (23, .iaload), (24, .iload_n 1), (25, .iadd), (26, .sipush 9999), (29, .if_icmp .le 9), (32, .aload_n 0), (33, .iconst 3), (34, .invokevirtual 109), (37, .ireturn), (38, .iconst 0), (39, .istore_n 3), (40, .iload_n 3), (41, .iload_n 1), (42, .if_icmp .ge 31), (45, .aload_n 0), (46, .iload_n 2), (47, .ifCond .eq 16), (50, .aload_n 0), (51, .invokevirtual 210), (54, .iconst 4), (55, .irem), (56, .ifCond .ne 7), (59, .iconst 1), (60, .goto 4), (63, .iconst 0), (64, .invokevirtual 213), (67, .iinc 3 1), (70, .goto (-30)), (73, .aload_n 0), (74, .iconst 2), (75, .invokevirtual 217), (78, .ireturn)]
def mi_k193 : List (Nat × Instr) := [(0, .aload_n 0), (1, .iload_n 1), (2, .iconst 0), (3, .invokevirtual 220), (6, .ireturn)]
def mi_k194 : List (Nat × Instr) := [(0, .aload_n 0), (1, .iload_n 1), (2, .iconst 1), (3, .invokevirtual 220), (6, .ireturn)]
def mi_k195 : List (Nat × Instr) := [(0, .iload_n 1), (1, .i2l), (2, .lconst 0), (3, .ldc2_w 208), (6, .invokestatic 44), (9, .ifCond .eq 25), (12, .aload_n 0), (13, .iload_n 2), (14, .invokevirtual 163), (17, .ifCond .eq 17), (20, .iload_n 3), (21, .i2l), (22, .ldc2_w 135), (25, .ldc2_w 224), (28, .invokestatic 44), (31, .ifCond .ne 9), (34, .aload_n 0), (35, .iconst 1), (36, .invokevirtual 109), (39, .ireturn), (40, .aload_n 0), (41, .invokevirtual 226), (44, .iconst 0), (45, .istore 4), (47, .iload 4), (49, .iload_n 1), (50, .if_icmp .ge 14), (53, .aload_n 0), (54, .iconst 0), (55, .invokevirtual 213), (58, .iinc 4 1), (61, .goto (-14)), (64, .aload_n 0), (65, .iload_n 2), (66, .iload_n 3), (67, .invokevirtual 125), (70, .istore 4), (72, .aload_n 0), (73, .invokevirtual 229), (76, .iload 4), (78, .ireturn)]
def mi_k196 : List (Nat × Instr) := [(0, .aload_n 0), (1, .invokevirtual 226), (4, .iconst 0), (5, .istore_n 1), (6, .iload_n 1), (7, .sipush 300), (10, .if_icmp .gt 28), (13, .aload_n 0), (14, .iconst 2), (15, .invokevirtual 217), (18, .aload_n 0), (19, .getfield 7), (22, .iconst 0), (23, .iaload), (24, .if_icmp .ge 14), (27, .aload_n 0), (28, .iconst 0), (29, .invokevirtual 213), (32, .iinc 1 1), (35, .goto (-29)), (38, .aload_n 0), (39, .iload_n 1), (40, .sipush 300), (43, .if_icmp .le 7), (46, .iconst (-1)), (47, .goto 4), (50, .iload_n 1), (51, .putfield 232), (54, .aload_n 0), (55, .aload_n 0), (56, .getfield 7), (59, .iconst 3), (60, .iaload), (61, .putfield 235), (64, .aload_n 0), (65, .invokevirtual 229), (68, .return_)]
def mi_k197 : List (Nat × Instr) := [(0, .aload_n 0), (1, .invokevirtual 238), (4, .aload_n 0), (5, .getfield 232), (8, .ifCond .ge 11), (11, .aload_n 0), (12, .iconst 2), (13, .invokevirtual 109), (16, .goto 7), (19, .aload_n 0), (20, .getfield 232), (23, .ireturn)]
def mi_k198 : List (Nat × Instr) := [(0, .iconst 0), (1, .istore_n 1), (2, .iload_n 1), (3, .aload_n 0), (4, .getfield 7), (7, .iconst 0), (8, .iaload), (9, .if_icmp .ge 40), (12, .iconst 0), (13, .istore_n 2), (14, .iload_n 2), (15, .iconst 4), (16, .if_icmp .ge 27), (19, .aload_n 0), (20, .getfield 25), (23, .iconst 4), (24, .iload_n 1), (25, .imul), (26, .iload_n 2), (27, .iadd), (28, .aload_n 0), (29, .iload_n 1), (30, .iconst 5), (31, .iload_n 2), (32, .iadd), (33, .invokevirtual 125), (36, .iastore), (37, .iinc 2 1), (40, .goto (-26)), (43, .iinc 1 1), (46, .goto (-44)), (49, .return_)]
def mi_k199 : List (Nat × Instr) := [(0, .iconst 1), (1, .istore_n 1), (2, .iconst 0), (3, .istore_n 2), (4, .iload_n 2), (5, .aload_n 0), (6, .getfield 7), (9, .iconst 0), (10, .iaload), (11, .if_icmp .ge 53), (14, .iconst 0), (15, .istore_n 3), (16, .iload_n 3), (17, .iconst 4), (18, .if_icmp .ge 40), (21, .iload_n 1), (22, .ifCond .eq 28), (25, .aload_n 0), (26, .getfield 25), (29, .iconst 4), (30, .iload_n 2), (31, .imul), (32, .iload_n 3), (33, .iadd), (34, .iaload), (35, .aload_n 0), (36, .iload_n 2), (37, .iconst 5), (38, .iload_n 3), (39, .iadd), (40, .invokevirtual 125), (43, .if_icmp .ne 7), (46, .iconst 1), (47, .goto 4), (50, .iconst 0), (51, .istore_n 1), (52, .iinc 3 1), (55, .goto (-39)), (58, .iinc 2 1), (61, .goto (-57)), (64, .iload_n 1), (65, .ireturn)]
def mi_k200 : List (Nat × Instr) := [(0, .aload_n 0), (1, .iconst 2), (2, .invokevirtual 217), (5, .aload_n 0), (6, .getfield 7), (9, .iconst 0), (10, .iaload), (11, .if_icmp .ge 7), (14, .iconst 1), (15, .goto 4), (18, .iconst 0), (19, .istore_n 1), (20, .iconst 0), (21, .istore_n 2), (22, .iload_n 2), (23, .aload_n 0), (24, .getfield 7), (27, .iconst 0), (28, .iaload), (29, .if_icmp .ge 43), (32, .iload_n 1), (33, .ifCond .eq 31), (36, .aload_n 0), (37, .iload_n 2), (38, .iconst 5), (39, .invokevirtual 125), (42, .ifCond .ne 18), (45, .aload_n 0), (46, .iload_n 2), (47, .iconst 4), (48, .invokevirtual 125), (51, .aload_n 0), (52, .getfield 7), (55, .iconst 1), (56, .iaload), (57, .if_icmp .gt 7), (60, .iconst 1), (61, .goto 4), (64, .iconst 0), (65, .istore_n 1), (66, .iinc 2 1), (69, .goto (-47)), (72, .iload_n 1), (73, .ireturn)]
def mi_k201 : List (Nat × Instr) := [(0, .aload_n 0), (1, .invokevirtual 226), (4, .iconst (-1)), (5, .istore_n 1), (6, .iconst 0), (7, .istore_n 2), (8, .iload_n 2), (9, .sipush 300), (12, .if_icmp .gt 44), (15, .iload_n 1), (16, .ifCond .ge 40), (19, .aload_n 0), (20, .invokevirtual 241), (23, .istore_n 3), (24, .aload_n 0), (25, .invokevirtual 245), (28, .aload_n 0), (29, .iconst 0), (30, .invokevirtual 213), (33, .iload_n 3), (34, .ifCond .eq 14), (37, .aload_n 0), (38, .invokevirtual 248), (41, .ifCond .eq 7), (44, .iload_n 2), (45, .goto 4), (48, .iconst (-1)), (49, .istore_n 1), (50, .iinc 2 1), (53, .goto (-45)), (56, .aload_n 0), (57, .invokevirtual 229), (60, .iload_n 1), (61, .ifCond .ge 11), (64, .aload_n 0), (65, .iconst 2), (66, .invokevirtual 109), (69, .goto 4), (72, .iload_n 1), (73, .ireturn)]
def mi_k202 : List (Nat × Instr) := [(0, .aload_n 0), (1, .iload_n 1), (2, .iconst 4), (3, .invokevirtual 125), (6, .istore_n 2), (7, .aload_n 0), (8, .iconst (-1)), (9, .putfield 251), (12, .aload_n 0), (13, .getfield 7), (16, .iconst 1), (17, .iaload), (18, .istore_n 3), (19, .iload_n 3), (20, .aload_n 0), (21, .getfield 7), (24, .iconst 1), (25, .iaload), (26, .bipush 60), (28, .iadd), (29, .if_icmp .ge 107), (32, .iload_n 3), (33, .sipush 999), (36, .if_icmp .gt 100), (39, .aload_n 0), (40, .iload_n 1), (41, .iconst 4), (42, .iload_n 3), (43, .invokevirtual 151), (46, .aload_n 0), (47, .invokevirtual 238), (50, .aload_n 0), (51, .getfield 251), (54, .ifCond .lt 36), (57, .aload_n 0), (58, .getfield 232), (61, .aload_n 0), (62, .getfield 254), (65, .if_icmp .lt 25), (68, .aload_n 0), (69, .getfield 232), (72, .aload_n 0), (73, .getfield 254), (76, .if_icmp .ne 18), (79, .aload_n 0), (80, .getfield 235), (83, .aload_n 0), (84, .getfield 257), (87, .if_icmp .ge 7), (90, .iconst 1), (91, .goto 4), (94, .iconst 0), (95, .istore 4), (97, .aload_n 0), (98, .getfield 232), (101, .ifCond .lt 29), (104, .iload 4), (106, .ifCond .eq 24), (109, .aload_n 0), (110, .iload_n 3), (111, .putfield 251), (114, .aload_n 0), (115, .aload_n 0), (116, .getfield 232), (119, .putfield 254), (122, .aload_n 0), (123, .aload_n 0), (124, .getfield 235), (127, .putfield 257), (130, .iinc 3 1), (133, .goto (-114)), (136, .aload_n 0), (137, .iload_n 1), (138, .iconst 4), (139, .iload_n 2), (140, .invokevirtual 151), (143, .return_)]
def mi_k203 : List (Nat × Instr) := [(0, .aload_n 0), (1, .iload_n 1), (2, .invokevirtual 163), (5, .ifCond .eq 15), (8, .iload_n 2), (9, .i2l), (10, .lconst 0), (11, .ldc2_w 146), (14, .invokestatic 44), (17, .ifCond .ne 9), (20, .aload_n 0), (21, .iconst 1), (22, .invokevirtual 109), (25, .ireturn), (26, .aload_n 0), (27, .iload_n 1), (28, .iconst 5), (29, .invokevirtual 125), (32, .ifCond .eq 9), (35, .aload_n 0), (36, .iconst 3), (37, .invokevirtual 109), (40, .ireturn), (41, .aload_n 0), (42, .iload_n 1), (43, .invokevirtual 260), (46, .aload_n 0), (47, .getfield 251), (50, .ifCond .ge 9), (53, .aload_n 0), (54, .iconst 2), (55, .invokevirtual 109), (58, .ireturn), (59, .iload_n 2), (60, .ifCond .ne 10), (63, .aload_n 0), (64, .getfield 251), (67, .goto 19), (70, .iload_n 2), (71, .iconst 1), (72, .if_icmp .ne 10), (75, .aload_n 0), (76, .getfield 254), (79, .goto 7), (82, .aload_n 0), (83, .getfield 257), (86, .ireturn)]
def mi_k204 : List (Nat × Instr) := [(0, .aload_n 0), (1, .iload_n 1), (2, .iconst 4), (3, .invokevirtual 125), (6, .istore_n 3), (7, .iconst 0), (8, .istore 4), (10, .iconst 1), (11, .istore 5), (13, .iload 5), (15, .ifCond .eq 76), (18, .iload 4), (20, .bipush 60), (22, .if_icmp .ge 69), (25, .iload_n 3), (26, .iload 4), (28, .iadd), (29, .sipush 999), (32, .if_icmp .ge 59), (35, .aload_n 0), (36, .iload_n 1), (37, .iconst 4), (38, .iload_n 3), (39, .iload 4), (41, .iadd), (42, .iconst 1), (43, .iadd), (44, .invokevirtual 151), (47, .aload_n 0), (48, .invokevirtual 238), (51, .aload_n 0), (52, .getfield 232), (55, .ifCond .lt 15), (58, .aload_n 0), (59, .getfield 235), (62, .iload_n 2), (63, .if_icmp .gt 7), (66, .iconst 1), (67, .goto 4), (70, .iconst 0), (71, .istore 5), (73, .iload 4), (75, .iload 5), (77, .ifCond .eq 7), (80, .iconst 1), (81, .goto 4), (84, .iconst 0), (85, .iadd), (86, .istore 4), (88, .goto (-75)), (91, .aload_n 0), (92, .iload_n 1), (93, .iconst 4), (94, .iload_n 3), (95, .invokevirtual 151), (98, .iload 4), (100, .ireturn)]
def mi_k205 : List (Nat × Instr) := [(0, .aload_n 0), (1, .iload_n 1), (2, .invokevirtual 163), (5, .ifCond .ne 9), (8, .aload_n 0), (9, .iconst 1), (10, .invokevirtual 109), (13, .ireturn), (14, .aload_n 0), (15, .iload_n 1), (16, .iconst 5), (17, .invokevirtual 125), (20, .ifCond .eq 9), (23, .aload_n 0), (24, .iconst 3), (25, .invokevirtual 109), (28, .ireturn), (29, .aload_n 0), (30, .invokevirtual 238), (33, .aload_n 0), (34, .getfield 232), (37, .ifCond .ge 11), (40, .aload_n 0), (41, .iconst 2), (42, .invokevirtual 109), (45, .goto 12), (48, .aload_n 0), (49, .iload_n 1), (50, .aload_n 0), (51, .getfield 235), (54, .invokevirtual 263), (57, .ireturn)]
def mi_k206 : List (Nat × Instr) := [(0, .aload_n 0), (1, .getfield 7), (4, .bipush 10), (6, .iload_n 1), (7, .iadd), (8, .iaload), (9, .istore_n 3), (10, .aload_n 0), (11, .getfield 7), (14, .bipush 10), (16, .iload_n 1), (17, .iadd), (18, .iload_n 2), (19, .iastore), (20, .aload_n 0), (21, .invokevirtual 238), (24, .aload_n 0), (25, .getfield 7), (28, .bipush 10), (30, .iload_n 1), (31, .iadd), (32, .iload_n 3), (33, .iastore), (34, .aload_n 0), (35, .getfield 232), (38, .ireturn)]
def mi_k207 : List (Nat × Instr) := [(0, .iload_n 1), (1, .i2l), (2, .lconst 0), (3, .aload_n 0), (4, .bipush 24), (6, .invokevirtual 140), (9, .iconst 1), (10, .isub), (11, .i2l), (12, .invokestatic 44), (15, .ifCond .ne 9), (18, .aload_n 0), (19, .iconst 1), (20, .invokevirtual 109), (23, .ireturn), (24, .iconst 0), (25, .istore_n 2), (26, .aload_n 0), (27, .iload_n 2), (28, .invokevirtual 129), (31, .ifCond .eq 12), (34, .aload_n 0), (35, .iload_n 2), (36, .invokevirtual 140), (39, .iload_n 1), (40, .if_icmp .ge 9), (43, .iinc 2 1), (46, .goto (-20)), (49, .aload_n 0), (50, .iload_n 2), (51, .invokevirtual 137), (54, .iconst 1), (55, .if_icmp .le 9), (58, .aload_n 0), (59, .iconst 3), (60, .invokevirtual 109), (63, .ireturn), (64, .aload_n 0), (65, .iload_n 2), (66, .iconst 1), (67, .invokevirtual 266), (70, .istore_n 3), (71, .iload_n 3), (72, .ifCond .ge 11), (75, .aload_n 0), (76, .iconst 2), (77, .invokevirtual 109), (80, .goto 4), (83, .iload_n 3), (84, .ireturn)]
def mi_k208 : List (Nat × Instr) := [(0, .iload_n 1), (1, .i2l), (2, .lconst 0), (3, .lconst 1), (4, .invokestatic 44), (7, .ifCond .ne 9), (10, .aload_n 0), (11, .iconst 1), (12, .invokevirtual 109), (15, .ireturn), (16, .aload_n 0), (17, .bipush 24), (19, .invokevirtual 140), (22, .bipush 9), (24, .if_icmp .ne 9), (27, .aload_n 0), (28, .iconst 4), (29, .invokevirtual 109), (32, .ireturn), (33, .iconst (-1)), (34, .istore_n 2), (35, .iconst 0), (36, .istore_n 3), (37, .iconst 0), (38, .istore 4), (40, .iload 4), (42, .bipush 24), (44, .if_icmp .ge 52), (47, .aload_n 0), (48, .iload 4), (50, .invokevirtual 129), (53, .ifCond .eq 7), (56, .iconst (-1)), (57, .goto 10), (60, .aload_n 0), (61, .iload 4), (63, .iconst 2), (64, .invokevirtual 266), (67, .istore 5), (69, .iload 5), (71, .ifCond .lt 19), (74, .iload_n 2), (75, .ifCond .lt 9), (78, .iload 5), (80, .iload_n 3), (81, .if_icmp .ge 9), (84, .iload 4), (86, .istore_n 2), (87, .iload 5), (89, .istore_n 3), (90, .iinc 4 1), (93, .goto (-53)), (96, .iload_n 2), (97, .ifCond .ge 11), (100, .aload_n 0), (101, .iconst 2), (102, .invokevirtual 109), (105, .goto 12), (108, .iload_n 1), (109, .ifCond .ne 7), (112, .iload_n 2), (113, .goto 4), (116, .iload_n 3), (117, .ireturn)]
def mi_k209 : List (Nat × Instr) := [(0, .aload_n 0), (1, .getfield 7), (4, .iconst 5), (5, .iaload), (6, .ireturn)]
def mi_k210 : List (Nat × Instr) := [(0, .aload_n 0), (1, .getfield 7), (4, .iconst 4), (5, .iaload), (6, .istore_n 2), (7, .aload_n 0), (8, .getfield 7), (11, .iconst 4), (12, .iload_n 1), (13, .iastore), (14, .iload_n 2), (15, .ireturn)]
def mi_k211 : List (Nat × Instr) := [(0, .aload_n 0), (1, .getfield 269), (4, .bipush 40), (6, .if_icmp .ge 23), (9, .aload_n 0), (10, .getfield 28), (13, .aload_n 0), (14, .getfield 269), (17, .iload_n 1), (18, .iastore), (19, .aload_n 0), (20, .dup), (21, .getfield 269), (24, .iconst 1), (25, .iadd), (26, .putfield 269), (29, .return_)]
def mi_k212 : List (Nat × Instr) := [(0, .aload_n 0), (1, .aload_n 0), (2, .getfield 272), (5, .iconst 0), (6, .invokevirtual 125), (9, .ireturn)]
def mi_k213 : List (Nat × Instr) := [(0, .iload_n 1), (1, .lookupswitch 58 #[(0, 27), (2, 40)]), (28, .aload_n 0), (29, .bipush 10), (31, .invokevirtual 275), (34, .iload_n 2), (35, .aload_n 0), (36, .getfield 272), (39, .iadd), (40, .ireturn), (41, .aload_n 0), (42, .bipush 30), (44, .invokevirtual 275), (47, .aload_n 0), (48, .iconst 2), (49, .invokestatic 182), (52, .iload_n 2), (53, .invokevirtual 278), (56, .iconst 3), (57, .imul), (58, .ireturn), (59, .aload_n 0), (60, .iload_n 1), (61, .invokestatic 182), (64, .iload_n 2), (65, .invokevirtual 278), (68, .ireturn)]
def mi_k214 : List (Nat × Instr) := [(0, .iload_n 1), (1, .tableswitch 99 0 4 #[35, 53, 99, 99, 81]), (36, .aload_n 0), (37, .bipush 11), (39, .invokevirtual 275), (42, .aload_n 0), (43, .aload_n 0), (44, .invokevirtual 281), (47, .iload_n 2), (48, .invokevirtual 278), (51, .iconst 2), (52, .imul), (53, .ireturn), (54, .aload_n 0), (55, .bipush 20), (57, .invokevirtual 275), (60, .aload_n 0), (61, .iconst 1), (62, .invokestatic 182), (65, .iload_n 2), (66, .invokevirtual 284), (69, .istore_n 3), (70, .iload_n 3), (71, .aload_n 0), (72, .aload_n 0), (73, .invokevirtual 281), (76, .iconst 1), (77, .invokevirtual 287), (80, .isub), (81, .ireturn), (82, .aload_n 0), (83, .bipush 50), (85, .invokevirtual 275), (88, .aload_n 0), (89, .iconst 4), (90, .invokestatic 182), (93, .iload_n 2), (94, .iconst 1), (95, .iadd), (96, .invokevirtual 284), (99, .ireturn), (100, .aload_n 0), (101, .iload_n 1), (102, .invokestatic 182), (105, .iload_n 2), (106, .invokevirtual 284), (109, .ireturn)]
def mi_k215 : List (Nat × Instr) := [(0, .iload_n 1), (1, .lookupswitch 92 #[(0, 35), (3, 53), (6, 70)]), (36, .aload_n 0), (37, .bipush 12), (39, .invokevirtual 275), (42, .iload_n 2), (43, .aload_n 0), (44, .aload_n 0), (45, .getfield 272), (48, .iconst 1), (49, .invokevirtual 125), (52, .isub), (53, .ireturn), (54, .aload_n 0), (55, .bipush 40), (57, .invokevirtual 275), (60, .aload_n 0), (61, .iconst 3), (62, .invokestatic 182), (65, .iload_n 2), (66, .invokevirtual 287), (69, .ineg), (70, .ireturn), (71, .aload_n 0), (72, .bipush 70), (74, .invokevirtual 275), (77, .aload_n 0), (78, .bipush 6), (80, .invokestatic 182), (83, .iload_n 2), (84, .invokevirtual 287), (87, .aload_n 0), (88, .getfield 272), (91, .ixor), (92, .ireturn), (93, .aload_n 0), (94, .iload_n 1), (95, .invokestatic 182), (98, .iload_n 2), (99, .invokevirtual 287), (102, .ireturn)]
def mi_k216 : List (Nat × Instr) := [(0, .iload_n 1), (1, .lookupswitch 120 #[(0, 35), (5, 63), (6, 91)]), (36, .aload_n 0), (37, .bipush 13), (39, .invokevirtual 275), (42, .aload_n 0), (43, .aload_n 0), (44, .invokevirtual 281), (47, .iload_n 2), (48, .invokevirtual 284), (51, .istore_n 3), (52, .iload_n 3), (53, .aload_n 0), (54, .aload_n 0), (55, .invokevirtual 281), (58, .iload_n 2), (59, .invokevirtual 287), (62, .ixor), (63, .ireturn), (64, .aload_n 0), (65, .bipush 60), (67, .invokevirtual 275), (70, .aload_n 0), (71, .iconst 5), (72, .invokestatic 182), (75, .iload_n 2), (76, .invokevirtual 290), (79, .istore_n 3), (80, .iload_n 3), (81, .aload_n 0), (82, .aload_n 0), (83, .invokevirtual 281), (86, .iconst 2), (87, .invokevirtual 278), (90, .isub), (91, .ireturn), (92, .aload_n 0), (93, .bipush 71), (95, .invokevirtual 275), (98, .aload_n 0), (99, .aload_n 0), (100, .invokevirtual 281), (103, .iload_n 2), (104, .invokevirtual 284), (107, .istore_n 3), (108, .iload_n 3), (109, .aload_n 0), (110, .bipush 6), (112, .invokestatic 182), (115, .iload_n 2), (116, .invokevirtual 290), (119, .isub), (120, .ireturn), (121, .aload_n 0), (122, .iload_n 1), (123, .invokestatic 182), (126, .iload_n 2), (127, .invokevirtual 290), (130, .ireturn)]
def mi_k217 : List (Nat × Instr) := [(0, .aload_n 0), (1, .iload_n 1), (2, .invokevirtual 163), (5, .ifCond .eq 15), (8, .iload_n 2), (9, .i2l), (10, .lconst 0), (11, .ldc2_w 293), (14, .invokestatic 44), (17, .ifCond .ne 9), (20, .aload_n 0), (21, .iconst 1), (22, .invokevirtual 109), (25, .ireturn), (26, .aload_n 0), (27, .iconst 0), (28, .putfield 269), (31, .aload_n 0), (32, .iload_n 1), (33, .putfield 272), (36, .aload_n 0), (37, .invokevirtual 281), (40, .istore 4), (42, .iload_n 2), (43, .ifCond .ne 13), (46, .aload_n 0), (47, .iload 4), (49, .iload_n 3), (50, .invokevirtual 278), (53, .goto 40), (56, .iload_n 2), (57, .iconst 1), (58, .if_icmp .ne 13), (61, .aload_n 0), (62, .iload 4), (64, .iload_n 3), (65, .invokevirtual 284), (68, .goto 25), (71, .iload_n 2), (72, .iconst 2), (73, .if_icmp .ne 13), (76, .aload_n 0), (77, .iload 4), (79, .iload_n 3), (80, .invokevirtual 287), (83, .goto 10), (86, .aload_n 0), (87, .iload 4), (89, .iload_n 3), (90, .invokevirtual 290), (93, .ireturn)]
def mi_k218 : List (Nat × Instr) := [(0, .iload_n 1), (1, .i2l), (2, .lconst 0), (3, .aload_n 0), (4, .getfield 269), (7, .iconst 1), (8, .isub), (9, .i2l), (10, .invokestatic 44), (13, .ifCond .eq 12), (16, .aload_n 0), (17, .getfield 28), (20, .iload_n 1), (21, .iaload), (22, .goto 8), (25, .aload_n 0), (26, .iconst 2), (27, .invokevirtual 109), (30, .ireturn)]
def mi_k219 : List (Nat × Instr) := [(0, .iload_n 0), (1, .i2l), (2, .lconst 0), (3, .ldc2_w 293), (6, .invokestatic 44), (9, .ireturn)]
def mi_k220 : List (Nat × Instr) := [(0, .iload_n 1), (1, .invokestatic 295), (4, .ifCond .eq 25), (7, .iload_n 2), (8, .ifCond .eq 27), (11, .iload_n 2), (12, .bipush 8), (14, .if_icmp .eq 21), (17, .iload_n 2), (18, .bipush 16), (20, .if_icmp .eq 15), (23, .iload_n 2), (24, .bipush 32), (26, .if_icmp .eq 9), (29, .aload_n 0), (30, .iconst 1), (31, .invokevirtual 109), (34, .ireturn), (35, .iload_n 2), (36, .ifCond .eq 13), (39, .iload_n 3), (40, .ifCond .ge 9), (43, .aload_n 0), (44, .iconst 3), (45, .invokevirtual 109), (48, .ireturn), (49, .iload_n 2), (50, .ifCond .eq 15), (53, .iload_n 3), (54, .bipush 40), (56, .if_icmp .le 9), (59, .aload_n 0), (60, .iconst 1), (61, .invokevirtual 109), (64, .ireturn), (65, .aload_n 0), (66, .getfield 31), (69, .iload_n 1), (70, .iload_n 2), (71, .iastore), (72, .aload_n 0), (73, .getfield 34), (76, .iload_n 1), (77, .iload_n 2), (78, .ifCond .ne 7), (81, .iconst 0), (82, .goto 4), (85, .iload_n 3), (86, .iastore), (87, .iconst 0), (88, .istore 4), (90, .iload 4), (92, .bipush 40), (94, .if_icmp .ge 22), (97, .aload_n 0), (98, .getfield 37), (101, .bipush 40), (103, .iload_n 1), (104, .imul), (105, .iload 4), (107, .iadd), (108, .iconst 0), (109, .iastore), (110, .iinc 4 1), (113, .goto (-23)), (116, .iconst 1), (117, .ireturn)]
def mi_k221 : List (Nat × Instr) := [(0, .iload_n 1), (1, .invokestatic 295), (4, .ifCond .ne 9), (7, .aload_n 0), (8, .iconst 1), (9, .invokevirtual 109), (12, .ireturn), (13, .aload_n 0), (14, .getfield 31), (17, .iload_n 1), (18, .iaload), (19, .ifCond .ne 9), (22, .aload_n 0), (23, .iconst 2), (24, .invokevirtual 109), (27, .ireturn), (28, .iload_n 2), (29, .i2l), (30, .lconst 0), (31, .aload_n 0), (32, .getfield 34), (35, .iload_n 1), (36, .iaload), (37, .iconst 1), (38, .isub), (39, .i2l), (40, .invokestatic 44), (43, .ifCond .ne 9), (46, .aload_n 0), (47, .iconst 1), (48, .invokevirtual 109), (51, .ireturn), (52, .aload_n 0), (53, .getfield 37), (56, .bipush 40), (58, .iload_n 1), (59, .imul), (60, .iload_n 2), (61, .iadd), (62, .aload_n 0), (63, .getfield 31), (66, .iload_n 1), (67, .iaload), (68, .bipush 8), (70, .if_icmp .ne 8), (73, .iload_n 3), (74, .i2b), (75, .goto 20), (78, .aload_n 0), (79, .getfield 31), (82, .iload_n 1), (83, .iaload), (84, .bipush 16), (86, .if_icmp .ne 8), (89, .iload_n 3), (90, .i2s), (91, .goto 4), (94, .iload_n 3), (95, .iastore), (96, .iconst 1), (97, .ireturn)]
def mi_k222 : List (Nat × Instr) := [(0, .iload_n 1), (1, .invokestatic 295), (4, .ifCond .eq 10), (7, .iload_n 3), (8, .invokestatic 295), (11, .ifCond .ne 9), (14, .aload_n 0), (15, .iconst 1), (16, .invokevirtual 109), (19, .ireturn), (20, .aload_n 0), (21, .getfield 31), (24, .iload_n 1), (25, .iaload), (26, .ifCond .eq 12), (29, .aload_n 0), (30, .getfield 31), (33, .iload_n 3), (34, .iaload), (35, .ifCond .ne 9), (38, .aload_n 0), (39, .iconst 2), (40, .invokevirtual 109), (43, .ireturn), (44, .aload_n 0), (45, .getfield 31), (48, .iload_n 1), (49, .iaload), (50, .aload_n 0), (51, .getfield 31), (54, .iload_n 3), (55, .iaload), (56, .if_icmp .eq 9), (59, .aload_n 0), (60, .iconst 5), (61, .invokevirtual 109), (64, .ireturn), (65, .iload 5), (67, .ifCond .lt 39), (70, .iload_n 2), (71, .ifCond .lt 35), (74, .iload 4), (76, .ifCond .lt 30), (79, .iload 5), (81, .aload_n 0), (82, .getfield 34), (85, .iload_n 1), (86, .iaload), (87, .iload_n 2), (88, .isub), (89, .if_icmp .gt 17), (92, .iload 5), (94, .aload_n 0), (95, .getfield 34), (98, .iload_n 3), (99, .iaload), (100, .iload 4), (102, .isub), (103, .if_icmp .le 9), (106, .aload_n 0), (107, .iconst 1), (108, .invokevirtual 109), (111, .ireturn), (112, .iconst 0), (113, .istore 6), (115, .iload 6), (117, .iload 5), (119, .if_icmp .ge 30), (122, .aload_n 0), (123, .getfield 40), (126, .iload 6), (128, .aload_n 0), (129, .getfield 37), (132, .bipush 40), (134, .iload_n 1), (135, .imul), (136, .iload_n 2), (137, .iadd), (138, .iload 6), (140, .iadd), (141, .iaload), (142, .iastore), (143, .iinc 6 1), (146, .goto (-31)), (149, .iconst 0), (150, .istore 6), (152, .iload 6), (154, .iload 5), (156, .if_icmp .ge 31), (159, .aload_n 0), (160, .getfield 37), (163, .bipush 40), (165, .iload_n 3), (166, .imul), (167, .iload 4), (169, .iadd), (170, .iload 6), (172, .iadd), (173, .aload_n 0), (174, .getfield 40), (177, .iload 6), (179, .iaload), (180, .iastore), (181, .iinc 6 1), (184, .goto (-32)), (187, .iload 5), (189, .ireturn)]
def mi_k223 : List (Nat × Instr) := [(0, .iload_n 1), (1, .invokestatic 295), (4, .ifCond .ne 9), (7, .aload_n 0), (8, .iconst 1), (9, .invokevirtual 109), (12, .ireturn), (13, .aload_n 0), (14, .getfield 31), (17, .iload_n 1), (18, .iaload), (19, .ifCond .ne 9), (22, .aload_n 0), (23, .iconst 2), (24, .invokevirtual 109), (27, .ireturn), (28, .iconst 0), (29, .istore_n 2), (30, .iload_n 2), (31, .aload_n 0), (32, .getfield 34), (35, .iload_n 1), (36, .iaload), (37, .if_icmp .ge 48), (40, .aload_n 0), (41, .iload_n 2), (42, .aload_n 0), (43, .getfield 37), (46, .bipush 40), (48, .iload_n 1), (49, .imul), (50, .iload_n 2), (51, .iadd), (52, .iaload), (53, .invokevirtual 143), (56, .ifCond .ne 29), (59, .aload_n 0), (60, .getfield 7), (63, .bipush 10), (65, .iload_n 2), (66, .iadd), (67, .aload_n 0), (68, .getfield 37), (71, .bipush 40), (73, .iload_n 1), (74, .imul), (75, .iload_n 2), (76, .iadd), (77, .iaload), (78, .iastore), (79, .iinc 2 1), (82, .goto (-52)), (85, .iload_n 2), (86, .ireturn)]
def mi_k224 : List (Nat × Instr) := [(0, .iload_n 1), (1, .invokestatic 295), (4, .ifCond .ne 9), (7, .aload_n 0), (8, .iconst 1), (9, .invokevirtual 109), (12, .ireturn), (13, .aload_n 0), (14, .getfield 31), (17, .iload_n 1), (18, .iaload), (19, .ifCond .ne 9), (22, .aload_n 0), (23, .iconst 2), (24, .invokevirtual 109), (27, .ireturn), (28, .iconst 0), (29, .istore_n 2), (30, .iload_n 2), (31, .aload_n 0), (32, .getfield 34), (35, .iload_n 1), (36, .iaload), (37, .if_icmp .ge 40), (40, .iload_n 2), (41, .aload_n 0), (42, .getfield 7), (45, .iconst 0), (46, .iaload), (47, .if_icmp .ge 30), (50, .aload_n 0), (51, .getfield 37), (54, .bipush 40), (56, .iload_n 1), (57, .imul), (58, .iload_n 2), (59, .iadd), (60, .iaload), (61, .aload_n 0), (62, .iload_n 2), (63, .bipush 6), (65, .invokevirtual 125), (68, .if_icmp .ne 9), (71, .iinc 2 1), (74, .goto (-44)), (77, .iload_n 2), (78, .aload_n 0), (79, .getfield 34), (82, .iload_n 1), (83, .iaload), (84, .if_icmp .ne 17), (87, .iload_n 2), (88, .aload_n 0), (89, .getfield 7), (92, .iconst 0), (93, .iaload), (94, .if_icmp .ne 7), (97, .iconst (-1)), (98, .goto 4), (101, .iload_n 2), (102, .ireturn)]
def mi_k225 : List (Nat × Instr) := [(0, .iconst 0), (1, .istore_n 1), (2, .iload_n 1), (3, .sipush 286), (6, .if_icmp .ge 21), (9, .aload_n 0), (10, .getfield 13), (13, .iload_n 1), (14, .aload_n 0), (15, .getfield 7), (18, .iload_n 1), (19, .iaload), (20, .iastore), (21, .iinc 1 1), (24, .goto (-22)), (27, .aload_n 0), (28, .dup), (29, .getfield 298), (32, .iconst 1), (33, .iadd), (34, .putfield 298), (37, .aload_n 0), (38, .getfield 298), (41, .ireturn)]
def mi_k226 : List (Nat × Instr) := [(0, .aload_n 0), (1, .getfield 298), (4, .ifCond .ne 9), (7, .aload_n 0), (8, .iconst 2), (9, .invokevirtual 109), (12, .ireturn), (13, .iconst 0), (14, .istore_n 1), (15, .iload_n 1), (16, .sipush 286), (19, .if_icmp .ge 21), (22, .aload_n 0), (23, .getfield 7), (26, .iload_n 1), (27, .aload_n 0), (28, .getfield 13), (31, .iload_n 1), (32, .iaload), (33, .iastore), (34, .iinc 1 1), (37, .goto (-22)), (40, .aload_n 0), (41, .getfield 7), (44, .iconst 1), (45, .iaload), (46, .ireturn)]
def mi_k227 : List (Nat × Instr) := [(0, .aload_n 0), (1, .getfield 7), (4, .bipush 7), (6, .iaload), (7, .bipush 20), (9, .if_icmp .ne 9), (12, .aload_n 0), (13, .iconst 4), (14, .invokevirtual 109), (17, .ireturn), (18, .aload_n 0), (19, .getfield 7), (22, .bipush 116), (24, .aload_n 0), (25, .getfield 7), (28, .bipush 7), (30, .iaload), (31, .iadd), (32, .iload_n 1), (33, .iastore), (34, .aload_n 0), (35, .getfield 7), (38, .bipush 7), (40, .dup2), (41, .iaload), (42, .iconst 1), (43, .iadd), (44, .iastore), (45, .aload_n 0), (46, .getfield 7), (49, .bipush 7), (51, .iaload), (52, .ireturn)]
def mi_k228 : List (Nat × Instr) := [(0, .aload_n 0), (1, .getfield 7), (4, .bipush 7), (6, .iaload), (7, .istore_n 1), (8, .aload_n 0), (9, .getfield 7), (12, .bipush 7), (14, .iconst 0), (15, .iastore), (16, .aload_n 0), (17, .invokevirtual 226), (20, .iconst 0), (21, .istore_n 2), (22, .iconst 1), (23, .istore_n 3), (24, .iload_n 2), (25, .iload_n 1), (26, .if_icmp .ge 50), (29, .iload_n 3), (30, .ifCond .eq 46), (33, .aload_n 0), (34, .iconst 0), (35, .invokevirtual 213), (38, .aload_n 0), (39, .iconst 2), (40, .invokevirtual 217), (43, .aload_n 0), (44, .getfield 7), (47, .bipush 116), (49, .iload_n 2), (50, .iadd), (51, .iaload), (52, .if_icmp .ne 7), (55, .iconst 1), (56, .goto 4), (59, .iconst 0), (60, .istore_n 3), (61, .iload_n 2), (62, .iload_n 3), (63, .ifCond .eq 7), (66, .iconst 1), (67, .goto 4), (70, .iconst 0), (71, .iadd), (72, .istore_n 2), (73, .goto (-49)), (76, .aload_n 0), (77, .invokevirtual 229), (80, .iload_n 2), (81, .iload_n 1), (82, .if_icmp .ne 7), (85, .iconst 0), (86, .goto 6), (89, .iconst 1), (90, .iload_n 2), (91, .iadd), (92, .ireturn)]
def mi_k229 : List (Nat × Instr) := [(0, .iload_n 1), (1, .tableswitch 134 0 10 #[59, 66, 73, 80, 86, 92, 99, 106, 114, 122, 127]), (60, .aload_n 0), (61, .getfield 7), (64, .iconst 0), (65, .iaload), (66, .ireturn), (67, .aload_n 0), (68, .bipush 24), (70, .invokevirtual 140), (73, .ireturn), (74, .aload_n 0), (75, .getfield 7), (78, .iconst 1), (79, .iaload), (80, .ireturn), (81, .aload_n 0), (82, .iconst 1), (83, .invokevirtual 217), (86, .ireturn), (87, .aload_n 0), (88, .iconst 2), (89, .invokevirtual 217), (92, .ireturn), (93, .aload_n 0), (94, .getfield 7), (97, .iconst 2), (98, .iaload), (99, .ireturn), (100, .aload_n 0), (101, .getfield 7), (104, .iconst 3), (105, .iaload), (106, .ireturn), (107, .aload_n 0), (108, .getfield 7), (111, .bipush 6), (113, .iaload), (114, .ireturn), (115, .aload_n 0), (116, .getfield 7), (119, .bipush 7), (121, .iaload), (122, .ireturn), (123, .aload_n 0), (124, .getfield 269), (127, .ireturn), (128, .aload_n 0), (129, .getfield 7), (132, .iconst 4), (133, .iaload), (134, .ireturn), (135, .aload_n 0), (136, .iconst 1), (137, .invokevirtual 109), (140, .ireturn)]
def mi_k230 : List (Nat × Instr) := [(0, .iload_n 1), (1, .i2l), (2, .lconst 1), (3, .ldc2_w 135), (6, .invokestatic 44), (9, .ifCond .eq 12), (12, .aload_n 0), (13, .getfield 19), (16, .iload_n 1), (17, .iaload), (18, .goto 8), (21, .aload_n 0), (22, .iconst 1), (23, .invokevirtual 109), (26, .ireturn)]
def mi_k231 : List (Nat × Instr) := [(0, .new 7), (3, .dup), (4, .invokespecial 9), (7, .astore_n 1), (8, .new 10), (11, .dup), (12, .invokespecial 12), (15, .astore_n 2), (16, .iconst 0), (17, .istore_n 3), (18, .iload_n 3), (19, .aload_n 0), (20, .arraylength), (21, .bipush 6), (23, .isub), (24, .if_icmp .gt 1205), (27, .aload_n 0), (28, .iload_n 3), (29, .iaload), (30, .bipush 63), (32, .iand), (33, .tableswitch 1190 0 34 #[155, 188, 221, 274, 307, 340, 373, 406, 429, 492, 515, 568, 591, 614, 657, 670, 683, 716, 739, 762, 785, 798, 821, 864, 887, 930, 973, 1036, 1059, 1082, 1095, 1108, 1131, 1144, 1167]), (188, .aload_n 1), (189, .aload_n 0), (190, .iload_n 3), (191, .iconst 1), (192, .iadd), (193, .iaload), (194, .aload_n 0), (195, .iload_n 3), (196, .iconst 2), (197, .iadd), (198, .iaload), (199, .invokevirtual 13), (202, .aload_n 2), (203, .aload_n 0), (204, .iload_n 3), (205, .iconst 1), (206, .iadd), (207, .iaload), (208, .aload_n 0), (209, .iload_n 3), (210, .iconst 2), (211, .iadd), (212, .iaload), (213, .invokevirtual 17), (216, .if_icmp .eq 1007), (219, .iconst 0), (220, .ireturn), (221, .aload_n 1), (222, .aload_n 0), (223, .iload_n 3), (224, .iconst 1), (225, .iadd), (226, .iaload), (227, .aload_n 0), (228, .iload_n 3), (229, .iconst 2), (230, .iadd), (231, .iaload), (232, .invokevirtual 18), (235, .aload_n 2), (236, .aload_n 0), (237, .iload_n 3), (238, .iconst 1), (239, .iadd), (240, .iaload), (241, .aload_n 0), (242, .iload_n 3), (243, .iconst 2), (244, .iadd), (245, .iaload), (246, .invokevirtual 21), (249, .if_icmp .eq 974), (252, .iconst 0), (253, .ireturn), (254, .aload_n 1), (255, .aload_n 0), (256, .iload_n 3), (257, .iconst 1), (258, .iadd), (259, .iaload), (260, .aload_n 0), (261, .iload_n 3), (262, .iconst 2), (263, .iadd), (264, .iaload), (265, .aload_n 0), (266, .iload_n 3), (267, .iconst 3), (268, .iadd), (269, .iaload), (270, .aload_n 0), (271, .iload_n 3), (272, .iconst 4), (273, .iadd), (274, .iaload), (275, .invokevirtual 22), (278, .aload_n 2), (279, .aload_n 0), (280, .iload_n 3), (281, .iconst 1), (282, .iadd), (283, .iaload), (284, .aload_n 0), (285, .iload_n 3), (286, .iconst 2), (287, .iadd), (288, .iaload), (289, .aload_n 0), (290, .iload_n 3), (291, .iconst 3), (292, .iadd), (293, .iaload), (294, .aload_n 0), (295, .iload_n 3), (296, .iconst 4), (297, .iadd), (298, .iaload), (299, .invokevirtual 26), (302, .if_icmp .eq 921), (305, .iconst 0), (306, .ireturn), (307, .aload_n 1), (308, .aload_n 0), (309, .iload_n 3), (310, .iconst 1), (311, .iadd), (312, .iaload), (313, .aload_n 0), (314, .iload_n 3), (315, .iconst 2), (316, .iadd), (317, .iaload), (318, .invokevirtual 27), (321, .aload_n 2), (322, .aload_n 0), (323, .iload_n 3), (324, .iconst 1), (325, .iadd), (326, .iaload), (327, .aload_n 0), (328, .iload_n 3), (329, .iconst 2), (330, .iadd), (331, .iaload), (332, .invokevirtual 30), (335, .if_icmp .eq 888), (338, .iconst 0), (339, .ireturn), (340, .aload_n 1), (341, .aload_n 0), (342, .iload_n 3), (343, .iconst 1), (344, .iadd), (345, .iaload), (346, .aload_n 0), (347, .iload_n 3), (348, .iconst 2), (349, .iadd), (350, .iaload), (351, .invokevirtual 31), (354, .aload_n 2), (355, .aload_n 0), (356, .iload_n 3), (357, .iconst 1), (358, .iadd), (359, .iaload), (360, .aload_n 0), (361, .iload_n 3), (362, .iconst 2), (363, .iadd), (364, .iaload), (365, .invokevirtual 34), (368, .if_icmp .eq 855), (371, .iconst 0), (372, .ireturn), (373, .aload_n 1), (374, .aload_n 0), (375, .iload_n 3), (376, .iconst 1), (377, .iadd), (378, .iaload), (379, .aload_n 0), (380, .iload_n 3), (381, .iconst 2), (382, .iadd), (383, .iaload), (384, .invokevirtual 35), (387, .aload_n 2), (388, .aload_n 0), (389, .iload_n 3), (390, .iconst 1), (391, .iadd), (392, .iaload), (393, .aload_n 0), (394, .iload_n 3), (395, .iconst 2), (396, .iadd), (397, .iaload), (398, .invokevirtual 38), (401, .if_icmp .eq 822), (404, .iconst 0), (405, .ireturn), (406, .aload_n 1), (407, .aload_n 0), (408, .iload_n 3), (409, .iconst 1), (410, .iadd), (411, .iaload), (412, .aload_n 0), (413, .iload_n 3), (414, .iconst 2), (415, .iadd), (416, .iaload), (417, .invokevirtual 39), (420, .aload_n 2), (421, .aload_n 0), (422, .iload_n 3), (423, .iconst 1), (424, .iadd), (425, .iaload), (426, .aload_n 0), (427, .iload_n 3), (428, .iconst 2), (429, .iadd), (430, .iaload), (431, .invokevirtual 42), (434, .if_icmp .eq 789), (437, .iconst 0), (438, .ireturn), (439, .aload_n 1), (440, .aload_n 0), (441, .iload_n 3), (442, .iconst 1), (443, .iadd), (444, .iaload), (445, .invokevirtual 43), (448, .aload_n 2), (449, .aload_n 0), (450, .iload_n 3), (451, .iconst 1), (452, .iadd), (453, .iaload), (454, .invokevirtual 47), (457, .if_icmp .eq 766), (460, .iconst 0), (461, .ireturn), (462, .aload_n 1), (463, .aload_n 0), (464, .iload_n 3), (465, .iconst 1), (466, .iadd), (467, .iaload), (468, .i2l), (469, .bipush 32), (471, .lshl), (472, .aload_n 0), (473, .iload_n 3), (474, .iconst 2), (475, .iadd), (476, .iaload), (477, .i2l), (478, .ldc2_w 48), (481, .land), (482, .lor), (483, .aload_n 0), (484, .iload_n 3), (485, .iconst 3), (486, .iadd), (487, .iaload), (488, .invokevirtual 50), (491, .aload_n 2), (492, .aload_n 0), (493, .iload_n 3), (494, .iconst 1), (495, .iadd), (496, .iaload), (497, .i2l), (498, .bipush 32), (500, .lshl), (501, .aload_n 0), (502, .iload_n 3), (503, .iconst 2), (504, .iadd), (505, .iaload), (506, .i2l), (507, .ldc2_w 48), (510, .land), (511, .lor), (512, .aload_n 0), (513, .iload_n 3), (514, .iconst 3), (515, .iadd), (516, .iaload), (517, .invokevirtual 54), (520, .if_icmp .eq 703), (523, .iconst 0), (524, .ireturn), (525, .aload_n 1), (526, .aload_n 0), (527, .iload_n 3), (528, .iconst 1), (529, .iadd), (530, .iaload), (531, .invokevirtual 55), (534, .aload_n 2), (535, .aload_n 0), (536, .iload_n 3), (537, .iconst 1), (538, .iadd), (539, .iaload), (540, .invokevirtual 58), (543, .if_icmp .eq 680), (546, .iconst 0), (547, .ireturn), (548, .aload_n 1), (549, .aload_n 0), (550, .iload_n 3), (551, .iconst 1), (552, .iadd), (553, .iaload), (554, .aload_n 0), (555, .iload_n 3), (556, .iconst 2), (557, .iadd), (558, .iaload), (559, .aload_n 0), (560, .iload_n 3), (561, .iconst 3), (562, .iadd), (563, .iaload), (564, .aload_n 0), (565, .iload_n 3), (566, .iconst 4), (567, .iadd), (568, .iaload), (569, .invokevirtual 59), (572, .aload_n 2), (573, .aload_n 0), (574, .iload_n 3), (575, .iconst 1), (576, .iadd), (577, .iaload), (578, .aload_n 0), (579, .iload_n 3), (580, .iconst 2), (581, .iadd), (582, .iaload), (583, .aload_n 0), (584, .iload_n 3), (585, .iconst 3), (586, .iadd), (587, .iaload), (588, .aload_n 0), (589, .iload_n 3), (590, .iconst 4), (591, .iadd), (592, .iaload), (593, .invokevirtual 62), (596, .if_icmp .eq 627), (599, .iconst 0), (600, .ireturn), (601, .aload_n 1), (602, .aload_n 0), (603, .iload_n 3), (604, .iconst 1), (605, .iadd), (606, .iaload), (607, .invokevirtual 63), (610, .aload_n 2), (611, .aload_n 0), (612, .iload_n 3), (613, .iconst 1), (614, .iadd), (615, .iaload), (616, .invokevirtual 66), (619, .if_icmp .eq 604), (622, .iconst 0), (623, .ireturn), (624, .aload_n 1), (625, .aload_n 0), (626, .iload_n 3), (627, .iconst 1), (628, .iadd), (629, .iaload), (630, .invokevirtual 67), (633, .aload_n 2), (634, .aload_n 0), (635, .iload_n 3), (636, .iconst 1), (637, .iadd), (638, .iaload), (639, .invokevirtual 70), (642, .if_icmp .eq 581), (645, .iconst 0), (646, .ireturn), (647, .aload_n 1), (648, .aload_n 0), (649, .iload_n 3), (650, .iconst 1), (651, .iadd), (652, .iaload), (653, .aload_n 0), (654, .iload_n 3), (655, .iconst 2), (656, .iadd), (657, .iaload), (658, .aload_n 0), (659, .iload_n 3), (660, .iconst 3), (661, .iadd), (662, .iaload), (663, .invokevirtual 71), (666, .aload_n 2), (667, .aload_n 0), (668, .iload_n 3), (669, .iconst 1), (670, .iadd), (671, .iaload), (672, .aload_n 0), (673, .iload_n 3), (674, .iconst 2), (675, .iadd), (676, .iaload), (677, .aload_n 0), (678, .iload_n 3), (679, .iconst 3), (680, .iadd), (681, .iaload), (682, .invokevirtual 75), (685, .if_icmp .eq 538), (688, .iconst 0), (689, .ireturn), (690, .aload_n 1), (691, .invokevirtual 76), (694, .aload_n 2), (695, .invokevirtual 80), (698, .if_icmp .eq 525), (701, .iconst 0), (702, .ireturn), (703, .aload_n 1), (704, .invokevirtual 81), (707, .aload_n 2), (708, .invokevirtual 84), (711, .if_icmp .eq 512), (714, .iconst 0), (715, .ireturn), (716, .aload_n 1), (717, .aload_n 0), (718, .iload_n 3), (719, .iconst 1), (720, .iadd), (721, .iaload), (722, .aload_n 0), (723, .iload_n 3), (724, .iconst 2), (725, .iadd), (726, .iaload), (727, .invokevirtual 85), (730, .aload_n 2), (731, .aload_n 0), (732, .iload_n 3), (733, .iconst 1), (734, .iadd), (735, .iaload), (736, .aload_n 0), (737, .iload_n 3), (738, .iconst 2), (739, .iadd), (740, .iaload), (741, .invokevirtual 88), (744, .if_icmp .eq 479), (747, .iconst 0), (748, .ireturn), (749, .aload_n 1), (750, .aload_n 0), (751, .iload_n 3), (752, .iconst 1), (753, .iadd), (754, .iaload), (755, .invokevirtual 89), (758, .aload_n 2), (759, .aload_n 0), (760, .iload_n 3), (761, .iconst 1), (762, .iadd), (763, .iaload), (764, .invokevirtual 92), (767, .if_icmp .eq 456), (770, .iconst 0), (771, .ireturn), (772, .aload_n 1), (773, .aload_n 0), (774, .iload_n 3), (775, .iconst 1), (776, .iadd), (777, .iaload), (778, .invokevirtual 93), (781, .aload_n 2), (782, .aload_n 0), (783, .iload_n 3), (784, .iconst 1), (785, .iadd), (786, .iaload), (787, .invokevirtual 96), (790, .if_icmp .eq 433), (793, .iconst 0), (794, .ireturn), (795, .aload_n 1), (796, .aload_n 0), (797, .iload_n 3), (798, .iconst 1), (799, .iadd), (800, .iaload), (801, .invokevirtual 97), (804, .aload_n 2), (805, .aload_n 0), (806, .iload_n 3), (807, .iconst 1), (808, .iadd), (809, .iaload), (810, .invokevirtual 100), (813, .if_icmp .eq 410), (816, .iconst 0), (817, .ireturn), (818, .aload_n 1), (819, .invokevirtual 101), (822, .aload_n 2), (823, .invokevirtual 104), (826, .if_icmp .eq 397), (829, .iconst 0), (830, .ireturn), (831, .aload_n 1), (832, .aload_n 0), (833, .iload_n 3), (834, .iconst 1), (835, .iadd), (836, .iaload), (837, .invokevirtual 105), (840, .aload_n 2), (841, .aload_n 0), (842, .iload_n 3), (843, .iconst 1), (844, .iadd), (845, .iaload), (846, .invokevirtual 108), (849, .if_icmp .eq 374), (852, .iconst 0), (853, .ireturn), (854, .aload_n 1), (855, .aload_n 0), (856, .iload_n 3), (857, .iconst 1), (858, .iadd), (859, .iaload), (860, .aload_n 0), (861, .iload_n 3), (862, .iconst 2), (863, .iadd), (864, .iaload), (865, .aload_n 0), (866, .iload_n 3), (867, .iconst 3), (868, .iadd), (869, .iaload), (870, .invokevirtual 109), (873, .aload_n 2), (874, .aload_n 0), (875, .iload_n 3), (876, .iconst 1), (877, .iadd), (878, .iaload), (879, .aload_n 0), (880, .iload_n 3), (881, .iconst 2), (882, .iadd), (883, .iaload), (884, .aload_n 0), (885, .iload_n 3), (886, .iconst 3), (887, .iadd), (888, .iaload), (889, .invokevirtual 112), (892, .if_icmp .eq 331), (895, .iconst 0), (896, .ireturn), (897, .aload_n 1), (898, .aload_n 0), (899, .iload_n 3), (900, .iconst 1), (901, .iadd), (902, .iaload), (903, .invokevirtual 113), (906, .aload_n 2), (907, .aload_n 0), (908, .iload_n 3), (909, .iconst 1), (910, .iadd), (911, .iaload), (912, .invokevirtual 116), (915, .if_icmp .eq 308), (918, .iconst 0), (919, .ireturn), (920, .aload_n 1), (921, .aload_n 0), (922, .iload_n 3), (923, .iconst 1), (924, .iadd), (925, .iaload), (926, .aload_n 0), (927, .iload_n 3), (928, .iconst 2), (929, .iadd), (930, .iaload), (931, .aload_n 0), (932, .iload_n 3), (933, .iconst 3), (934, .iadd), (935, .iaload), (936, .invokevirtual 117), (939, .aload_n 2), (940, .aload_n 0), (941, .iload_n 3), (942, .iconst 1), (943, .iadd), (944, .iaload), (945, .aload_n 0), (946, .iload_n 3), (947, .iconst 2), (948, .iadd), (949, .iaload), (950, .aload_n 0), (951, .iload_n 3), (952, .iconst 3), (953, .iadd), (954, .iaload), (955, .invokevirtual 120), (958, .if_icmp .eq 265), (961, .iconst 0), (962, .ireturn), (963, .aload_n 1), (964, .aload_n 0), (965, .iload_n 3), (966, .iconst 1), (967, .iadd), (968, .iaload), (969, .aload_n 0), (970, .iload_n 3), (971, .iconst 2), (972, .iadd), (973, .iaload), (974, .aload_n 0), (975, .iload_n 3), (976, .iconst 3), (977, .iadd), (978, .iaload), (979, .invokevirtual 121), (982, .aload_n 2), (983, .aload_n 0), (984, .iload_n 3), (985, .iconst 1), (986, .iadd), (987, .iaload), (988, .aload_n 0), (989, .iload_n 3), (990, .iconst 2), (991, .iadd), (992, .iaload), (993, .aload_n 0), (994, .iload_n 3), (995, .iconst 3), (996, .iadd), (997, .iaload), (998, .invokevirtual 124), (1001, .if_icmp .eq 222), (1004, .iconst 0), (1005, .ireturn), (1006, .aload_n 1), (1007, .aload_n 0), (1008, .iload_n 3), (1009, .iconst 1), (1010, .iadd), (1011, .iaload), (1012, .aload_n 0), (1013, .iload_n 3), (1014, .iconst 2), (1015, .iadd), (1016, .iaload), (1017, .aload_n 0), (1018, .iload_n 3), (1019, .iconst 3), (1020, .iadd), (1021, .iaload), (1022, .aload_n 0), (1023, .iload_n 3), (1024, .iconst 4), (1025, .iadd), (1026, .iaload), (1027, .aload_n 0), (1028, .iload_n 3), (1029, .iconst 5), (1030, .iadd), (1031, .iaload), (1032, .invokevirtual 125), (1035, .aload_n 2), (1036, .aload_n 0), (1037, .iload_n 3), (1038, .iconst 1), (1039, .iadd), (1040, .iaload), (1041, .aload_n 0), (1042, .iload_n 3), (1043, .iconst 2), (1044, .iadd), (1045, .iaload), (1046, .aload_n 0), (1047, .iload_n 3), (1048, .iconst 3), (1049, .iadd), (1050, .iaload), (1051, .aload_n 0), (1052, .iload_n 3), (1053, .iconst 4), (1054, .iadd), (1055, .iaload), (1056, .aload_n 0), (1057, .iload_n 3), (1058, .iconst 5), (1059, .iadd), (1060, .iaload), (1061, .invokevirtual 129), (1064, .if_icmp .eq 159), (1067, .iconst 0), (1068, .ireturn), (1069, .aload_n 1), (1070, .aload_n 0), (1071, .iload_n 3), (1072, .iconst 1), (1073, .iadd), (1074, .iaload), (1075, .invokevirtual 130), (1078, .aload_n 2), (1079, .aload_n 0), (1080, .iload_n 3), (1081, .iconst 1), (1082, .iadd), (1083, .iaload), (1084, .invokevirtual 133), (1087, .if_icmp .eq 136), (1090, .iconst 0), (1091, .ireturn), (1092, .aload_n 1), (1093, .aload_n 0), (1094, .iload_n 3), (1095, .iconst 1), (1096, .iadd), (1097, .iaload), (1098, .invokevirtual 134), (1101, .aload_n 2), (1102, .aload_n 0), (1103, .iload_n 3), (1104, .iconst 1), (1105, .iadd), (1106, .iaload), (1107, .invokevirtual 137), (1110, .if_icmp .eq 113), (1113, .iconst 0), (1114, .ireturn), (1115, .aload_n 1), (1116, .invokevirtual 138), (1119, .aload_n 2), (1120, .invokevirtual 141), (1123, .if_icmp .eq 100), (1126, .iconst 0), (1127, .ireturn), (1128, .aload_n 1), (1129, .invokevirtual 142), (1132, .aload_n 2), (1133, .invokevirtual 145), (1136, .if_icmp .eq 87), (1139, .iconst 0), (1140, .ireturn), (1141, .aload_n 1), (1142, .aload_n 0), (1143, .iload_n 3), (1144, .iconst 1), (1145, .iadd), (1146, .iaload), (1147, .invokevirtual 146), (1150, .aload_n 2), (1151, .aload_n 0), (1152, .iload_n 3), (1153, .iconst 1), (1154, .iadd), (1155, .iaload), (1156, .invokevirtual 149), (1159, .if_icmp .eq 64), (1162, .iconst 0), (1163, .ireturn), (1164, .aload_n 1), (1165, .invokevirtual 150), (1168, .aload_n 2), (1169, .invokevirtual 153), (1172, .if_icmp .eq 51), (1175, .iconst 0), (1176, .ireturn), (1177, .aload_n 1), (1178, .aload_n 0), (1179, .iload_n 3), (1180, .iconst 1), (1181, .iadd), (1182, .iaload), (1183, .invokevirtual 154), (1186, .aload_n 2), (1187, .aload_n 0), (1188, .iload_n 3), (1189, .iconst 1), (1190, .iadd), (1191, .iaload), (1192, .invokevirtual 157), (1195, .if_icmp .eq 28), (1198, .iconst 0), (1199, .ireturn), (1200, .aload_n 1), (1201, .aload_n 0), (1202, .iload_n 3), (1203, .iconst 1), (1204, .iadd), (1205, .iaload), (1206, .invokevirtual 158), (1209, .aload_n 2), (1210, .aload_n 0), (1211, .iload_n 3), (1212, .iconst 1), (1213, .iadd), (1214, .iaload), (1215, .invokevirtual 161), (1218, .if_icmp .eq 5), (1221, .iconst 0), (1222, .ireturn), (1223, .iinc 3 6), (1226, .goto (-1208)), (1229, .iconst 1), (1230, .ireturn)]
abbrev mi_Mt : Type := MethodName × ByteArray × Nat × Option FieldType × Nat × Nat × List (Nat × Instr)
def mi_mt_0 : List mi_Mt := [(yX0_init, cX0_init, 1, none, 0, 146, mi_k0), (yX0_loadOf, cX0_loadOf, 2, (some .int), 0, 467, mi_k1), (yX0_hears, cX0_hears, 1, (some .boolean), 0, 508, mi_k2), (yX0_yields, cX0_yields, 4, (some .int), 0, 939, mi_k3), (yX0_tells, cX0_tells, 4, (some .int), 0, 952, mi_k4), (yX1_init, cX1_init, 2, none, 1, 153, mi_k5), (yX1_copyFrom, cX1_copyFrom, 3, none, 1, 820, mi_k6), (yX1_isLedge, cX1_isLedge, 2, (some .boolean), 1, 399, mi_k7), (yX1_howManyLedges, cX1_howManyLedges, 1, (some .int), 1, 403, mi_k8), (yX1_ledgesBefore, cX1_ledgesBefore, 4, (some .int), 1, 407, mi_k9), (yX1_ledgeAt, cX1_ledgeAt, 2, (some .int), 1, 424, mi_k10), (yX1_yardOf, cX1_yardOf, 3, (some .int), 1, 875, mi_k11), (yX1_crowdAt, cX1_crowdAt, 4, (some .int), 1, 394, mi_k12), (yX1_howMany, cX1_howMany, 4, (some .int), 1, 803, mi_k13), (yX1_refusesRoom, cX1_refusesRoom, 3, (some .int), 1, 386, mi_k14), (yX1_rankOf, cX1_rankOf, 2, (some .int), 1, 536, mi_k15), (yX1_draw, cX1_draw, 1, (some .int), 1, 811, mi_k16), (yX1_passMinute, cX1_passMinute, 5, (some .boolean), 1, 755, mi_k17), (yX1_walk, cX1_walk, 5, (some .boolean), 1, 759, mi_k18), (yX1_isFree, cX1_isFree, 2, (some .boolean), 1, 777, mi_k19), (yX1_step, cX1_step, 4, none, 1, 781, mi_k20), (yX1_hearsSomebody, cX1_hearsSomebody, 6, (some .boolean), 1, 764, mi_k21), (yX1_meet, cX1_meet, 5, (some .boolean), 1, 790, mi_k22), (yX1_givesWay, cX1_givesWay, 5, (some .boolean), 1, 795, mi_k23), (yX1_allOver, cX1_allOver, 1, (some .boolean), 1, 839, mi_k24), (yX1_someStartLater, cX1_someStartLater, 2, (some .boolean), 1, 845, mi_k25), (yX1_runTillOver, cX1_runTillOver, 2, (some .int), 1, 835, mi_k26), (yX1_runTillStuck, cX1_runTillStuck, 3, (some .int), 1, 858, mi_k27), (yX2_init, cX2_init, 1, none, 2, 111, mi_k28), (yX2_paceOf, cX2_paceOf, 2, (some .int), 2, 447, mi_k29), (yX2_loadOf, cX2_loadOf, 2, (some .int), 2, 474, mi_k30), (yX2_canBack, cX2_canBack, 2, (some .boolean), 2, 496, mi_k31), (yX2_blows, cX2_blows, 4, (some .int), 2, 917, mi_k32), (yX3_init, cX3_init, 1, none, 3, 118, mi_k33), (yX3_loadOf, cX3_loadOf, 2, (some .int), 3, 477, mi_k34), (yX3_goes, cX3_goes, 4, (some .int), 3, 902, mi_k35), (yX4_init, cX4_init, 2, none, 4, 160, mi_k36), (yX4_turnInto, cX4_turnInto, 4, none, 4, 439, mi_k37), (yX4_sendHome, cX4_sendHome, 1, none, 4, 520, mi_k38), (yX4_leave, cX4_leave, 2, none, 4, 524, mi_k39)]
def mi_mt_1 : List mi_Mt := [(yX4_enter, cX4_enter, 1, none, 4, 799, mi_k40), (yX4_way, cX4_way, 1, (some .int), 4, 768, mi_k41), (yX4_comesAgainst, cX4_comesAgainst, 2, (some .boolean), 4, 772, mi_k42), (yX4_fact, cX4_fact, 2, (some .int), 4, 567, mi_k43), (yX4_copyFrom, cX4_copyFrom, 2, none, 4, 825, mi_k44), (yX5_init, cX5_init, 1, none, 5, 139, mi_k45), (yX5_paceOf, cX5_paceOf, 2, (some .int), 5, 451, mi_k46), (yX5_loadOf, cX5_loadOf, 2, (some .int), 5, 482, mi_k47), (yX5_tells, cX5_tells, 4, (some .int), 5, 964, mi_k48), (yX6_init, cX6_init, 2, none, 6, 241, mi_k49), (yX6_has, cX6_has, 2, (some .boolean), 6, 714, mi_k50), (yX6_hasRun, cX6_hasRun, 3, (some .boolean), 6, 1016, mi_k51), (yX6_at, cX6_at, 2, (some .int), 6, 548, mi_k52), (yX6_set, cX6_set, 3, none, 6, 710, mi_k53), (yX6_add, cX6_add, 2, (some .boolean), 6, 270, mi_k54), (yX6_last, cX6_last, 1, (some .int), 6, 559, mi_k55), (yX6_removeLast, cX6_removeLast, 1, (some .int), 6, 552, mi_k56), (yX6_clear, cX6_clear, 1, none, 6, 544, mi_k57), (yX6_zeros, cX6_zeros, 3, none, 6, 996, mi_k58), (yX6_paste, cX6_paste, 5, none, 6, 1020, mi_k59), (yX6_copyFrom, cX6_copyFrom, 2, none, 6, 734, mi_k60), (yX7_init, cX7_init, 1, none, 7, 132, mi_k61), (yX7_paceOf, cX7_paceOf, 2, (some .int), 7, 457, mi_k62), (yX7_hears, cX7_hears, 1, (some .boolean), 7, 514, mi_k63), (yX7_blows, cX7_blows, 4, (some .int), 7, 931, mi_k64), (yX8_init, cX8_init, 3, none, 8, 262, mi_k65), (yX8_copyFrom, cX8_copyFrom, 2, none, 8, 730, mi_k66), (yX8_value, cX8_value, 8, (some .int), 8, 540, mi_k67), (yX8_result, cX8_result, 3, (some .int), 8, 555, mi_k68), (yX8_faultOf, cX8_faultOf, 5, (some .int), 8, 609, mi_k69), (yX8_beginsOperand, cX8_beginsOperand, 3, (some .boolean), 8, 613, mi_k70), (yX8_goesOn, cX8_goesOn, 3, (some .boolean), 8, 702, mi_k71), (yX8_addsDigit, cX8_addsDigit, 2, (some .boolean), 8, 706, mi_k72), (yX8_closes, cX8_closes, 1, (some .boolean), 8, 718, mi_k73), (yX8_release, cX8_release, 4, none, 8, 722, mi_k74), (yX8_isDigit, cX8_isDigit, 1, (some .boolean), 8, 698, mi_k75), (yX8_levelOf, cX8_levelOf, 1, (some .int), 8, 725, mi_k76), (yX9_init, cX9_init, 1, none, 9, 104, mi_k77), (yX9_paceOf, cX9_paceOf, 2, (some .int), 9, 460, mi_k78), (yX9_loadOf, cX9_loadOf, 2, (some .int), 9, 486, mi_k79)]
def mi_mt_2 : List mi_Mt := [(yX9_canBack, cX9_canBack, 2, (some .boolean), 9, 501, mi_k80), (yX9_hears, cX9_hears, 1, (some .boolean), 9, 516, mi_k81), (yX9_goes, cX9_goes, 4, (some .int), 9, 908, mi_k82), (yX9_blows, cX9_blows, 4, (some .int), 9, 935, mi_k83), (yX9_yields, cX9_yields, 4, (some .int), 9, 926, mi_k84), (yX9_tells, cX9_tells, 4, (some .int), 9, 974, mi_k85), (yX10_init, cX10_init, 1, none, 10, 125, mi_k86), (yX10_loadOf, cX10_loadOf, 2, (some .int), 10, 470, mi_k87), (yX10_canBack, cX10_canBack, 2, (some .boolean), 10, 493, mi_k88), (yX10_yields, cX10_yields, 4, (some .int), 10, 943, mi_k89), (yX11_init, cX11_init, 2, none, 11, 95, mi_k90), (yX11_room, cX11_room, 5, (some .int), 11, 382, mi_k91), (yX11_ofYard, cX11_ofYard, 3, (some .int), 11, 417, mi_k92), (yX11_goer, cX11_goer, 7, (some .int), 11, 428, mi_k93), (yX11_ofGoer, cX11_ofGoer, 3, (some .int), 11, 528, mi_k94), (yX11_become, cX11_become, 4, (some .int), 11, 571, mi_k95), (yX11_as, cX11_as, 3, (some .int), 11, 575, mi_k96), (yX11_start, cX11_start, 5, (some .int), 11, 585, mi_k97), (yX11_home, cX11_home, 3, (some .int), 11, 590, mi_k98), (yX11_feed, cX11_feed, 5, (some .int), 11, 594, mi_k99), (yX11_text, cX11_text, 3, (some .int), 11, 600, mi_k100), (yX11_law, cX11_law, 5, (some .int), 11, 742, mi_k101), (yX11_minutes, cX11_minutes, 4, (some .int), 11, 747, mi_k102), (yX11_loose, cX11_loose, 4, (some .int), 11, 807, mi_k103), (yX11_then, cX11_then, 5, (some .int), 11, 816, mi_k104), (yX11_overBy, cX11_overBy, 1, (some .int), 11, 831, mi_k105), (yX11_stuckBy, cX11_stuckBy, 1, (some .int), 11, 854, mi_k106), (yX11_bestStart, cX11_bestStart, 10, (some .int), 11, 862, mi_k107), (yX11_spare, cX11_spare, 6, (some .int), 11, 867, mi_k108), (yX11_without, cX11_without, 3, (some .int), 11, 871, mi_k109), (yX11_newOne, cX11_newOne, 6, (some .int), 11, 879, mi_k110), (yX11_faults, cX11_faults, 3, (some .int), 11, 885, mi_k111), (yX11_seed, cX11_seed, 3, (some .int), 11, 889, mi_k112), (yX11_voice, cX11_voice, 6, (some .int), 11, 893, mi_k113), (yX11_trace, cX11_trace, 2, (some .int), 11, 980, mi_k114), (yX11_sheet, cX11_sheet, 4, (some .int), 11, 986, mi_k115), (yX11_put, cX11_put, 5, (some .int), 11, 1000, mi_k116), (yX11_move, cX11_move, 6, (some .int), 11, 1012, mi_k117), (yX11_rooms, cX11_rooms, 6, (some .int), 11, 1025, mi_k118), (yX11_judge, cX11_judge, 6, (some .int), 11, 1029, mi_k119)]
def mi_mt_3 : List mi_Mt := [(yX11_image, cX11_image, 1, (some .int), 11, 1033, mi_k120), (yX11_restore, cX11_restore, 1, (some .int), 11, 1037, mi_k121), (yX11_tell, cX11_tell, 2, (some .int), 11, 1041, mi_k122), (yX11_check, cX11_check, 3, (some .int), 11, 1045, mi_k123), (yX11_count, cX11_count, 2, (some .int), 11, 1049, mi_k124), (yX11_told, cX11_told, 2, (some .int), 11, 1053, mi_k125), (yX11_fail, cX11_fail, 3, (some .int), 11, 412, mi_k126), (yX11_orNone, cX11_orNone, 2, (some .int), 11, 849, mi_k127), (yX11_isGoer, cX11_isGoer, 2, (some .boolean), 11, 532, mi_k128), (yX11_refusesMinutes, cX11_refusesMinutes, 2, (some .int), 11, 751, mi_k129), (yX11_refusesSheet, cX11_refusesSheet, 2, (some .int), 11, 1004, mi_k130), (yX11_isYard, cX11_isYard, 1, (some .boolean), 11, 389, mi_k131), (yX11_isStart, cX11_isStart, 1, (some .boolean), 11, 434, mi_k132), (yX11_isKindAndNumber, cX11_isKindAndNumber, 1, (some .boolean), 11, 431, mi_k133), (yX11_isUse, cX11_isUse, 1, (some .boolean), 11, 603, mi_k134), (yX11_isSheet, cX11_isSheet, 1, (some .boolean), 11, 989, mi_k135), (yX11_isWidth, cX11_isWidth, 1, (some .boolean), 11, 992, mi_k136), (yX11_isUnder, cX11_isUnder, 4, (some .boolean), 11, 578, mi_k137), (yX11_lowest, cX11_lowest, 2, (some .int), 11, 1007, mi_k138), (yX12_init, cX12_init, 2, none, 12, 1058, mi_k139), (yX12_finds, cX12_finds, 2, (some .int), 12, 1147, mi_k140), (yX12_in, cX12_in, 6, (some .boolean), 12, 1143, mi_k141), (yX12_held, cX12_held, 3, (some .int), 12, 1210, mi_k142), (yX12_isGoer, cX12_isGoer, 2, (some .boolean), 12, 1266, mi_k143), (yX12_isYard, cX12_isYard, 1, (some .boolean), 12, 1221, mi_k144), (yX12_of, cX12_of, 3, (some .int), 12, 1231, mi_k145), (yX12_sets, cX12_sets, 4, none, 12, 1254, mi_k146), (yX12_keepAside, cX12_keepAside, 2, none, 12, 1368, mi_k147), (yX12_putBack, cX12_putBack, 2, none, 12, 1372, mi_k148), (yX12_here, cX12_here, 1, (some .int), 12, 1185, mi_k149), (yX12_wrong, cX12_wrong, 1, (some .int), 12, 1189, mi_k150), (yX12_takes, cX12_takes, 2, (some .boolean), 12, 1193, mi_k151), (yX12_nameOf, cX12_nameOf, 2, (some .int), 12, 1197, mi_k152), (yX12_either, cX12_either, 3, (some .int), 12, 1161, mi_k153), (yX12_both, cX12_both, 3, (some .int), 12, 1165, mi_k154), (yX12_compared, cX12_compared, 4, (some .int), 12, 1169, mi_k155), (yX12_sum, cX12_sum, 4, (some .int), 12, 1173, mi_k156), (yX12_product, cX12_product, 4, (some .int), 12, 1177, mi_k157), (yX12_unit, cX12_unit, 5, (some .int), 12, 1181, mi_k158), (yX12_worked, cX12_worked, 5, (some .int), 12, 1157, mi_k159)]
def mi_mt_4 : List mi_Mt := [(yX12_feed, cX12_feed, 5, (some .int), 12, 1139, mi_k160), (yX12_text, cX12_text, 5, (some .int), 12, 1153, mi_k161), (yX12_textGives, cX12_textGives, 6, (some .int), 12, 1207, mi_k162), (yX12_law, cX12_law, 5, (some .int), 12, 1203, mi_k163), (yX12_isLedge, cX12_isLedge, 2, (some .boolean), 12, 1235, mi_k164), (yX12_atYard, cX12_atYard, 4, (some .int), 12, 1227, mi_k165), (yX12_ledgesBefore, cX12_ledgesBefore, 4, (some .int), 12, 1239, mi_k166), (yX12_roomFinds, cX12_roomFinds, 3, (some .int), 12, 1218, mi_k167), (yX12_room, cX12_room, 5, (some .int), 12, 1214, mi_k168), (yX12_ofYard, cX12_ofYard, 3, (some .int), 12, 1243, mi_k169), (yX12_paceOf, cX12_paceOf, 2, (some .int), 12, 1271, mi_k170), (yX12_loadOf, cX12_loadOf, 4, (some .int), 12, 1275, mi_k171), (yX12_canBack, cX12_canBack, 4, (some .boolean), 12, 1283, mi_k172), (yX12_hears, cX12_hears, 2, (some .boolean), 12, 1287, mi_k173), (yX12_rankOf, cX12_rankOf, 2, (some .int), 12, 1279, mi_k174), (yX12_sendHome, cX12_sendHome, 2, none, 12, 1258, mi_k175), (yX12_goer, cX12_goer, 6, (some .int), 12, 1248, mi_k176), (yX12_ofGoer, cX12_ofGoer, 3, (some .int), 12, 1262, mi_k177), (yX12_become, cX12_become, 4, (some .int), 12, 1291, mi_k178), (yX12_above, cX12_above, 1, (some .int), 12, 1299, mi_k179), (yX12_as, cX12_as, 4, (some .int), 12, 1295, mi_k180), (yX12_start, cX12_start, 4, (some .int), 12, 1303, mi_k181), (yX12_home, cX12_home, 3, (some .int), 12, 1307, mi_k182), (yX12_faces, cX12_faces, 2, (some .int), 12, 1337, mi_k183), (yX12_against, cX12_against, 4, (some .int), 12, 1341, mi_k184), (yX12_isHeard, cX12_isHeard, 3, (some .boolean), 12, 1333, mi_k185), (yX12_meets, cX12_meets, 5, none, 12, 1351, mi_k186), (yX12_comes, cX12_comes, 3, none, 12, 1345, mi_k187), (yX12_goesOn, cX12_goesOn, 7, none, 12, 1329, mi_k188), (yX12_aMinute, cX12_aMinute, 5, none, 12, 1325, mi_k189), (yX12_howMany, cX12_howMany, 4, (some .int), 12, 1355, mi_k190), (yX12_drawn, cX12_drawn, 1, (some .int), 12, 1320, mi_k191), (yX12_passes, cX12_passes, 4, (some .int), 12, 1315, mi_k192), (yX12_minutes, cX12_minutes, 2, (some .int), 12, 1311, mi_k193), (yX12_loose, cX12_loose, 2, (some .int), 12, 1359, mi_k194), (yX12_then, cX12_then, 5, (some .int), 12, 1363, mi_k195), (yX12_findOver, cX12_findOver, 2, none, 12, 1380, mi_k196), (yX12_overBy, cX12_overBy, 1, (some .int), 12, 1376, mi_k197), (yX12_keepStood, cX12_keepStood, 3, none, 12, 1392, mi_k198), (yX12_isAsItStood, cX12_isAsItStood, 4, (some .boolean), 12, 1396, mi_k199)]
def mi_mt_5 : List mi_Mt := [(yX12_mayBeStuck, cX12_mayBeStuck, 3, (some .boolean), 12, 1388, mi_k200), (yX12_stuckBy, cX12_stuckBy, 4, (some .int), 12, 1384, mi_k201), (yX12_findBestStart, cX12_findBestStart, 5, none, 12, 1404, mi_k202), (yX12_bestStart, cX12_bestStart, 3, (some .int), 12, 1400, mi_k203), (yX12_spareOf, cX12_spareOf, 6, (some .int), 12, 1412, mi_k204), (yX12_spare, cX12_spare, 2, (some .int), 12, 1408, mi_k205), (yX12_overWith, cX12_overWith, 4, (some .int), 12, 1420, mi_k206), (yX12_without, cX12_without, 4, (some .int), 12, 1416, mi_k207), (yX12_newOne, cX12_newOne, 6, (some .int), 12, 1424, mi_k208), (yX12_faults, cX12_faults, 1, (some .int), 12, 1428, mi_k209), (yX12_seed, cX12_seed, 3, (some .int), 12, 1432, mi_k210), (yX12_ran, cX12_ran, 2, none, 12, 1449, mi_k211), (yX12_own, cX12_own, 1, (some .int), 12, 1441, mi_k212), (yX12_goesBy, cX12_goesBy, 3, (some .int), 12, 1445, mi_k213), (yX12_blowsBy, cX12_blowsBy, 4, (some .int), 12, 1453, mi_k214), (yX12_yieldsBy, cX12_yieldsBy, 3, (some .int), 12, 1457, mi_k215), (yX12_tellsBy, cX12_tellsBy, 4, (some .int), 12, 1461, mi_k216), (yX12_voice, cX12_voice, 5, (some .int), 12, 1436, mi_k217), (yX12_trace, cX12_trace, 2, (some .int), 12, 1465, mi_k218), (yX12_isSheet, cX12_isSheet, 1, (some .boolean), 12, 1472, mi_k219), (yX12_sheet, cX12_sheet, 5, (some .int), 12, 1469, mi_k220), (yX12_put, cX12_put, 4, (some .int), 12, 1476, mi_k221), (yX12_move, cX12_move, 7, (some .int), 12, 1480, mi_k222), (yX12_rooms, cX12_rooms, 3, (some .int), 12, 1484, mi_k223), (yX12_judge, cX12_judge, 3, (some .int), 12, 1488, mi_k224), (yX12_image, cX12_image, 2, (some .int), 12, 1492, mi_k225), (yX12_restore, cX12_restore, 2, (some .int), 12, 1496, mi_k226), (yX12_tell, cX12_tell, 2, (some .int), 12, 1500, mi_k227), (yX12_check, cX12_check, 4, (some .int), 12, 1504, mi_k228), (yX12_count, cX12_count, 2, (some .int), 12, 1508, mi_k229), (yX12_told, cX12_told, 2, (some .int), 12, 1512, mi_k230), (yL_law, cL_law, 4, (some .boolean), 13, 99999, mi_k231)]
def mi_mt : List mi_Mt := mi_mt_0 ++ (mi_mt_1 ++ (mi_mt_2 ++ (mi_mt_3 ++ (mi_mt_4 ++ (mi_mt_5)))))
def mi_fl : List ((Nat × Nat) × (Nat × Nat × Nat)) := [((4, 9), (4, 0, 162)), ((4, 18), (4, 1, 166)), ((4, 21), (4, 2, 168)), ((4, 71), (4, 3, 172)), ((4, 74), (4, 4, 175)), ((4, 81), (4, 5, 178)), ((4, 59), (4, 6, 180)), ((4, 15), (4, 7, 183)), ((4, 62), (4, 8, 186)), ((4, 65), (4, 9, 188)), ((4, 56), (4, 10, 190)), ((4, 68), (4, 11, 192)), ((4, 30), (4, 12, 195)), ((4, 36), (4, 13, 197)), ((4, 43), (4, 14, 199)), ((4, 50), (4, 15, 201)), ((6, 13), (6, 0, 246)), ((6, 19), (6, 1, 247)), ((8, 9), (8, 0, 271)), ((8, 15), (8, 1, 272)), ((8, 23), (8, 2, 273)), ((8, 27), (8, 3, 274)), ((8, 30), (8, 4, 275)), ((8, 35), (8, 5, 276)), ((8, 77), (8, 6, 277)), ((8, 80), (8, 7, 278)), ((8, 83), (8, 8, 279)), ((1, 9), (1, 0, 300)), ((1, 17), (1, 1, 302)), ((1, 55), (1, 2, 304)), ((1, 62), (1, 3, 306)), ((1, 65), (1, 4, 308)), ((1, 68), (1, 5, 310)), ((1, 24), (1, 6, 312)), ((1, 31), (1, 7, 314)), ((1, 35), (1, 8, 316)), ((1, 45), (1, 9, 318)), ((11, 30), (11, 0, 348)), ((11, 37), (11, 1, 349)), ((11, 41), (11, 2, 350)), ((11, 44), (11, 3, 351)), ((11, 296), (11, 4, 352)), ((11, 54), (11, 5, 353)), ((11, 63), (11, 6, 354)), ((11, 67), (11, 7, 355)), ((11, 71), (11, 8, 356)), ((11, 75), (11, 9, 357)), ((12, 7), (12, 0, 1060)), ((12, 13), (12, 1, 1061)), ((12, 16), (12, 2, 1062)), ((12, 298), (12, 3, 1063)), ((12, 19), (12, 4, 1064)), ((12, 60), (12, 5, 1065)), ((12, 50), (12, 6, 1066)), ((12, 54), (12, 7, 1067)), ((12, 57), (12, 8, 1068)), ((12, 90), (12, 9, 1069)), ((12, 67), (12, 10, 1070)), ((12, 22), (12, 11, 1071)), ((12, 232), (12, 12, 1072)), ((12, 235), (12, 13, 1073)), ((12, 25), (12, 14, 1074)), ((12, 251), (12, 15, 1075)), ((12, 254), (12, 16, 1076)), ((12, 257), (12, 17, 1077)), ((12, 28), (12, 18, 1078)), ((12, 269), (12, 19, 1079)), ((12, 272), (12, 20, 1080)), ((12, 31), (12, 21, 1081)), ((12, 34), (12, 22, 1082)), ((12, 37), (12, 23, 1083)), ((12, 40), (12, 24, 1084))]
def mi_fn : List ((Nat × Nat) × (Nat × Nat × Nat)) := [((0, 21), (4, 0, 163)), ((9, 13), (4, 0, 164)), ((1, 107), (4, 0, 165)), ((11, 143), (4, 1, 167)), ((11, 150), (4, 2, 169)), ((9, 25), (4, 2, 170)), ((11, 121), (4, 3, 171)), ((1, 125), (4, 3, 173)), ((11, 124), (4, 4, 174)), ((1, 137), (4, 4, 176)), ((11, 127), (4, 5, 177)), ((1, 122), (4, 5, 179)), ((1, 88), (4, 6, 181)), ((11, 154), (4, 6, 182)), ((1, 91), (4, 7, 184)), ((11, 293), (4, 7, 185)), ((1, 134), (4, 8, 187)), ((1, 140), (4, 9, 189)), ((1, 110), (4, 10, 191)), ((1, 195), (4, 11, 193)), ((11, 242), (4, 11, 194)), ((1, 164), (4, 12, 196)), ((1, 104), (4, 13, 198)), ((1, 192), (4, 14, 200)), ((1, 146), (4, 15, 202)), ((8, 50), (6, 1, 248)), ((11, 161), (6, 1, 249)), ((11, 86), (1, 0, 301)), ((11, 111), (1, 1, 303)), ((11, 106), (1, 2, 305)), ((11, 221), (1, 3, 307)), ((11, 302), (1, 4, 309)), ((11, 229), (1, 5, 311)), ((11, 246), (1, 6, 313)), ((11, 158), (1, 7, 315)), ((11, 299), (1, 8, 317)), ((11, 183), (1, 9, 319))]
def mi_kc : List ((Nat × Nat) × (Int32 × Nat)) := [((1, 40), (-2147483648, 258)), ((1, 41), (2147483647, 259)), ((11, 49), (-2147483648, 342)), ((11, 50), (2147483647, 343)), ((1, 94), (-1000000001, 390)), ((1, 98), (-1000000003, 395)), ((1, 103), (-1000000004, 408)), ((11, 305), (-1000000000, 413)), ((11, 93), (-1000000001, 419)), ((11, 110), (-1000000004, 435)), ((11, 153), (-1000000005, 581)), ((11, 157), (-1000000003, 586)), ((1, 170), (-99999, 783)), ((1, 171), (99999, 784)), ((1, 117), (1103515245, 812)), ((11, 232), (-1000000002, 850)), ((12, 43), (-1000000000, 1148)), ((12, 207), (1103515245, 1321)), ((12, 191), (-99999, 1346)), ((12, 192), (99999, 1347))]
def mi_kl : List ((Nat × Nat) × (Int64 × Nat)) := [((11, 164), (255, 595)), ((12, 107), (8, 1140)), ((12, 112), (255, 1149)), ((12, 103), (48, 1198)), ((12, 105), (57, 1199)), ((12, 48), (23, 1222)), ((12, 135), (5, 1223)), ((12, 146), (2, 1244)), ((12, 155), (69, 1249)), ((12, 157), (999, 1250)), ((12, 166), (14, 1267)), ((12, 180), (6, 1296)), ((12, 208), (300, 1316)), ((12, 224), (9, 1364)), ((12, 293), (3, 1437)), ((13, 48), (4294967295, 1513))]
def mi_ks : List ((Nat × Nat) × Nat) := [((8, 33), 1), ((11, 172), 2), ((11, 174), 3)]
def mi_nl : List ((Nat × Nat) × (Nat × Nat)) := [((13, 7), (11, 91)), ((11, 9), (9, 99)), ((11, 12), (2, 107)), ((11, 15), (3, 114)), ((11, 18), (10, 121)), ((11, 21), (7, 128)), ((11, 24), (5, 135)), ((11, 27), (0, 142)), ((11, 34), (1, 149)), ((1, 15), (4, 155)), ((1, 28), (6, 237)), ((1, 38), (8, 255)), ((8, 18), (6, 264)), ((11, 47), (8, 341)), ((11, 58), (6, 345)), ((13, 10), (12, 1054))]
def mi_al : List ((Nat × Nat) × (Nat × Nat × Nat)) := [((11, 9), (4, 99, 100)), ((1, 15), (1, 155, 156)), ((1, 38), (2, 255, 256)), ((11, 58), (3, 345, 347))]
def mi_in : List (Nat × Nat) := [(143, 78), (150, 79), (108, 73), (115, 74), (157, 80), (136, 77), (238, 81), (129, 76), (257, 83), (101, 72), (122, 75), (92, 71), (1055, 84)]
def mi_df : List (List Value) := [[], [.null, .null, .int 0, .int 0, .int 0, .int 0, .int 0, .null, .null, .null], [], [], [.int 0, .int 0, .int 0, .int 0, .int 0, .int 0, .int 0, .int 0, .int 0, .int 0, .int 0, .int 0, .int 0, .int 0, .int 0, .int 0], [], [.null, .int 0], [], [.int 0, .int 0, .null, .null, .null, .null, .int 0, .int 0, .int 0], [], [], [.null, .null, .null, .null, .int 0, .null, .null, .null, .null, .null], [.null, .null, .null, .int 0, .null, .int 0, .int 0, .int 0, .int 0, .int 0, .int 0, .null, .int 0, .int 0, .null, .int 0, .int 0, .int 0, .null, .int 0, .int 0, .null, .null, .null, .null]]
def mi_lp : List (List Nat) := [[], [320, 322, 324, 326, 328, 330, 332, 334, 336, 338], [], [], [203, 205, 207, 209, 211, 213, 215, 217, 219, 221, 223, 225, 227, 229, 231, 233], [], [250, 252], [], [280, 282, 284, 286, 288, 290, 292, 294, 296], [], [], [358, 360, 362, 364, 366, 368, 370, 372, 374, 376], [1085, 1087, 1089, 1091, 1093, 1095, 1097, 1099, 1101, 1103, 1105, 1107, 1109, 1111, 1113, 1115, 1117, 1119, 1121, 1123, 1125, 1127, 1129, 1131, 1133]]
def mi_gs : List ((Nat × Nat) × Nat) := [((11, 306), 579)]
def mi_ii : List Nat := [0, 5, 28, 33, 36, 45, 49, 61, 65, 77, 86, 90, 139]
/-- plain virtual calls: (own, idx, class) to (method, parameters, places) -/
def mi_cv : List ((Nat × Nat × Nat) × (Nat × Nat × Nat × Nat × Nat × Nat)) := [((0, 11, 6), (54, 1, 940, 268, 269, 81)), ((1, 58, 4), (44, 1, 822, 823, 824, 80)), ((1, 71, 6), (60, 1, 826, 732, 733, 81)), ((1, 74, 8), (66, 1, 827, 728, 729, 83)), ((1, 81, 1), (9, 1, 404, 406, 0, 79)), ((1, 85, 1), (7, 1, 396, 397, 398, 79)), ((1, 95, 1), (12, 1, 391, 392, 393, 79)), ((1, 99, 1), (8, 0, 400, 401, 402, 79)), ((1, 113, 8), (67, 3, 537, 538, 539, 83)), ((1, 118, 1), (18, 2, 756, 758, 9, 79)), ((1, 128, 1), (19, 1, 774, 776, 11, 79)), ((1, 131, 4), (40, 0, 796, 797, 798, 80)), ((1, 143, 4), (39, 1, 760, 522, 523, 80)), ((1, 149, 1), (21, 1, 761, 763, 10, 79)), ((1, 153, 4), (41, 0, 765, 766, 767, 80)), ((1, 156, 1), (20, 2, 778, 780, 12, 79)), ((1, 160, 1), (22, 2, 787, 789, 13, 79)), ((1, 167, 1), (10, 1, 782, 422, 423, 79)), ((1, 181, 4), (42, 1, 769, 770, 771, 80)), ((1, 184, 1), (15, 1, 791, 534, 535, 79)), ((1, 188, 1), (23, 4, 792, 794, 14, 79)), ((1, 198, 1), (13, 1, 840, 801, 802, 79)), ((1, 201, 1), (24, 0, 836, 838, 15, 79)), ((1, 205, 1), (17, 1, 841, 753, 754, 79)), ((1, 209, 1), (25, 0, 842, 844, 16, 79)), ((2, 7, 6), (54, 1, 918, 268, 269, 81)), ((3, 17, 6), (54, 1, 903, 268, 269, 81)), ((4, 52, 4), (39, 1, 521, 522, 523, 80)), ((4, 77, 4), (41, 0, 773, 766, 767, 80)), ((5, 14, 6), (54, 1, 965, 268, 269, 81)), ((6, 23, 6), (50, 1, 711, 712, 713, 81)), ((6, 30, 6), (51, 2, 1021, 1014, 1015, 81)), ((7, 11, 6), (54, 1, 932, 268, 269, 81)), ((8, 39, 6), (54, 1, 267, 268, 269, 81)), ((8, 43, 6), (60, 1, 731, 732, 733, 81)), ((8, 47, 6), (57, 0, 541, 542, 543, 81)), ((8, 53, 6), (52, 1, 545, 546, 547, 81)), ((8, 57, 6), (56, 0, 549, 550, 551, 81)), ((8, 65, 6), (55, 0, 556, 557, 558, 81)), ((8, 87, 8), (70, 1, 610, 612, 3, 83)), ((8, 90, 8), (71, 1, 699, 701, 4, 83)), ((8, 93, 8), (74, 1, 719, 721, 7, 83)), ((8, 104, 8), (72, 1, 703, 705, 5, 83)), ((8, 107, 8), (73, 0, 715, 717, 6, 83)), ((8, 114, 6), (53, 2, 707, 708, 709, 81)), ((9, 7, 6), (54, 1, 909, 268, 269, 81)), ((10, 11, 6), (54, 1, 944, 268, 269, 81)), ((11, 78, 1), (14, 2, 383, 384, 385, 79)), ((11, 82, 11), (126, 1, 409, 411, 1, 71)), ((11, 94, 1), (12, 1, 420, 392, 393, 79)), ((11, 97, 1), (10, 1, 421, 422, 423, 79)), ((11, 115, 4), (37, 3, 436, 437, 438, 80)), ((11, 130, 4), (38, 0, 517, 518, 519, 80)), ((11, 133, 11), (128, 1, 529, 531, 2, 71)), ((11, 136, 1), (15, 1, 533, 534, 535, 79)), ((11, 140, 4), (43, 1, 564, 565, 566, 80)), ((11, 166, 6), (54, 1, 596, 268, 269, 81)), ((11, 176, 8), (69, 2, 606, 607, 608, 83)), ((11, 180, 6), (57, 0, 726, 542, 543, 81)), ((11, 187, 8), (66, 1, 727, 728, 729, 83)), ((11, 191, 8), (67, 3, 743, 538, 539, 83)), ((11, 195, 11), (129, 1, 748, 750, 8, 71)), ((11, 198, 1), (17, 1, 752, 753, 754, 79)), ((11, 202, 1), (13, 1, 800, 801, 802, 79)), ((11, 205, 1), (16, 0, 808, 809, 810, 79)), ((11, 209, 1), (6, 1, 817, 818, 819, 79)), ((11, 212, 1), (26, 0, 832, 833, 834, 79)), ((11, 215, 11), (127, 1, 846, 848, 17, 71)), ((11, 218, 1), (27, 0, 855, 856, 857, 79)), ((11, 233, 1), (11, 1, 872, 873, 874, 79)), ((11, 236, 1), (8, 0, 880, 401, 402, 79)), ((11, 239, 1), (7, 1, 881, 397, 398, 79)), ((11, 262, 6), (50, 1, 981, 712, 713, 81)), ((11, 265, 6), (52, 1, 982, 546, 547, 81)), ((11, 274, 6), (58, 1, 993, 994, 995, 81)), ((11, 277, 11), (130, 1, 1001, 1003, 18, 71)), ((11, 283, 6), (53, 2, 1008, 708, 709, 81)), ((11, 286, 6), (51, 2, 1013, 1014, 1015, 81)), ((11, 289, 6), (59, 4, 1017, 1018, 1019, 81)), ((12, 63, 12), (149, 0, 1182, 1184, 27, 84)), ((12, 71, 12), (154, 0, 1162, 1164, 22, 84)), ((12, 74, 12), (151, 1, 1190, 1192, 29, 84)), ((12, 78, 12), (155, 0, 1166, 1168, 23, 84)), ((12, 81, 12), (156, 0, 1170, 1172, 24, 84)), ((12, 84, 12), (157, 0, 1174, 1176, 25, 84)), ((12, 87, 12), (158, 0, 1178, 1180, 26, 84)), ((12, 93, 12), (150, 0, 1186, 1188, 28, 84)), ((12, 96, 12), (153, 0, 1158, 1160, 21, 84)), ((12, 99, 12), (152, 1, 1194, 1196, 30, 84)), ((12, 109, 12), (140, 1, 1144, 1146, 19, 84)), ((12, 114, 12), (159, 3, 1154, 1156, 20, 84)), ((12, 121, 12), (162, 4, 1204, 1206, 31, 84)), ((12, 125, 12), (145, 2, 1228, 1230, 34, 84)), ((12, 129, 12), (164, 1, 1232, 1234, 35, 84)), ((12, 137, 12), (165, 1, 1224, 1226, 33, 84)), ((12, 140, 12), (166, 1, 1236, 1238, 36, 84)), ((12, 143, 12), (167, 2, 1215, 1217, 32, 84)), ((12, 148, 12), (171, 1, 1272, 1274, 41, 84)), ((12, 151, 12), (146, 3, 1251, 1253, 37, 84)), ((12, 159, 12), (175, 1, 1255, 1257, 38, 84)), ((12, 163, 12), (143, 1, 1263, 1265, 39, 84)), ((12, 168, 12), (170, 1, 1268, 1270, 40, 84)), ((12, 171, 12), (174, 1, 1276, 1278, 42, 84)), ((12, 174, 12), (172, 1, 1280, 1282, 43, 84)), ((12, 177, 12), (173, 1, 1284, 1286, 44, 84)), ((12, 185, 12), (183, 1, 1334, 1336, 50, 84)), ((12, 188, 12), (184, 2, 1338, 1340, 51, 84)), ((12, 193, 12), (185, 1, 1330, 1332, 49, 84)), ((12, 196, 12), (187, 2, 1342, 1344, 52, 84)), ((12, 200, 12), (186, 2, 1348, 1350, 53, 84)), ((12, 203, 12), (188, 2, 1326, 1328, 48, 84)), ((12, 210, 12), (191, 0, 1317, 1319, 46, 84)), ((12, 213, 12), (189, 1, 1322, 1324, 47, 84)), ((12, 217, 12), (190, 1, 1352, 1354, 54, 84)), ((12, 220, 12), (192, 2, 1312, 1314, 45, 84)), ((12, 226, 12), (147, 0, 1365, 1367, 55, 84)), ((12, 229, 12), (148, 0, 1369, 1371, 56, 84)), ((12, 238, 12), (196, 0, 1377, 1379, 57, 84)), ((12, 241, 12), (200, 0, 1385, 1387, 58, 84)), ((12, 245, 12), (198, 0, 1389, 1391, 59, 84)), ((12, 248, 12), (199, 0, 1393, 1395, 60, 84)), ((12, 260, 12), (202, 1, 1401, 1403, 61, 84)), ((12, 263, 12), (204, 2, 1409, 1411, 62, 84)), ((12, 266, 12), (206, 2, 1417, 1419, 63, 84)), ((12, 275, 12), (211, 1, 1446, 1448, 66, 84)), ((12, 278, 12), (213, 2, 1442, 1444, 65, 84)), ((12, 281, 12), (212, 0, 1438, 1440, 64, 84)), ((12, 284, 12), (214, 2, 1450, 1452, 67, 84)), ((12, 287, 12), (215, 2, 1454, 1456, 68, 84)), ((12, 290, 12), (216, 2, 1458, 1460, 69, 84)), ((13, 13, 11), (91, 2, 379, 380, 381, 71)), ((13, 17, 12), (168, 2, 1211, 1212, 1213, 84)), ((13, 18, 11), (92, 2, 414, 415, 416, 71)), ((13, 21, 12), (169, 2, 1240, 1241, 1242, 84)), ((13, 22, 11), (93, 4, 425, 426, 427, 71)), ((13, 26, 12), (176, 4, 1245, 1246, 1247, 84)), ((13, 27, 11), (94, 2, 525, 526, 527, 71)), ((13, 30, 12), (177, 2, 1259, 1260, 1261, 84)), ((13, 31, 11), (95, 2, 568, 569, 570, 71)), ((13, 34, 12), (178, 2, 1288, 1289, 1290, 84)), ((13, 35, 11), (96, 2, 572, 573, 574, 71)), ((13, 38, 12), (180, 2, 1292, 1293, 1294, 84)), ((13, 39, 11), (97, 2, 582, 583, 584, 71)), ((13, 42, 12), (181, 2, 1300, 1301, 1302, 84)), ((13, 43, 11), (98, 1, 587, 588, 589, 71)), ((13, 47, 12), (182, 1, 1304, 1305, 1306, 84)), ((13, 50, 11), (99, 2, 591, 592, 593, 71)), ((13, 54, 12), (160, 2, 1136, 1137, 1138, 84)), ((13, 55, 11), (100, 1, 597, 598, 599, 71)), ((13, 58, 12), (161, 1, 1150, 1151, 1152, 84)), ((13, 59, 11), (101, 4, 739, 740, 741, 71)), ((13, 62, 12), (163, 4, 1200, 1201, 1202, 84)), ((13, 63, 11), (102, 1, 744, 745, 746, 71)), ((13, 66, 12), (193, 1, 1308, 1309, 1310, 84)), ((13, 67, 11), (103, 1, 804, 805, 806, 71)), ((13, 70, 12), (194, 1, 1356, 1357, 1358, 84)), ((13, 71, 11), (104, 3, 813, 814, 815, 71)), ((13, 75, 12), (195, 3, 1360, 1361, 1362, 84)), ((13, 76, 11), (105, 0, 828, 829, 830, 71)), ((13, 80, 12), (197, 0, 1373, 1374, 1375, 84)), ((13, 81, 11), (106, 0, 851, 852, 853, 71)), ((13, 84, 12), (201, 0, 1381, 1382, 1383, 84)), ((13, 85, 11), (107, 2, 859, 860, 861, 71)), ((13, 88, 12), (203, 2, 1397, 1398, 1399, 84)), ((13, 89, 11), (108, 1, 864, 865, 866, 71)), ((13, 92, 12), (205, 1, 1405, 1406, 1407, 84)), ((13, 93, 11), (109, 1, 868, 869, 870, 71)), ((13, 96, 12), (207, 1, 1413, 1414, 1415, 84)), ((13, 97, 11), (110, 1, 876, 877, 878, 71)), ((13, 100, 12), (208, 1, 1421, 1422, 1423, 84)), ((13, 101, 11), (111, 0, 882, 883, 884, 71)), ((13, 104, 12), (209, 0, 1425, 1426, 1427, 84)), ((13, 105, 11), (112, 1, 886, 887, 888, 71)), ((13, 108, 12), (210, 1, 1429, 1430, 1431, 84)), ((13, 109, 11), (113, 3, 890, 891, 892, 71)), ((13, 112, 12), (217, 3, 1433, 1434, 1435, 84)), ((13, 113, 11), (114, 1, 977, 978, 979, 71)), ((13, 116, 12), (218, 1, 1462, 1463, 1464, 84)), ((13, 117, 11), (115, 3, 983, 984, 985, 71)), ((13, 120, 12), (220, 3, 1466, 1467, 1468, 84)), ((13, 121, 11), (116, 3, 997, 998, 999, 71)), ((13, 124, 12), (221, 3, 1473, 1474, 1475, 84)), ((13, 125, 11), (117, 5, 1009, 1010, 1011, 71)), ((13, 129, 12), (222, 5, 1477, 1478, 1479, 84)), ((13, 130, 11), (118, 1, 1022, 1023, 1024, 71)), ((13, 133, 12), (223, 1, 1481, 1482, 1483, 84)), ((13, 134, 11), (119, 1, 1026, 1027, 1028, 71)), ((13, 137, 12), (224, 1, 1485, 1486, 1487, 84)), ((13, 138, 11), (120, 0, 1030, 1031, 1032, 71)), ((13, 141, 12), (225, 0, 1489, 1490, 1491, 84)), ((13, 142, 11), (121, 0, 1034, 1035, 1036, 71)), ((13, 145, 12), (226, 0, 1493, 1494, 1495, 84)), ((13, 146, 11), (122, 1, 1038, 1039, 1040, 71)), ((13, 149, 12), (227, 1, 1497, 1498, 1499, 84)), ((13, 150, 11), (123, 0, 1042, 1043, 1044, 71)), ((13, 153, 12), (228, 0, 1501, 1502, 1503, 84)), ((13, 154, 11), (124, 1, 1046, 1047, 1048, 71)), ((13, 157, 12), (229, 1, 1505, 1506, 1507, 84)), ((13, 158, 11), (125, 1, 1050, 1051, 1052, 71)), ((13, 161, 12), (230, 1, 1509, 1510, 1511, 84))]
/-- calls of inherited or overridden methods: (own, idx, class) to (method, parameters, the method named, places) -/
def mi_cu : List ((Nat × Nat × Nat) × (Nat × Nat × Nat × Nat × Nat × Nat × Nat × Nat × Nat)) := [((0, 27, 0), (83, 3, 83, 953, 954, 911, 956, 911, 72)), ((2, 17, 2), (84, 3, 84, 920, 921, 925, 923, 925, 72)), ((2, 17, 7), (84, 3, 84, 920, 921, 925, 924, 925, 72)), ((4, 24, 9), (78, 1, 78, 440, 443, 441, 442, 441, 72)), ((4, 24, 0), (78, 1, 78, 440, 443, 441, 444, 441, 72)), ((4, 24, 2), (29, 1, 78, 440, 443, 441, 445, 446, 73)), ((4, 24, 3), (78, 1, 78, 440, 443, 441, 448, 441, 72)), ((4, 24, 5), (46, 1, 78, 440, 443, 441, 449, 450, 77)), ((4, 24, 7), (62, 1, 78, 440, 443, 441, 455, 456, 76)), ((4, 24, 10), (78, 1, 78, 440, 443, 441, 459, 441, 72)), ((4, 33, 9), (79, 1, 79, 461, 464, 462, 463, 462, 72)), ((4, 33, 0), (1, 1, 79, 461, 464, 462, 465, 466, 78)), ((4, 33, 2), (30, 1, 79, 461, 464, 462, 472, 473, 73)), ((4, 33, 3), (34, 1, 79, 461, 464, 462, 475, 476, 74)), ((4, 33, 5), (47, 1, 79, 461, 464, 462, 480, 481, 77)), ((4, 33, 7), (30, 1, 79, 461, 464, 462, 484, 473, 73)), ((4, 33, 10), (87, 1, 79, 461, 464, 462, 485, 469, 75)), ((4, 39, 9), (80, 1, 80, 487, 490, 488, 489, 488, 72)), ((4, 39, 0), (88, 1, 80, 487, 490, 488, 491, 492, 75)), ((4, 39, 2), (31, 1, 80, 487, 490, 488, 494, 495, 73)), ((4, 39, 3), (80, 1, 80, 487, 490, 488, 497, 488, 72)), ((4, 39, 5), (80, 1, 80, 487, 490, 488, 498, 488, 72)), ((4, 39, 7), (31, 1, 80, 487, 490, 488, 499, 495, 73)), ((4, 39, 10), (88, 1, 80, 487, 490, 488, 500, 492, 75)), ((4, 46, 9), (81, 0, 81, 502, 505, 503, 504, 503, 72)), ((4, 46, 0), (2, 0, 81, 502, 505, 503, 506, 507, 78)), ((4, 46, 2), (81, 0, 81, 502, 505, 503, 509, 503, 72)), ((4, 46, 3), (81, 0, 81, 502, 505, 503, 510, 503, 72)), ((4, 46, 5), (81, 0, 81, 502, 505, 503, 511, 503, 72)), ((4, 46, 7), (63, 0, 81, 502, 505, 503, 512, 513, 76)), ((4, 46, 10), (81, 0, 81, 502, 505, 503, 515, 503, 72)), ((5, 24, 5), (35, 3, 35, 968, 969, 901, 971, 901, 74)), ((9, 19, 9), (82, 3, 82, 936, 897, 895, 896, 895, 72)), ((9, 19, 0), (82, 3, 82, 936, 897, 895, 898, 895, 72)), ((9, 19, 2), (82, 3, 82, 936, 897, 895, 899, 895, 72)), ((9, 19, 3), (35, 3, 82, 936, 897, 895, 900, 901, 74)), ((9, 19, 5), (35, 3, 82, 936, 897, 895, 905, 901, 74)), ((9, 19, 7), (82, 3, 82, 936, 897, 895, 906, 895, 72)), ((9, 19, 10), (82, 3, 82, 936, 897, 895, 907, 895, 72)), ((9, 28, 9), (83, 3, 83, 975, 913, 911, 912, 911, 72)), ((9, 28, 0), (83, 3, 83, 975, 913, 911, 914, 911, 72)), ((9, 28, 2), (32, 3, 83, 975, 913, 911, 915, 916, 73)), ((9, 28, 3), (83, 3, 83, 975, 913, 911, 927, 911, 72)), ((9, 28, 5), (83, 3, 83, 975, 913, 911, 928, 911, 72)), ((9, 28, 7), (64, 3, 83, 975, 913, 911, 929, 930, 76)), ((9, 28, 10), (83, 3, 83, 975, 913, 911, 934, 911, 72)), ((9, 31, 0), (3, 3, 84, 976, 1518, 925, 1519, 938, 78)), ((9, 31, 2), (84, 3, 84, 976, 1518, 925, 1521, 925, 72)), ((9, 31, 3), (84, 3, 84, 976, 1518, 925, 1522, 925, 72)), ((9, 31, 5), (84, 3, 84, 976, 1518, 925, 1523, 925, 72)), ((9, 31, 7), (84, 3, 84, 976, 1518, 925, 1524, 925, 72)), ((9, 31, 9), (84, 3, 84, 976, 1518, 925, 1525, 925, 72)), ((9, 31, 10), (89, 3, 84, 976, 1518, 925, 1526, 942, 75)), ((11, 249, 9), (82, 3, 82, 894, 897, 895, 896, 895, 72)), ((11, 249, 0), (82, 3, 82, 894, 897, 895, 898, 895, 72)), ((11, 249, 2), (82, 3, 82, 894, 897, 895, 899, 895, 72)), ((11, 249, 3), (35, 3, 82, 894, 897, 895, 900, 901, 74)), ((11, 249, 5), (35, 3, 82, 894, 897, 895, 905, 901, 74)), ((11, 249, 7), (82, 3, 82, 894, 897, 895, 906, 895, 72)), ((11, 249, 10), (82, 3, 82, 894, 897, 895, 907, 895, 72)), ((11, 253, 9), (83, 3, 83, 910, 913, 911, 912, 911, 72)), ((11, 253, 0), (83, 3, 83, 910, 913, 911, 914, 911, 72)), ((11, 253, 2), (32, 3, 83, 910, 913, 911, 915, 916, 73)), ((11, 253, 3), (83, 3, 83, 910, 913, 911, 927, 911, 72)), ((11, 253, 5), (83, 3, 83, 910, 913, 911, 928, 911, 72)), ((11, 253, 7), (64, 3, 83, 910, 913, 911, 929, 930, 76)), ((11, 253, 10), (83, 3, 83, 910, 913, 911, 934, 911, 72)), ((11, 256, 0), (3, 3, 84, 937, 1518, 925, 1519, 938, 78)), ((11, 256, 2), (84, 3, 84, 937, 1518, 925, 1521, 925, 72)), ((11, 256, 3), (84, 3, 84, 937, 1518, 925, 1522, 925, 72)), ((11, 256, 5), (84, 3, 84, 937, 1518, 925, 1523, 925, 72)), ((11, 256, 7), (84, 3, 84, 937, 1518, 925, 1524, 925, 72)), ((11, 256, 9), (84, 3, 84, 937, 1518, 925, 1525, 925, 72)), ((11, 256, 10), (89, 3, 84, 937, 1518, 925, 1526, 942, 75)), ((11, 259, 9), (85, 3, 85, 946, 949, 947, 948, 947, 72)), ((11, 259, 0), (4, 3, 85, 946, 949, 947, 950, 951, 78)), ((11, 259, 2), (85, 3, 85, 946, 949, 947, 960, 947, 72)), ((11, 259, 3), (85, 3, 85, 946, 949, 947, 961, 947, 72)), ((11, 259, 5), (48, 3, 85, 946, 949, 947, 962, 963, 77)), ((11, 259, 7), (85, 3, 85, 946, 949, 947, 972, 947, 72)), ((11, 259, 10), (85, 3, 85, 946, 949, 947, 973, 947, 72))]
def mi_cs : List ((Nat × Nat) × (Nat × Nat × Nat × Nat × Nat)) := [((8, 61), (68, 3, 553, 554, 83)), ((8, 101), (75, 1, 696, 697, 83)), ((8, 111), (76, 1, 723, 724, 83)), ((11, 89), (131, 1, 418, 388, 71)), ((11, 100), (133, 1, 429, 430, 71)), ((11, 103), (132, 1, 432, 433, 71)), ((11, 146), (137, 2, 576, 577, 71)), ((11, 169), (134, 1, 601, 602, 71)), ((11, 268), (135, 1, 987, 988, 71)), ((11, 271), (136, 1, 990, 991, 71)), ((11, 280), (138, 2, 1005, 1006, 71)), ((12, 44), (141, 3, 1141, 1142, 84)), ((12, 118), (142, 3, 1208, 1209, 84)), ((12, 132), (144, 1, 1219, 1220, 84)), ((12, 182), (179, 1, 1297, 1298, 84)), ((12, 295), (219, 1, 1470, 1471, 84))]
def mi_cn : List ((Nat × Nat) × (Nat × Nat × Nat × Nat × Nat)) := [((1, 77), (131, 1, 387, 388, 71))]
def mi_ci : List ((Nat × Nat) × (Nat × Nat × Nat × Nat × Nat)) := [((1, 21), (36, 1, 158, 159, 80)), ((1, 30), (49, 1, 239, 240, 81)), ((1, 42), (65, 2, 260, 261, 83)), ((8, 20), (49, 1, 265, 240, 81)), ((11, 36), (5, 0, 151, 152, 79)), ((11, 51), (65, 2, 344, 261, 83)), ((11, 60), (49, 1, 346, 240, 81)), ((13, 9), (90, 0, 93, 94, 71)), ((13, 12), (139, 0, 1056, 1057, 84))]
def mi_cj : List ((Nat × Nat) × (Nat × Nat × Nat × Nat × Nat)) := [((0, 1), (86, 0, 147, 124, 75)), ((2, 1), (77, 0, 112, 103, 72)), ((3, 1), (77, 0, 119, 103, 72)), ((5, 1), (33, 0, 140, 117, 74)), ((7, 1), (28, 0, 133, 110, 73)), ((10, 1), (77, 0, 126, 103, 72)), ((11, 11), (77, 0, 102, 103, 72)), ((11, 14), (28, 0, 109, 110, 73)), ((11, 17), (33, 0, 116, 117, 74)), ((11, 20), (86, 0, 123, 124, 75)), ((11, 23), (61, 0, 130, 131, 76)), ((11, 26), (45, 0, 137, 138, 77)), ((11, 29), (0, 0, 144, 145, 78))]
def mi_cz : List ((Nat × Nat) × (Nat × Nat × Nat × Nat × Nat × Nat × Nat × Nat × Nat)) := [((0, 7), (87, 1, 10, 468, 1515, 148, 127, 469, 75)), ((0, 17), (89, 3, 10, 941, 1520, 148, 127, 942, 75)), ((0, 32), (85, 3, 10, 957, 958, 148, 127, 947, 72)), ((2, 13), (83, 3, 9, 919, 913, 113, 106, 911, 72)), ((3, 7), (79, 1, 9, 478, 464, 120, 106, 462, 72)), ((3, 23), (82, 3, 9, 904, 897, 120, 106, 895, 72)), ((5, 7), (78, 1, 3, 452, 453, 141, 120, 441, 72)), ((5, 11), (34, 1, 3, 483, 1516, 141, 120, 476, 74)), ((5, 20), (85, 3, 3, 966, 967, 141, 120, 947, 72)), ((7, 7), (29, 1, 2, 458, 1514, 134, 113, 446, 73)), ((7, 17), (32, 3, 2, 933, 1517, 134, 113, 916, 73)), ((10, 7), (79, 1, 9, 471, 464, 127, 106, 462, 72)), ((10, 17), (84, 3, 9, 945, 1518, 127, 106, 925, 72))]
/-- calls that Mini does itself: 1 max, 2 min, 3 arraycopy, 4 Object(), 5 indexOf -/
def mi_cq : List ((Nat × Nat) × (Nat × Nat)) := [((1, 3), (4, 154)), ((1, 49), (3, 821)), ((1, 172), (2, 785)), ((1, 178), (1, 786)), ((3, 11), (1, 479)), ((4, 3), (4, 161)), ((6, 1), (4, 242)), ((6, 7), (1, 243)), ((6, 27), (2, 735)), ((6, 34), (3, 736)), ((8, 3), (4, 263)), ((8, 68), (2, 560)), ((8, 74), (1, 563)), ((8, 96), (5, 614)), ((9, 1), (4, 105)), ((11, 3), (4, 96)), ((11, 224), (2, 863)), ((12, 1), (4, 1059))]
def mi_vp : List ((Nat × Nat) × Nat) := [((0, 11), 1), ((0, 27), 3), ((1, 58), 1), ((1, 71), 1), ((1, 74), 1), ((1, 81), 1), ((1, 85), 1), ((1, 95), 1), ((1, 99), 0), ((1, 113), 3), ((1, 118), 2), ((1, 128), 1), ((1, 131), 0), ((1, 143), 1), ((1, 149), 1), ((1, 153), 0), ((1, 156), 2), ((1, 160), 2), ((1, 167), 1), ((1, 181), 1), ((1, 184), 1), ((1, 188), 4), ((1, 198), 1), ((1, 201), 0), ((1, 205), 1), ((1, 209), 0), ((2, 7), 1), ((2, 17), 3), ((3, 17), 1), ((4, 24), 1), ((4, 33), 1), ((4, 39), 1), ((4, 46), 0), ((4, 52), 1), ((4, 77), 0), ((5, 14), 1), ((5, 24), 3), ((6, 23), 1), ((6, 30), 2), ((7, 11), 1), ((8, 39), 1), ((8, 43), 1), ((8, 47), 0), ((8, 53), 1), ((8, 57), 0), ((8, 65), 0), ((8, 87), 1), ((8, 90), 1), ((8, 93), 1), ((8, 96), 1), ((8, 104), 1), ((8, 107), 0), ((8, 114), 2), ((9, 7), 1), ((9, 19), 3), ((9, 28), 3), ((9, 31), 3), ((10, 11), 1), ((11, 78), 2), ((11, 82), 1), ((11, 94), 1), ((11, 97), 1), ((11, 115), 3), ((11, 130), 0), ((11, 133), 1), ((11, 136), 1), ((11, 140), 1), ((11, 166), 1), ((11, 176), 2), ((11, 180), 0), ((11, 187), 1), ((11, 191), 3), ((11, 195), 1), ((11, 198), 1), ((11, 202), 1), ((11, 205), 0), ((11, 209), 1), ((11, 212), 0), ((11, 215), 1), ((11, 218), 0), ((11, 233), 1), ((11, 236), 0), ((11, 239), 1), ((11, 249), 3), ((11, 253), 3), ((11, 256), 3), ((11, 259), 3), ((11, 262), 1), ((11, 265), 1), ((11, 274), 1), ((11, 277), 1), ((11, 283), 2), ((11, 286), 2), ((11, 289), 4), ((12, 63), 0), ((12, 71), 0), ((12, 74), 1), ((12, 78), 0), ((12, 81), 0), ((12, 84), 0), ((12, 87), 0), ((12, 93), 0), ((12, 96), 0), ((12, 99), 1), ((12, 109), 1), ((12, 114), 3), ((12, 121), 4), ((12, 125), 2), ((12, 129), 1), ((12, 137), 1), ((12, 140), 1), ((12, 143), 2), ((12, 148), 1), ((12, 151), 3), ((12, 159), 1), ((12, 163), 1), ((12, 168), 1), ((12, 171), 1), ((12, 174), 1), ((12, 177), 1), ((12, 185), 1), ((12, 188), 2), ((12, 193), 1), ((12, 196), 2), ((12, 200), 2), ((12, 203), 2), ((12, 210), 0), ((12, 213), 1), ((12, 217), 1), ((12, 220), 2), ((12, 226), 0), ((12, 229), 0), ((12, 238), 0), ((12, 241), 0), ((12, 245), 0), ((12, 248), 0), ((12, 260), 1), ((12, 263), 2), ((12, 266), 2), ((12, 275), 1), ((12, 278), 2), ((12, 281), 0), ((12, 284), 2), ((12, 287), 2), ((12, 290), 2), ((13, 13), 2), ((13, 17), 2), ((13, 18), 2), ((13, 21), 2), ((13, 22), 4), ((13, 26), 4), ((13, 27), 2), ((13, 30), 2), ((13, 31), 2), ((13, 34), 2), ((13, 35), 2), ((13, 38), 2), ((13, 39), 2), ((13, 42), 2), ((13, 43), 1), ((13, 47), 1), ((13, 50), 2), ((13, 54), 2), ((13, 55), 1), ((13, 58), 1), ((13, 59), 4), ((13, 62), 4), ((13, 63), 1), ((13, 66), 1), ((13, 67), 1), ((13, 70), 1), ((13, 71), 3), ((13, 75), 3), ((13, 76), 0), ((13, 80), 0), ((13, 81), 0), ((13, 84), 0), ((13, 85), 2), ((13, 88), 2), ((13, 89), 1), ((13, 92), 1), ((13, 93), 1), ((13, 96), 1), ((13, 97), 1), ((13, 100), 1), ((13, 101), 0), ((13, 104), 0), ((13, 105), 1), ((13, 108), 1), ((13, 109), 3), ((13, 112), 3), ((13, 113), 1), ((13, 116), 1), ((13, 117), 3), ((13, 120), 3), ((13, 121), 3), ((13, 124), 3), ((13, 125), 5), ((13, 129), 5), ((13, 130), 1), ((13, 133), 1), ((13, 134), 1), ((13, 137), 1), ((13, 138), 0), ((13, 141), 0), ((13, 142), 0), ((13, 145), 0), ((13, 146), 1), ((13, 149), 1), ((13, 150), 0), ((13, 153), 0), ((13, 154), 1), ((13, 157), 1), ((13, 158), 1), ((13, 161), 1)]
end
section
/-! FACTS of the tables, decided by program -/
def mi_at (pl : Nat) (w : Jvm.Cond) : Bool := decide (lw_tbl[pl]? = some w)
theorem mi_at_mem {pl : Nat} {w : Jvm.Cond} (h : mi_at pl w = true) : w ∈ lw_tbl := List.mem_of_getElem? (of_decide_eq_true h)
/-- the words that go from a method to its callees -/
def mi_all : List Jvm.Cond := lw_tbl.filter goodWord
theorem mi_all_of {w : Jvm.Cond} (h : w ∈ lw_tbl) (hg : goodWord w = true) : w ∈ mi_all := List.mem_filter.mpr ⟨h, hg⟩
def mi_cw (pl : Nat) : Option (MethodName × ByteArray × Nat × Option FieldType) := match lw_tbl[pl]? with
  | some (.code y b L r) => some (y, b, L, r)
  | _ => none
theorem mi_cw_mem {pl : Nat} {w : MethodName × ByteArray × Nat × Option FieldType} (h : mi_cw pl = some w) : Jvm.Cond.code w.1 w.2.1 w.2.2.1 w.2.2.2 ∈ lw_tbl := by
  unfold mi_cw at h
  split at h
  next y b L r hp => cases h; exact List.mem_of_getElem? hp
  · cases h
/-- a method's bytes, out of the table (the law's own, where it has none) -/
def mi_bt (q : mi_Mt) : ByteArray := match mi_cw q.2.2.2.2.2.1 with
  | some w => w.2.1
  | none => code
def mi_dec (b : ByteArray) (e : Nat × Instr) : Bool := match decode b e.1 with
  | .ok q => decide (q.1 = e.2) && (decide (mi_len q.1 = 0) || decide (mi_len q.1 = q.2))
  | _ => false
def mi_mchk (q : mi_Mt) : Bool := plainName q.1.cls && decide (q.2.2.1 ≤ 40) && decide (mi_R[q.2.2.2.2.1]? = some q.1.cls) && (decide (q.2.2.2.1 = none) || decide (q.2.2.2.1 = some .int) || decide (q.2.2.2.1 = some .boolean)) && (match mi_cw q.2.2.2.2.2.1 with
  | some w => decide (w.1 = q.1) && decide (w.2.2.1 = q.2.2.1) && decide (w.2.2.2 = q.2.2.2.1)
  | none => decide (q.2.2.2.2.2.1 = 99999))
theorem mi_mc_0 : mi_mt_0.all mi_mchk = true := by decide +kernel
theorem mi_mc_1 : mi_mt_1.all mi_mchk = true := by decide +kernel
theorem mi_mc_2 : mi_mt_2.all mi_mchk = true := by decide +kernel
theorem mi_mc_3 : mi_mt_3.all mi_mchk = true := by decide +kernel
theorem mi_mc_4 : mi_mt_4.all mi_mchk = true := by decide +kernel
theorem mi_mc_5 : mi_mt_5.all mi_mchk = true := by decide +kernel
theorem mi_mc : mi_mt.all mi_mchk = true := by
  simp only [mi_mt, List.all_append, mi_mc_0, mi_mc_1, mi_mc_2, mi_mc_3, mi_mc_4, mi_mc_5, Bool.and_self]
theorem mi_ii_ok : ∀ t ∈ mi_ii, (mi_mt[t]?).map (fun q => q.1.name) = some "<init>" := by decide +kernel
def mi_fchk (nest : Bool) (q : (Nat × Nat) × (Nat × Nat × Nat)) : Bool := match mi_R[q.1.1]?, mi_cl[q.2.1]? with
  | some O, some r => decide (q.2.2.1 < r.2.2) && (if nest = true then mi_at q.2.2.2 (.fieldLinkNest O q.1.2 (r.2.1 q.2.2.1).1 (r.2.1 q.2.2.1).2.1 (r.2.1 q.2.2.1).2.2.1 "NineLedges") else mi_at q.2.2.2 (.fieldLink O q.1.2 (r.2.1 q.2.2.1).1 (r.2.1 q.2.2.1).2.1 (r.2.1 q.2.2.1).2.2.1))
  | _, _ => false
theorem mi_fl_ok : mi_fl.all (mi_fchk false) = true := by decide +kernel
theorem mi_fn_ok : mi_fn.all (mi_fchk true) = true := by decide +kernel
def mi_cchk (ci : Nat) : Bool := match mi_cl[ci]?, mi_lp[ci]?, mi_df[ci]?, mi_in[ci]? with
  | some r, some lp, some fs, some ip => (List.range r.2.2).all (fun k => mi_at (lp.getD k 0) (u_lay r.1 r.2.1 k) && decide ((r.2.1 k).1 = r.1) && decide (parseFieldDescriptor (r.2.1 k).2.2.1 = some (mi_ty ci k)) && decide (defaultValue (mi_ty ci k) = vp_V fs k)) && decide (fs.length = r.2.2) && mi_at ip.1 (.instantiable r.1 r.2.2) && mi_at ip.2 (.initialized r.1) && (List.range r.2.2).all (fun a => (List.range r.2.2).all (fun b => decide (a = b) || decide ((r.2.1 a).2.1 ≠ (r.2.1 b).2.1)))
  | _, _, _, _ => false
theorem mi_cl_ok : (List.range 13).all mi_cchk = true := by decide +kernel
theorem mi_kc_ok : mi_kc.all (fun q => match mi_R[q.1.1]? with
  | some O => mi_at q.2.2 (.constant O q.1.2 q.2.1)
  | none => false) = true := by decide +kernel
theorem mi_kl_ok : mi_kl.all (fun q => match mi_R[q.1.1]? with
  | some O => mi_at q.2.2 (.constantLong O q.1.2 q.2.1)
  | none => false) = true := by decide +kernel
theorem mi_nl_ok : mi_nl.all (fun q => match mi_R[q.1.1]?, mi_cl[q.2.1]? with
  | some O, some r => decide (q.2.1 < 13) && mi_at q.2.2 (.classLink O q.1.2 r.1)
  | _, _ => false) = true := by decide +kernel
def mi_an (h : Nat) : String := match h with
  | 1 => "NineLedges$Goer"
  | 2 => "NineLedges$Text"
  | 3 => "NineLedges$Row"
  | _ => "NineLedges$Walker"
theorem mi_al_ok : mi_al.all (fun q => match mi_R[q.1.1]? with
  | some O => decide (0 < q.2.1) && decide (q.2.1 < 5) && mi_at q.2.2.1 (.classLink O q.1.2 (mi_an q.2.1)) && mi_at q.2.2.2 (.arrayOver (.object (mi_an q.2.1)))
  | _ => false) = true := by decide +kernel
theorem mi_gs_ok : mi_gs.all (fun q => match mi_R[q.1.1]? with
  | some O => mi_at q.2 (.fieldLink O q.1.2 "NineLedges" "ABOVE" "[I")
  | _ => false) = true := by decide +kernel
def mi_np (y : MethodName) : Option Nat := (parseMethodDescriptor y.desc).map (fun d => d.parameters.length)
def mi_mh (s : String) : Bool := decide (s ≠ "java/lang/invoke/MethodHandle" ∧ s ≠ "java/lang/invoke/VarHandle")
def mi_cvchk (q : (Nat × Nat × Nat) × (Nat × Nat × Nat × Nat × Nat × Nat)) : Bool := match mi_R[q.1.1]?, mi_cl[q.1.2.2]?, mi_mt[q.2.1]? with
  | some O, some r, some M => decide (q.1.2.2 < 13) && decide (M.2.2.2.2.2.1 ≠ 99999) && decide (M.1.cls = r.1) && mi_mh M.1.cls && decide (mi_np M.1 = some q.2.2.1) && mi_at q.2.2.2.1 (.methodLink O q.1.2.1 M.1) && mi_at q.2.2.2.2.1 (.instanceMethod M.1) && mi_at q.2.2.2.2.2.1 (.selects r.1 M.1 M.1) && mi_at q.2.2.2.2.2.2 (.initialized r.1)
  | _, _, _ => false
theorem mi_cv_ok : mi_cv.all mi_cvchk = true := by decide +kernel
def mi_cuchk (q : (Nat × Nat × Nat) × (Nat × Nat × Nat × Nat × Nat × Nat × Nat × Nat × Nat)) : Bool := match mi_R[q.1.1]?, mi_cl[q.1.2.2]?, mi_mt[q.2.1]?, mi_mt[q.2.2.2.1]? with
  | some O, some r, some M, some U => (match lw_tbl[q.2.2.2.2.1]? with
    | some (.methodLink O' k x) => decide (q.1.2.2 < 13) && decide (O' = O) && decide (k = q.1.2.1) && decide (M.2.2.2.2.2.1 ≠ 99999) && decide (U.2.2.2.2.2.1 ≠ 99999) && decide (U.1.name = x.name) && decide (U.1.desc = x.desc) && mi_mh U.1.cls && decide (mi_np x = some q.2.2.1) && mi_at q.2.2.2.2.2.1 (.sameMethod x.cls U.1.cls x.name x.desc) && mi_at q.2.2.2.2.2.2.1 (.instanceMethod U.1) && mi_at q.2.2.2.2.2.2.2.1 (.selects r.1 x M.1) && mi_at q.2.2.2.2.2.2.2.2.1 (.instanceMethod M.1) && mi_at q.2.2.2.2.2.2.2.2.2 (.initialized M.1.cls)
    | _ => false)
  | _, _, _, _ => false
theorem mi_cu_ok : mi_cu.all mi_cuchk = true := by decide +kernel
def mi_cschk (nest : Bool) (q : (Nat × Nat) × (Nat × Nat × Nat × Nat × Nat)) : Bool := match mi_R[q.1.1]?, mi_mt[q.2.1]? with
  | some O, some M => decide (M.2.2.2.2.2.1 ≠ 99999) && mi_mh M.1.cls && decide (mi_np M.1 = some q.2.2.1) && (if nest = true then mi_at q.2.2.2.1 (.methodLinkNest O q.1.2 M.1 "NineLedges") else mi_at q.2.2.2.1 (.methodLink O q.1.2 M.1)) && mi_at q.2.2.2.2.1 (.static M.1) && mi_at q.2.2.2.2.2 (.initialized M.1.cls)
  | _, _ => false
theorem mi_cs_ok : mi_cs.all (mi_cschk false) = true := by decide +kernel
theorem mi_cn_ok : mi_cn.all (mi_cschk true) = true := by decide +kernel
def mi_cichk (nest : Bool) (q : (Nat × Nat) × (Nat × Nat × Nat × Nat × Nat)) : Bool := match mi_R[q.1.1]?, mi_mt[q.2.1]? with
  | some O, some M => decide (M.2.2.2.2.2.1 ≠ 99999) && decide (M.1.name = "<init>") && decide (M.2.2.2.1 = none) && mi_mh M.1.cls && decide (mi_np M.1 = some q.2.2.1) && (if nest = true then mi_at q.2.2.2.1 (.methodLinkNest O q.1.2 M.1 "NineLedges") else mi_at q.2.2.2.1 (.methodLink O q.1.2 M.1)) && mi_at q.2.2.2.2.1 (.instanceMethod M.1) && mi_at q.2.2.2.2.2 (.initialized M.1.cls)
  | _, _ => false
theorem mi_ci_ok : mi_ci.all (mi_cichk false) = true := by decide +kernel
theorem mi_cj_ok : mi_cj.all (mi_cichk true) = true := by decide +kernel
def mi_czchk (q : (Nat × Nat) × (Nat × Nat × Nat × Nat × Nat × Nat × Nat × Nat × Nat)) : Bool := match mi_R[q.1.1]?, mi_mt[q.2.1]?, mi_cl[q.2.2.2.1]? with
  | some O, some M, some X => decide (M.2.2.2.2.2.1 ≠ 99999) && decide (M.1.name ≠ "<init>") && decide (mi_np M.1 = some q.2.2.1) && mi_at q.2.2.2.2.1 (.methodLink O q.1.2 ⟨X.1, M.1.name, M.1.desc⟩) && mi_at q.2.2.2.2.2.1 (.sameMethod X.1 M.1.cls M.1.name M.1.desc) && mi_at q.2.2.2.2.2.2.1 (.superclass O X.1) && (decide (X.1 = M.1.cls) || mi_at q.2.2.2.2.2.2.2.1 (.superclass X.1 M.1.cls)) && mi_at q.2.2.2.2.2.2.2.2.1 (.instanceMethod M.1) && mi_at q.2.2.2.2.2.2.2.2.2 (.initialized M.1.cls)
  | _, _, _ => false
theorem mi_cz_ok : mi_cz.all mi_czchk = true := by decide +kernel
def mi_cqchk (q : (Nat × Nat) × (Nat × Nat)) : Bool := match mi_R[q.1.1]? with
  | some O => (match q.2.1 with
    | 1 => mi_at q.2.2 (.methodLink O q.1.2 Lib.Math.max.name)
    | 2 => mi_at q.2.2 (.methodLink O q.1.2 Lib.Math.min.name)
    | 3 => mi_at q.2.2 (.methodLink O q.1.2 arraycopyName)
    | 4 => mi_at q.2.2 (.methodLink O q.1.2 objectInit)
    | 5 => mi_at q.2.2 (.methodLink O q.1.2 yJ0_indexOf_0f7a4)
    | _ => false)
  | none => false
theorem mi_cq_ok : mi_cq.all mi_cqchk = true := by decide +kernel
end
section
/-! the methods' code, decoded by program -/
def mi_dchk (q : mi_Mt) : Bool := q.2.2.2.2.2.2.all (mi_dec (mi_bt q))
theorem mi_cw_law : mi_cw 99999 = none := by decide +kernel
theorem mi_d0_0 : ((mi_mt_0.drop 0).take 8).all mi_dchk = true := by decide +kernel
theorem mi_d0_8 : ((mi_mt_0.drop 8).take 8).all mi_dchk = true := by decide +kernel
theorem mi_d0_16 : ((mi_mt_0.drop 16).take 8).all mi_dchk = true := by decide +kernel
theorem mi_d0_24 : ((mi_mt_0.drop 24).take 8).all mi_dchk = true := by decide +kernel
theorem mi_d0_32 : ((mi_mt_0.drop 32).take 8).all mi_dchk = true := by decide +kernel
theorem mi_d1_0 : ((mi_mt_1.drop 0).take 8).all mi_dchk = true := by decide +kernel
theorem mi_d1_8 : ((mi_mt_1.drop 8).take 8).all mi_dchk = true := by decide +kernel
theorem mi_d1_16 : ((mi_mt_1.drop 16).take 8).all mi_dchk = true := by decide +kernel
theorem mi_d1_24 : ((mi_mt_1.drop 24).take 8).all mi_dchk = true := by decide +kernel
theorem mi_d1_32 : ((mi_mt_1.drop 32).take 8).all mi_dchk = true := by decide +kernel
theorem mi_d2_0 : ((mi_mt_2.drop 0).take 8).all mi_dchk = true := by decide +kernel
theorem mi_d2_8 : ((mi_mt_2.drop 8).take 8).all mi_dchk = true := by decide +kernel
theorem mi_d2_16 : ((mi_mt_2.drop 16).take 8).all mi_dchk = true := by decide +kernel
theorem mi_d2_24 : ((mi_mt_2.drop 24).take 8).all mi_dchk = true := by decide +kernel
theorem mi_d2_32 : ((mi_mt_2.drop 32).take 8).all mi_dchk = true := by decide +kernel
theorem mi_d3_0 : ((mi_mt_3.drop 0).take 8).all mi_dchk = true := by decide +kernel
theorem mi_d3_8 : ((mi_mt_3.drop 8).take 8).all mi_dchk = true := by decide +kernel
theorem mi_d3_16 : ((mi_mt_3.drop 16).take 8).all mi_dchk = true := by decide +kernel
theorem mi_d3_24 : ((mi_mt_3.drop 24).take 8).all mi_dchk = true := by decide +kernel
theorem mi_d3_32 : ((mi_mt_3.drop 32).take 8).all mi_dchk = true := by decide +kernel
theorem mi_d4_0 : ((mi_mt_4.drop 0).take 8).all mi_dchk = true := by decide +kernel
theorem mi_d4_8 : ((mi_mt_4.drop 8).take 8).all mi_dchk = true := by decide +kernel
theorem mi_d4_16 : ((mi_mt_4.drop 16).take 8).all mi_dchk = true := by decide +kernel
theorem mi_d4_24 : ((mi_mt_4.drop 24).take 8).all mi_dchk = true := by decide +kernel
theorem mi_d4_32 : ((mi_mt_4.drop 32).take 8).all mi_dchk = true := by decide +kernel
theorem mi_d5_0 : ((mi_mt_5.drop 0).take 8).all mi_dchk = true := by decide +kernel
theorem mi_d5_8 : ((mi_mt_5.drop 8).take 8).all mi_dchk = true := by decide +kernel
theorem mi_d5_16 : ((mi_mt_5.drop 16).take 8).all mi_dchk = true := by decide +kernel
theorem mi_d5_24 : ((mi_mt_5.drop 24).take 7).all mi_dchk = true := by decide +kernel
theorem mi_dl_0 : ((mi_k231.drop 0).take 140).all (mi_dec code) = true := by decide +kernel
theorem mi_dl_140 : ((mi_k231.drop 140).take 140).all (mi_dec code) = true := by decide +kernel
theorem mi_dl_280 : ((mi_k231.drop 280).take 140).all (mi_dec code) = true := by decide +kernel
theorem mi_dl_420 : ((mi_k231.drop 420).take 140).all (mi_dec code) = true := by decide +kernel
theorem mi_dl_560 : ((mi_k231.drop 560).take 140).all (mi_dec code) = true := by decide +kernel
theorem mi_dl_700 : ((mi_k231.drop 700).take 140).all (mi_dec code) = true := by decide +kernel
theorem mi_dl_840 : ((mi_k231.drop 840).take 140).all (mi_dec code) = true := by decide +kernel
theorem mi_dl_980 : (mi_k231.drop 980).all (mi_dec code) = true := by decide +kernel
end
section
/-! all methods are decoded -/
theorem mi_all8 {α : Type} (f : α → Bool) (l : List α) (n : Nat) (h0 : (l.take n).all f = true) (h1 : (l.drop n).all f = true) : l.all f = true := by
  rw [← List.take_append_drop n l, List.all_append, h0, h1]
  rfl
theorem mi_dm_0 : mi_mt_0.all mi_dchk = true := by
  refine mi_all8 _ _ 8 mi_d0_0 (mi_all8 _ _ 8 mi_d0_8 (mi_all8 _ _ 8 (by rw [List.drop_drop]; exact mi_d0_16) (mi_all8 _ _ 8 (by rw [List.drop_drop, List.drop_drop]; exact mi_d0_24) ?_)))
  rw [List.drop_drop, List.drop_drop, List.drop_drop]
  refine mi_all8 _ _ 8 mi_d0_32 ?_
  rw [List.drop_drop]
  rfl
theorem mi_dm_1 : mi_mt_1.all mi_dchk = true := by
  refine mi_all8 _ _ 8 mi_d1_0 (mi_all8 _ _ 8 mi_d1_8 (mi_all8 _ _ 8 (by rw [List.drop_drop]; exact mi_d1_16) (mi_all8 _ _ 8 (by rw [List.drop_drop, List.drop_drop]; exact mi_d1_24) ?_)))
  rw [List.drop_drop, List.drop_drop, List.drop_drop]
  refine mi_all8 _ _ 8 mi_d1_32 ?_
  rw [List.drop_drop]
  rfl
theorem mi_dm_2 : mi_mt_2.all mi_dchk = true := by
  refine mi_all8 _ _ 8 mi_d2_0 (mi_all8 _ _ 8 mi_d2_8 (mi_all8 _ _ 8 (by rw [List.drop_drop]; exact mi_d2_16) (mi_all8 _ _ 8 (by rw [List.drop_drop, List.drop_drop]; exact mi_d2_24) ?_)))
  rw [List.drop_drop, List.drop_drop, List.drop_drop]
  refine mi_all8 _ _ 8 mi_d2_32 ?_
  rw [List.drop_drop]
  rfl
theorem mi_dm_3 : mi_mt_3.all mi_dchk = true := by
  refine mi_all8 _ _ 8 mi_d3_0 (mi_all8 _ _ 8 mi_d3_8 (mi_all8 _ _ 8 (by rw [List.drop_drop]; exact mi_d3_16) (mi_all8 _ _ 8 (by rw [List.drop_drop, List.drop_drop]; exact mi_d3_24) ?_)))
  rw [List.drop_drop, List.drop_drop, List.drop_drop]
  refine mi_all8 _ _ 8 mi_d3_32 ?_
  rw [List.drop_drop]
  rfl
theorem mi_dm_4 : mi_mt_4.all mi_dchk = true := by
  refine mi_all8 _ _ 8 mi_d4_0 (mi_all8 _ _ 8 mi_d4_8 (mi_all8 _ _ 8 (by rw [List.drop_drop]; exact mi_d4_16) (mi_all8 _ _ 8 (by rw [List.drop_drop, List.drop_drop]; exact mi_d4_24) ?_)))
  rw [List.drop_drop, List.drop_drop, List.drop_drop]
  refine mi_all8 _ _ 8 mi_d4_32 ?_
  rw [List.drop_drop]
  rfl
theorem mi_dl : mi_k231.all (mi_dec code) = true := by
  refine mi_all8 _ _ 140 mi_dl_0 (mi_all8 _ _ 140 mi_dl_140 (mi_all8 _ _ 140 (by rw [List.drop_drop]; exact mi_dl_280) (mi_all8 _ _ 140 (by rw [List.drop_drop, List.drop_drop]; exact mi_dl_420) (mi_all8 _ _ 140 (by rw [List.drop_drop, List.drop_drop, List.drop_drop]; exact mi_dl_560) (mi_all8 _ _ 140 (by rw [List.drop_drop, List.drop_drop, List.drop_drop, List.drop_drop]; exact mi_dl_700) ?_)))))
  rw [List.drop_drop, List.drop_drop, List.drop_drop, List.drop_drop, List.drop_drop]
  refine mi_all8 _ _ 140 mi_dl_840 ?_
  rw [List.drop_drop]
  exact mi_dl_980
theorem mi_d5_31 : ((mi_mt_5.drop 31)).all mi_dchk = true := by
  show (mi_dchk (yL_law, cL_law, 4, some .boolean, 13, 99999, mi_k231) && true) = true
  rw [Bool.and_true]
  show mi_k231.all (mi_dec (mi_bt (yL_law, cL_law, 4, some .boolean, 13, 99999, mi_k231))) = true
  have e : mi_bt (yL_law, cL_law, 4, some .boolean, 13, 99999, mi_k231) = code := by unfold mi_bt; rw [show mi_cw 99999 = none from mi_cw_law]
  rw [e]; exact mi_dl
theorem mi_dm_5 : mi_mt_5.all mi_dchk = true := by
  refine mi_all8 _ _ 8 mi_d5_0 (mi_all8 _ _ 8 mi_d5_8 (mi_all8 _ _ 8 (by rw [List.drop_drop]; exact mi_d5_16) (mi_all8 _ _ 7 (by rw [List.drop_drop, List.drop_drop]; exact mi_d5_24) ?_)))
  rw [List.drop_drop, List.drop_drop, List.drop_drop]
  exact mi_d5_31
theorem mi_dm : mi_mt.all mi_dchk = true := by
  simp only [mi_mt, List.all_append, mi_dm_0, mi_dm_1, mi_dm_2, mi_dm_3, mi_dm_4, mi_dm_5, Bool.and_self]
end
section
/-! MINI: memory, calls, runs -/
abbrev mi_M : Type := List (Nat × List Value)
def mi_fit (ty : FieldType) (v : Value) : Bool := match ty, v with
  | .int, .int _ => true
  | .boolean, .int x => decide (x = 0 ∨ x = 1)
  | .object _, .ref _ => true
  | .array _, .ref _ => true
  | _, _ => false
/-- what cell a holds, if it is of kind h -/
def mi_ld (mem : mi_M) (a h : Nat) : Option (List Value) := (mem[a]?).bind fun c => if c.1 = h then some c.2 else none
def mi_gf (own k : Nat) : Option (Nat × Nat) := match mi_fl.lookup (own, k) with
  | some q => some (q.1, q.2.1)
  | none => (mi_fn.lookup (own, k)).map fun q => (q.1, q.2.1)
def mi_fin (ci k : Nat) : Bool := match mi_cl[ci]? with
  | some q => (q.2.1 k).2.2.2
  | none => true
def mi_getf (own k : Nat) (st : List Value) (mem : mi_M) : Option (List Value × mi_M) := match st with
  | .ref a :: r => (mi_gf own k).bind fun q => (mi_ld mem a q.1).bind fun fs => (fs[q.2]?).map fun v => (v :: r, mem)
  | _ => none
def mi_putf (own : Nat) (ini : Bool) (k : Nat) (st : List Value) (mem : mi_M) : Option (List Value × mi_M) := match st with
  | v :: .ref a :: r => (mi_gf own k).bind fun q => (mi_ld mem a q.1).bind fun fs =>
    if q.2 < fs.length ∧ mi_fit (mi_ty q.1 q.2) v = true ∧ (mi_fin q.1 q.2 = false ∨ (ini = true ∧ own = q.1)) then some (r, mem.set a (q.1, fs.set q.2 v)) else none
  | _ => none
def mi_gets (own k : Nat) (st : List Value) (mem : mi_M) : Option (List Value × mi_M) := (mi_gs.lookup (own, k)).map fun _ => (.ref 4 :: st, mem)
def mi_ix (i : Int32) (n : Nat) : Bool := decide (0 ≤ i.toInt) && decide (i.toInt < (n : Int))
def mi_ial (st : List Value) (mem : mi_M) : Option (List Value × mi_M) := match st with
  | .int i :: .ref a :: r => (mem[a]?).bind fun c => if (c.1 = 20 ∨ c.1 = 30 ∨ c.1 = 32) ∧ mi_ix i c.2.length = true then (match c.2[i.toNatClampNeg]? with
    | some (.int v) => some (.int v :: r, mem)
    | _ => none) else none
  | _ => none
def mi_ias (st : List Value) (mem : mi_M) : Option (List Value × mi_M) := match st with
  | .int x :: .int i :: .ref a :: r => (mi_ld mem a 20).bind fun cs => if mi_ix i cs.length = true then some (r, mem.set a (20, cs.set i.toNatClampNeg (.int x))) else none
  | _ => none
def mi_aal (st : List Value) (mem : mi_M) : Option (List Value × mi_M) := match st with
  | .int i :: .ref a :: r => (mem[a]?).bind fun c => if (20 < c.1 ∧ c.1 < 25) ∧ mi_ix i c.2.length = true then (match c.2[i.toNatClampNeg]? with
    | some (.ref b) => some (.ref b :: r, mem)
    | _ => none) else none
  | _ => none
/-- a cell of class ci may stand in an array of kind h -/
def mi_can (h ci : Nat) : Bool := (h == 21 && ci == 4) || (h == 22 && ci == 8) || (h == 23 && ci == 6) || (h == 24 && (ci == 9 || ci == 0 || ci == 2 || ci == 3 || ci == 5 || ci == 7 || ci == 10))
def mi_aas (st : List Value) (mem : mi_M) : Option (List Value × mi_M) := match st with
  | .ref b :: .int i :: .ref a :: r => (mem[a]?).bind fun c => (mem[b]?).bind fun d => if mi_can c.1 d.1 = true ∧ mi_ix i c.2.length = true then some (r, mem.set a (c.1, c.2.set i.toNatClampNeg (.ref b))) else none
  | _ => none
def mi_aln (st : List Value) (mem : mi_M) : Option (List Value × mi_M) := match st with
  | .ref a :: r => (mem[a]?).bind fun c => if (20 ≤ c.1 ∧ c.1 < 25) ∨ c.1 = 30 then some (.int (Int32.ofNat c.2.length) :: r, mem) else none
  | _ => none
def mi_nwa (st : List Value) (mem : mi_M) : Option (List Value × mi_M) := match st with
  | .int n :: r => if 0 ≤ n.toInt ∧ n.toInt ≤ 1000 then some (.ref mem.length :: r, mem ++ [(20, List.replicate n.toNatClampNeg (.int 0))]) else none
  | _ => none
def mi_nwq (own k : Nat) (st : List Value) (mem : mi_M) : Option (List Value × mi_M) := match st with
  | .int n :: r => (mi_al.lookup (own, k)).bind fun q => if 0 ≤ n.toInt ∧ n.toInt ≤ 1000 then some (.ref mem.length :: r, mem ++ [(20 + q.1, List.replicate n.toNatClampNeg .null)]) else none
  | _ => none
def mi_nw (own k : Nat) (st : List Value) (mem : mi_M) : Option (List Value × mi_M) := (mi_nl.lookup (own, k)).bind fun q => (mi_df[q.1]?).map fun fs => (.ref mem.length :: st, mem ++ [(q.1, fs)])
def mi_ldk (own k : Nat) (st : List Value) (mem : mi_M) : Option (List Value × mi_M) := match mi_kc.lookup (own, k) with
  | some q => some (.int q.1 :: st, mem)
  | none => (mi_ks.lookup (own, k)).map fun a => (.ref a :: st, mem)
def mi_ldk2 (own k : Nat) (st : List Value) (mem : mi_M) : Option (List Value × mi_M) := (mi_kl.lookup (own, k)).map fun q => (.long q.1 :: st, mem)
/-- memory -/
def mi_Y (own : Nat) (ini : Bool) (i : Instr) (st : List Value) (mem : mi_M) : Option (List Value × mi_M) := match i with
  | .getfield k => mi_getf own k st mem
  | .putfield k => mi_putf own ini k st mem
  | .getstatic k => mi_gets own k st mem
  | .iaload => mi_ial st mem
  | .iastore => mi_ias st mem
  | .aaload => mi_aal st mem
  | .aastore => mi_aas st mem
  | .arraylength => mi_aln st mem
  | .newarray .int => mi_nwa st mem
  | .anewarray k => mi_nwq own k st mem
  | .new k => mi_nw own k st mem
  | .ldc k => mi_ldk own k st mem
  | .ldc2_w k => mi_ldk2 own k st mem
  | _ => none
/-! calls -/
abbrev mi_F : Type := Nat → List Value → mi_M → Option (Option Value × mi_M)
def mi_low (r : List Value) : Bool := decide ((r.map fun v => v.category).sum ≤ 8)
def mi_vt (own k h : Nat) : Option Nat := match mi_cv.lookup (own, k, h) with
  | some q => some q.1
  | none => (mi_cu.lookup (own, k, h)).map fun q => q.1
def mi_ixo (c : Int32) : List Value → Nat → Int32
  | [], _ => -1
  | .int b :: l, k => if b = c then nI k else mi_ixo c l (k + 1)
  | _ :: l, k => mi_ixo c l (k + 1)
def mi_cpy (f g : List Value) (sp dp n : Nat) : List Value := (List.range g.length).map (fun k => if dp ≤ k ∧ k < dp + n then f.getD (sp + (k - dp)) .null else g.getD k .null)
def mi_acp (st : List Value) (mem : mi_M) : Option (List Value × mi_M) := match st with
  | .int n :: .int dp :: .ref a :: .int sp :: .ref a0 :: r => (mi_ld mem a0 20).bind fun f => (mi_ld mem a 20).bind fun g =>
    if 0 ≤ n.toInt ∧ 0 ≤ dp.toInt ∧ 0 ≤ sp.toInt ∧ sp.toNatClampNeg + n.toNatClampNeg ≤ f.length ∧ dp.toNatClampNeg + n.toNatClampNeg ≤ g.length ∧ mi_low r = true then
      some (r, mem.set a (20, mi_cpy f g sp.toNatClampNeg dp.toNatClampNeg n.toNatClampNeg)) else none
  | _ => none
def mi_mx (st : List Value) (mem : mi_M) : Option (List Value × mi_M) := match st with
  | .int y :: .int x :: r => if mi_low r = true then some (.int (if x < y then y else x) :: r, mem) else none
  | _ => none
def mi_mn (st : List Value) (mem : mi_M) : Option (List Value × mi_M) := match st with
  | .int y :: .int x :: r => if mi_low r = true then some (.int (if y < x then y else x) :: r, mem) else none
  | _ => none
def mi_oi (st : List Value) (mem : mi_M) : Option (List Value × mi_M) := match st with
  | .ref a :: r => if mi_low r = true ∧ 5 ≤ a then some (r, mem) else none
  | _ => none
def mi_sio (st : List Value) (mem : mi_M) : Option (List Value × mi_M) := match st with
  | .int c :: .ref a :: r => (mi_ld mem a 31).bind fun cs => if mi_low r = true then some (.int (mi_ixo c cs 0) :: r, mem) else none
  | _ => none
/-- a call of method t: n parameters, and a receiver -/
def mi_cat (f : mi_F) (t n : Nat) (st : List Value) (mem : mi_M) : Option (List Value × mi_M) := match st.drop n with
  | .ref b :: r => if mi_low r = true ∧ (st.take n).length = n then (f t (.ref b :: (st.take n).reverse) mem).map fun q => (q.1.toList ++ r, q.2) else none
  | _ => none
def mi_sat (f : mi_F) (t n : Nat) (st : List Value) (mem : mi_M) : Option (List Value × mi_M) :=
  if mi_low (st.drop n) = true ∧ (st.take n).length = n then (f t (st.take n).reverse mem).map fun q => (q.1.toList ++ st.drop n, q.2) else none
def mi_cvt (f : mi_F) (own k n : Nat) (st : List Value) (mem : mi_M) : Option (List Value × mi_M) := match st[n]? with
  | some (.ref b) => (mem[b]?).bind fun c => (mi_vt own k c.1).bind fun t => mi_cat f t n st mem
  | _ => none
/-- as mi_cat, the receiver an object of ours -/
def mi_csu (f : mi_F) (t n : Nat) (st : List Value) (mem : mi_M) : Option (List Value × mi_M) := match st[n]? with
  | some (.ref b) => (mem[b]?).bind fun c => if c.1 < 13 then mi_cat f t n st mem else none
  | _ => none
def mi_Zv (f : mi_F) (own k : Nat) (st : List Value) (mem : mi_M) : Option (List Value × mi_M) := match mi_cq.lookup (own, k) with
  | some q => if q.1 = 5 ∧ (f 1000 [] []).isSome = true then mi_sio st mem else none
  | none => (mi_vp.lookup (own, k)).bind fun n => mi_cvt f own k n st mem
def mi_Zs (f : mi_F) (own k : Nat) (st : List Value) (mem : mi_M) : Option (List Value × mi_M) := match mi_cq.lookup (own, k) with
  | some q => if q.1 = 1 then mi_mx st mem else if q.1 = 2 then mi_mn st mem else if q.1 = 3 then mi_acp st mem else none
  | none => (match mi_cs.lookup (own, k) with
    | some q => mi_sat f q.1 q.2.1 st mem
    | none => (mi_cn.lookup (own, k)).bind fun q => mi_sat f q.1 q.2.1 st mem)
def mi_Zp (f : mi_F) (own k : Nat) (st : List Value) (mem : mi_M) : Option (List Value × mi_M) := match mi_cq.lookup (own, k) with
  | some q => if q.1 = 4 then mi_oi st mem else none
  | none => (match mi_ci.lookup (own, k) with
    | some q => mi_cat f q.1 q.2.1 st mem
    | none => (match mi_cj.lookup (own, k) with
      | some q => mi_cat f q.1 q.2.1 st mem
      | none => (mi_cz.lookup (own, k)).bind fun q => mi_csu f q.1 q.2.1 st mem))
def mi_Z (f : mi_F) (own : Nat) (i : Instr) (st : List Value) (mem : mi_M) : Option (List Value × mi_M) := match i with
  | .invokevirtual k => mi_Zv f own k st mem
  | .invokestatic k => mi_Zs f own k st mem
  | .invokespecial k => mi_Zp f own k st mem
  | _ => none
def mi_ret (rz : Bool) (i : Instr) (st : List Value) : Option (Option Value) := match i with
  | .ireturn => (match st with
    | [.int v] => if rz = true → v = 0 ∨ v = 1 then some (some (.int v)) else none
    | _ => none)
  | .return_ => (match st with
    | [] => some none
    | _ => none)
  | _ => none
/-- one instruction that doesn't leave: the next place, locals, stack, memory -/
def mi_one (f : mi_F) (own : Nat) (ini : Bool) (i : Instr) (pc : Nat) (ls st : List Value) (mem : mi_M) : Option (Nat × List Value × List Value × mi_M) := match mi_A i st with
  | some st' => some (pc + mi_len i, ls, st', mem)
  | none => (match mi_B i pc st with
    | some q => some (q.1, ls, q.2, mem)
    | none => (match mi_L i ls st with
      | some q => some (pc + mi_len i, q.1, q.2, mem)
      | none => (match mi_Y own ini i st mem with
        | some q => some (pc + mi_len i, ls, q.1, q.2)
        | none => (mi_Z f own i st mem).map fun q => (pc + 3, ls, q.1, q.2))))
def mi_go (f : mi_F) (own : Nat) (ini rz : Bool) (code : List (Nat × Instr)) : Nat → Nat → List Value → List Value → mi_M → Option (Option Value × mi_M)
  | 0, _, _, _, _ => none
  | n + 1, pc, ls, st, mem => (code.lookup pc).bind fun i => match mi_ret rz i st with
    | some r => some (r, mem)
    | none => (mi_one f own ini i pc ls st mem).bind fun q => mi_go f own ini rz code n q.1 q.2.1 q.2.2.1 q.2.2.2
def mi_run (N : Nat) : Nat → mi_F
  | 0 => fun _ _ _ => none
  | d + 1 => fun t as mem => if t = 1000 then (if 4 ≤ d then some (none, mem) else none) else (mi_mt[t]?).bind fun q => if q.2.2.1 < (mi_args as).length then none else mi_go (mi_run N d) q.2.2.2.2.1 (mi_ii.contains t) (decide (q.2.2.2.1 = some .boolean)) q.2.2.2.2.2.2 N 0 (mi_ent as q.2.2.1) [] mem
/-! more steps, deeper calls: the same answer -/
def mi_le (f g : mi_F) : Prop := ∀ t as mem q, f t as mem = some q → g t as mem = some q
theorem mi_cat_le {f g : mi_F} (h : mi_le f g) {t n : Nat} {st : List Value} {mem : mi_M} {q : List Value × mi_M} (hq : mi_cat f t n st mem = some q) : mi_cat g t n st mem = some q := by
  unfold mi_cat at hq ⊢
  split at hq
  · split at hq
    next hc =>
      rw [if_pos hc]
      obtain ⟨x, hx, h2⟩ := Option.map_eq_some_iff.mp hq
      rw [h _ _ _ _ hx]
      exact congrArg some h2
    · cases hq
  · cases hq
theorem mi_sat_le {f g : mi_F} (h : mi_le f g) {t n : Nat} {st : List Value} {mem : mi_M} {q : List Value × mi_M} (hq : mi_sat f t n st mem = some q) : mi_sat g t n st mem = some q := by
  unfold mi_sat at hq ⊢
  split at hq
  next hc =>
    rw [if_pos hc]
    obtain ⟨x, hx, h2⟩ := Option.map_eq_some_iff.mp hq
    rw [h _ _ _ _ hx]
    exact congrArg some h2
  · cases hq
theorem mi_cvt_le {f g : mi_F} (h : mi_le f g) {own k n : Nat} {st : List Value} {mem : mi_M} {q : List Value × mi_M} (hq : mi_cvt f own k n st mem = some q) : mi_cvt g own k n st mem = some q := by
  unfold mi_cvt at hq ⊢
  split at hq
  · obtain ⟨c, hc, h2⟩ := Option.bind_eq_some_iff.mp hq
    obtain ⟨t, ht, h3⟩ := Option.bind_eq_some_iff.mp h2
    rw [hc, Option.bind_some, ht, Option.bind_some]
    exact mi_cat_le h h3
  · cases hq
theorem mi_csu_le {f g : mi_F} (h : mi_le f g) {t n : Nat} {st : List Value} {mem : mi_M} {q : List Value × mi_M} (hq : mi_csu f t n st mem = some q) : mi_csu g t n st mem = some q := by
  unfold mi_csu at hq ⊢
  split at hq
  · obtain ⟨c, hc, h2⟩ := Option.bind_eq_some_iff.mp hq
    rw [hc, Option.bind_some]
    split at h2
    next h3 => rw [if_pos h3]; exact mi_cat_le h h2
    next => cases h2
  · cases hq
theorem mi_Z_le {f g : mi_F} (h : mi_le f g) {own : Nat} {i : Instr} {st : List Value} {mem : mi_M} {q : List Value × mi_M} (hq : mi_Z f own i st mem = some q) : mi_Z g own i st mem = some q := by
  unfold mi_Z at hq ⊢
  split at hq
  · unfold mi_Zv at hq ⊢
    split at hq
    · split at hq
      next h5 =>
        obtain ⟨x, hx⟩ := Option.isSome_iff_exists.mp h5.2
        rw [if_pos ⟨h5.1, by rw [h _ _ _ _ hx]; rfl⟩]
        exact hq
      next => cases hq
    · obtain ⟨c, hc, h2⟩ := Option.bind_eq_some_iff.mp hq
      rw [hc, Option.bind_some]
      exact mi_cvt_le h h2
  · unfold mi_Zs at hq ⊢
    split at hq
    · exact hq
    · split at hq
      · exact mi_sat_le h hq
      · obtain ⟨c, hc, h2⟩ := Option.bind_eq_some_iff.mp hq
        rw [hc, Option.bind_some]
        exact mi_sat_le h h2
  · unfold mi_Zp at hq ⊢
    split at hq
    · exact hq
    · split at hq
      · exact mi_cat_le h hq
      · split at hq
        · exact mi_cat_le h hq
        · obtain ⟨c, hc, h2⟩ := Option.bind_eq_some_iff.mp hq
          rw [hc, Option.bind_some]
          exact mi_csu_le h h2
  · cases hq
theorem mi_one_le {f g : mi_F} (h : mi_le f g) {own : Nat} {ini : Bool} {i : Instr} {pc : Nat} {ls st : List Value} {mem : mi_M} {q : Nat × List Value × List Value × mi_M} (hq : mi_one f own ini i pc ls st mem = some q) : mi_one g own ini i pc ls st mem = some q := by
  unfold mi_one at hq ⊢
  split at hq
  · exact hq
  · split at hq
    · exact hq
    · split at hq
      · exact hq
      · split at hq
        · exact hq
        · obtain ⟨x, hx, h2⟩ := Option.map_eq_some_iff.mp hq
          rw [mi_Z_le h hx]
          exact congrArg some h2
theorem mi_go_le {f g : mi_F} (h : mi_le f g) {own : Nat} {ini rz : Bool} {code : List (Nat × Instr)} : ∀ (n n' : Nat) (pc : Nat) (ls st : List Value) (mem : mi_M) (q : Option Value × mi_M), n ≤ n' → mi_go f own ini rz code n pc ls st mem = some q → mi_go g own ini rz code n' pc ls st mem = some q := by
  intro n
  induction n with
  | zero => intro n' pc ls st mem q _ hq; cases hq
  | succ n ih =>
    intro n' pc ls st mem q hn hq
    obtain ⟨k, rfl⟩ : ∃ k, n' = k + 1 := ⟨n' - 1, by omega⟩
    unfold mi_go at hq ⊢
    obtain ⟨i, hi, h2⟩ := Option.bind_eq_some_iff.mp hq
    rw [hi, Option.bind_some]
    split at h2
    · exact h2
    · obtain ⟨x, hx, h3⟩ := Option.bind_eq_some_iff.mp h2
      rw [mi_one_le h hx, Option.bind_some]
      exact ih k _ _ _ _ _ (by omega) h3
theorem mi_run_le {N N' : Nat} (hN : N ≤ N') : ∀ (d d' : Nat), d ≤ d' → mi_le (mi_run N d) (mi_run N' d') := by
  intro d
  induction d with
  | zero => intro d' _ t as mem q hq; cases hq
  | succ d ih =>
    intro d' hd t as mem q hq
    obtain ⟨k, rfl⟩ : ∃ k, d' = k + 1 := ⟨d' - 1, by omega⟩
    simp only [mi_run] at hq ⊢
    split at hq
    next h1 =>
      rw [if_pos h1]
      split at hq
      next h4 => rw [if_pos (by omega)]; exact hq
      next => cases hq
    next h1 =>
      rw [if_neg h1]
      obtain ⟨x, hx, h2⟩ := Option.bind_eq_some_iff.mp hq
      rw [hx, Option.bind_some]
      split at h2
      next => cases h2
      next h3 =>
        rw [if_neg h3]
        exact mi_go_le (ih k (by omega)) _ _ _ _ _ _ _ hN h2
end
section
/-! MINI's cells as the machine has them -/
def mi_I (v : Value) : Int32 := match v with
  | .int x => x
  | _ => 0
def mi_Q (ad : Nat → Nat) (v : Value) : Option Nat := match v with
  | .ref a => some (ad a)
  | _ => none
def mi_e (ad : Nat → Nat) (aT : Nat → ClassId) (c : Nat × List Value) : va_E :=
  if c.1 < 13 then .inr (c.1, c.2.map (mi_v ad))
  else if c.1 = 20 then .inl (aT 0, c.2.length, .inl (fun j => mi_I (c.2.getD j .null)))
  else .inl (aT (c.1 - 20), c.2.length, .inr (.inr (.inr (.inr (fun j => mi_Q ad (c.2.getD j .null))))))
def mi_w (ad : Nat → Nat) (aT : Nat → ClassId) (mem : mi_M) : va_W := (List.range (mem.length - 5)).map (fun k => (ad (k + 5), mi_e ad aT (mem.getD (k + 5) (0, []))))
def mi_tys (aT : Nat → ClassId) : List (ClassId × FieldType) := [(aT 0, .int), (aT 1, .object (mi_an 1)), (aT 2, .object (mi_an 2)), (aT 3, .object (mi_an 3)), (aT 4, .object (mi_an 4))]
/-- the cells that lie outside: the script, three texts, the row ABOVE -/
def mi_spec (sc : List Value) : mi_M := [(30, sc), (31, []), (31, [.int 108, .int 110, .int 98]), (31, [.int 108, .int 107, .int 116]), (32, [.int (-1), .int 0, .int 0, .int 0, .int 1, .int 2, .int 3])]
def mi_ad (sA : Nat → Nat) (n0 : Nat) : Nat → Nat := fun a => if a < 5 then sA a else n0 + (a - 5)
theorem mi_ad_hi {sA : Nat → Nat} {n0 a : Nat} (h : 5 ≤ a) : mi_ad sA n0 a = n0 + (a - 5) := by
  unfold mi_ad
  rw [if_neg (by omega)]
theorem mi_w_get {ad : Nat → Nat} {aT : Nat → ClassId} {mem : mi_M} {a : Nat} {c : Nat × List Value} (h5 : 5 ≤ a) (h : mem[a]? = some c) : (mi_w ad aT mem)[a - 5]? = some (ad a, mi_e ad aT c) := by
  have hl := (List.getElem?_eq_some_iff.mp h).1
  unfold mi_w
  rw [List.getElem?_map, List.getElem?_range (by omega), Option.map_some, show a - 5 + 5 = a by omega, List.getD_eq_getElem?_getD, h]
  rfl
theorem mi_w_len {ad : Nat → Nat} {aT : Nat → ClassId} {mem : mi_M} : (mi_w ad aT mem).length = mem.length - 5 := by simp [mi_w]
theorem mi_w_inv {ad : Nat → Nat} {aT : Nat → ClassId} {mem : mi_M} {k : Nat} {q : Nat × va_E} (h : (mi_w ad aT mem)[k]? = some q) : k < mem.length - 5 ∧ q = (ad (k + 5), mi_e ad aT (mem.getD (k + 5) (0, []))) := by
  have hl := (List.getElem?_eq_some_iff.mp h).1
  rw [mi_w_len] at hl
  refine ⟨hl, ?_⟩
  unfold mi_w at h
  rw [List.getElem?_map, List.getElem?_range hl, Option.map_some] at h
  exact (Option.some.inj h).symm
theorem mi_w_set {ad : Nat → Nat} {aT : Nat → ClassId} {mem : mi_M} {a : Nat} {c : Nat × List Value} (h5 : 5 ≤ a) (hl : a < mem.length) : mi_w ad aT (mem.set a c) = (mi_w ad aT mem).set (a - 5) (ad a, mi_e ad aT c) := by
  apply List.ext_getElem?
  intro k
  by_cases hk : k < mem.length - 5
  · unfold mi_w
    rw [List.length_set, List.getElem?_map, List.getElem?_range hk, Option.map_some]
    by_cases e : k = a - 5
    · subst e
      rw [List.getElem?_set_self (by simpa using hk), show a - 5 + 5 = a by omega, List.getD_eq_getElem?_getD, List.getElem?_set_self hl]
      rfl
    · rw [List.getElem?_set_ne (fun h => e h.symm), List.getElem?_map, List.getElem?_range hk, Option.map_some, List.getD_eq_getElem?_getD, List.getElem?_set_ne (by omega), ← List.getD_eq_getElem?_getD]
  · rw [List.getElem?_eq_none (by rw [mi_w_len, List.length_set]; omega), List.getElem?_eq_none (by rw [List.length_set, mi_w_len]; omega)]
theorem mi_w_app {ad : Nat → Nat} {aT : Nat → ClassId} {mem : mi_M} {c : Nat × List Value} (h5 : 5 ≤ mem.length) : mi_w ad aT (mem ++ [c]) = mi_w ad aT mem ++ [(ad mem.length, mi_e ad aT c)] := by
  unfold mi_w
  rw [List.length_append, List.length_singleton, show mem.length + 1 - 5 = (mem.length - 5) + 1 by omega, List.range_succ, List.map_append, List.map_singleton, show mem.length - 5 + 5 = mem.length by omega]
  congr 1
  · apply List.map_congr_left
    intro k hk
    have := List.mem_range.mp hk
    rw [List.getD_eq_getElem?_getD, List.getElem?_append_left (by omega), ← List.getD_eq_getElem?_getD]
  · rw [List.getD_eq_getElem?_getD, List.getElem?_append_right (Nat.le_refl _), Nat.sub_self]
    rfl
theorem mi_w_D {sA : Nat → Nat} {n0 : Nat} {aT : Nat → ClassId} {mem : mi_M} : va_D (fun q : Nat => n0 ≤ q) (mi_w (mi_ad sA n0) aT mem) := by
  refine ⟨fun i j p q hi hj hpq => ?_, fun k q hk => ?_⟩
  · obtain ⟨-, rfl⟩ := mi_w_inv hi
    obtain ⟨-, rfl⟩ := mi_w_inv hj
    have h : mi_ad sA n0 (i + 5) = mi_ad sA n0 (j + 5) := hpq
    rw [mi_ad_hi (by omega), mi_ad_hi (by omega)] at h
    omega
  · obtain ⟨-, rfl⟩ := mi_w_inv hk
    show n0 ≤ mi_ad sA n0 (k + 5)
    rw [mi_ad_hi (by omega)]
    omega
/-- the low cells are the outside ones -/
theorem mi_hi {sc : List Value} {mem : mi_M} {a : Nat} {c : Nat × List Value} (hm : mem.take 5 = mi_spec sc) (h : mem[a]? = some c) (hc : c.1 < 25) : 5 ≤ a := by
  refine Nat.not_lt.mp fun ha => ?_
  have h1 : (mem.take 5)[a]? = some c := by rw [List.getElem?_take, if_pos ha]; exact h
  rw [hm] at h1
  rcases (by omega : a = 0 ∨ a = 1 ∨ a = 2 ∨ a = 3 ∨ a = 4) with rfl | rfl | rfl | rfl | rfl <;> (cases h1; simp at hc)
theorem mi_lo {sc : List Value} {mem : mi_M} {a : Nat} (hm : mem.take 5 = mi_spec sc) (ha : a < 5) : mem[a]? = (mi_spec sc)[a]? := by
  rw [← hm, List.getElem?_take, if_pos ha]
theorem mi_len5 {sc : List Value} {mem : mi_M} (hm : mem.take 5 = mi_spec sc) : 5 ≤ mem.length := by
  have h : (mem.take 5).length = 5 := by rw [hm]; rfl
  rw [List.length_take] at h
  omega
theorem mi_take_set {sc : List Value} {mem : mi_M} {a : Nat} {c : Nat × List Value} (hm : mem.take 5 = mi_spec sc) (h5 : 5 ≤ a) : (mem.set a c).take 5 = mi_spec sc := by
  rw [← hm]
  apply List.ext_getElem?
  intro k
  rw [List.getElem?_take, List.getElem?_take]
  by_cases hk : k < 5
  · rw [if_pos hk, if_pos hk, List.getElem?_set_ne (by omega)]
  · rw [if_neg hk, if_neg hk]
theorem mi_take_app {sc : List Value} {mem : mi_M} {c : Nat × List Value} (hm : mem.take 5 = mi_spec sc) : (mem ++ [c]).take 5 = mi_spec sc := by
  rw [List.take_append_of_le_length (mi_len5 hm), hm]
theorem mi_e_obj {ad : Nat → Nat} {aT : Nat → ClassId} {ci : Nat} {fs : List Value} (h : ci < 13) : mi_e ad aT (ci, fs) = .inr (ci, fs.map (mi_v ad)) := by
  unfold mi_e
  rw [if_pos h]
theorem mi_e_int {ad : Nat → Nat} {aT : Nat → ClassId} {fs : List Value} : mi_e ad aT (20, fs) = .inl (aT 0, fs.length, .inl (fun j => mi_I (fs.getD j .null))) := by
  unfold mi_e
  rw [if_neg (by show ¬ 20 < 13; decide), if_pos rfl]
theorem mi_e_ref {ad : Nat → Nat} {aT : Nat → ClassId} {h : Nat} {fs : List Value} (h1 : 20 < h) : mi_e ad aT (h, fs) = .inl (aT (h - 20), fs.length, .inr (.inr (.inr (.inr (fun j => mi_Q ad (fs.getD j .null)))))) := by
  unfold mi_e
  rw [if_neg (by show ¬ h < 13; omega), if_neg (by show ¬ h = 20; omega)]
/-- indices -/
theorem mi_ix_in {i : Int32} {n : Nat} (h : mi_ix i n = true) : vp_in i n := by
  simp only [mi_ix, Bool.and_eq_true, decide_eq_true_eq] at h
  exact vp_in_iff.mpr h
theorem mi_ix_lt {i : Int32} {n : Nat} (h : mi_ix i n = true) : i.toNatClampNeg < n := Nat.not_le.mp fun q => mi_ix_in h (Or.inr q)
theorem mi_I_set {cs : List Value} {k : Nat} {x : Int32} (hk : k < cs.length) : (fun j => mi_I ((cs.set k (.int x)).getD j .null)) = upd (fun j => mi_I (cs.getD j .null)) k x := by
  funext j
  unfold upd
  simp only [List.getD_eq_getElem?_getD]
  by_cases h : j = k
  · subst h
    rw [if_pos rfl, List.getElem?_set_self hk]
    rfl
  · rw [if_neg h, List.getElem?_set_ne (fun z => h z.symm)]
theorem mi_Q_set {ad : Nat → Nat} {cs : List Value} {k b : Nat} (hk : k < cs.length) : (fun j => mi_Q ad ((cs.set k (.ref b)).getD j .null)) = va_up (fun j => mi_Q ad (cs.getD j .null)) k (some (ad b)) := by
  funext j
  unfold va_up
  simp only [List.getD_eq_getElem?_getD]
  by_cases h : j = k
  · subst h
    rw [if_pos rfl, List.getElem?_set_self hk]
    rfl
  · rw [if_neg h, List.getElem?_set_ne (fun z => h z.symm)]
theorem mi_I_cpy {f g : List Value} {sp dp n : Nat} (h : dp + n ≤ g.length) : (fun j => mi_I ((mi_cpy f g sp dp n).getD j .null)) = va_cpy (fun j => mi_I (f.getD j .null)) (fun j => mi_I (g.getD j .null)) sp dp n := by
  funext j
  unfold va_cpy mi_cpy
  rw [List.getD_eq_getElem?_getD, List.getElem?_map]
  by_cases hj : j < g.length
  · rw [List.getElem?_range hj, Option.map_some, Option.getD_some]
    split <;> rfl
  · have e : g.getD j .null = .null := by rw [List.getD_eq_getElem?_getD, List.getElem?_eq_none (by omega)]; rfl
    rw [List.getElem?_eq_none (by simpa using hj), if_neg (by omega)]
    show mi_I .null = mi_I (g.getD j .null)
    rw [e]
theorem mi_cpy_len {f g : List Value} {sp dp n : Nat} : (mi_cpy f g sp dp n).length = g.length := by simp [mi_cpy]
theorem mi_fit_ok {ty : FieldType} {v : Value} (ad : Nat → Nat) (h : mi_fit ty v = true) : narrow ty (mi_v ad v) = mi_v ad v ∧ fits ty (mi_v ad v) = true := by
  unfold mi_fit at h
  split at h
  · exact ⟨rfl, rfl⟩
  · have h1 := of_decide_eq_true h
    rcases h1 with rfl | rfl <;> exact ⟨rfl, rfl⟩
  · exact ⟨rfl, rfl⟩
  · exact ⟨rfl, rfl⟩
  · cases h
theorem mi_look {α β : Type} [BEq α] [LawfulBEq α] {a : α} {b : β} : ∀ {l : List (α × β)}, l.lookup a = some b → (a, b) ∈ l := by
  intro l
  induction l with
  | nil => intro h; cases h
  | cons q l ih =>
    intro h
    obtain ⟨x, y⟩ := q
    rw [List.lookup_cons] at h
    split at h
    next he => cases h; rw [eq_of_beq he]; exact List.mem_cons_self
    next => exact List.mem_cons_of_mem _ (ih h)
end
section
/-! MINI's memory runs as the JVM's -/
def mi_bw (w : Jvm.Cond) : Bool := match w with
  | .fieldLinkNest .. => true
  | .methodLinkNest .. => true
  | .castable .. => true
  | .arrayOver (.object _) => true
  | _ => false
def mi_bad : List Jvm.Cond := lw_tbl.filter mi_bw
theorem mi_bad_of {w : Jvm.Cond} (h : w ∈ lw_tbl) (hg : mi_bw w = true) : w ∈ mi_bad := List.mem_filter.mpr ⟨h, hg⟩
theorem mi_bad_warm {s U : State} (hW : s.WarmedH U.vm) (h : ∀ w ∈ mi_bad, va_Nw w s) : ∀ w ∈ mi_bad, va_Nw w U := by
  intro w hw
  have h1 := h w hw
  have h2 := (List.mem_filter.mp hw).2
  unfold mi_bw at h2
  split at h2
  · exact va_Nw.warmF hW h1
  · exact va_Nw.warmM hW h1
  · exact va_Nw.warmC hW h1
  · exact va_AO.moved hW.alike h1
  · cases h2
/-- what lies outside: the script, ABOVE, the texts -/
def mi_so (ad : Nat → Nat) (A : Nat → Prop) (U : State) (H : Heap) : Prop := ∃ adV : Nat → Nat, vk_S 3 [0, 3, 3] [[], [108, 110, 98], [108, 107, 116]] (fun i => ad (i + 1)) adV A U H
def mi_out (ad : Nat → Nat) (n0 : Nat) (sc : List Value) (U : State) (H : Heap) : Prop :=
  (va_X (ad 0) sc.length (fun j => mi_I (sc.getD j .null)) U H ∧ ad 0 < n0) ∧ va_Z "NineLedges" "ABOVE" "[I" (.ref (ad 4)) (fun q : Nat => n0 ≤ q) U H ∧ va_T .int (ad 4) 7 (fun j => [Value.int (-1), .int 0, .int 0, .int 0, .int 1, .int 2, .int 3].getD j .null) (fun q : Nat => n0 ≤ q) U H ∧
  vk_R RX8 33 "" (ad 1) U ∧ vk_R RX11 172 "lnb" (ad 2) U ∧ vk_R RX11 174 "lkt" (ad 3) U ∧ mi_so ad (fun q : Nat => n0 ≤ q) U H ∧
  va_Z "java/lang/String" "COMPACT_STRINGS" "Z" (.int 1) (fun q : Nat => n0 ≤ q) U H
def mi_cx (p : Program) (s : State) (m : MethodId) (args : Array Value) (meth : Method) (c : Code) (t : Nat) (q : mi_Mt) (sA : Nat → Nat) (n0 : Nat) (sc : List Value) (D : va_G) (aT : Nat → ClassId) : Prop :=
  mi_mt[t]? = some q ∧ p.tables.exec = Jvm.exec ∧ c.code = mi_bt q ∧ c.maxLocals = q.2.2.1 ∧ s.vm.findClass q.1.cls = some m.cls ∧ (∀ w ∈ mi_all, w.before args s = true) ∧ (∀ w ∈ mi_bad, va_Nw w s) ∧ va_K D mi_cl (mi_tys aT) s ∧ n0 ≤ s.heap.size ∧ meth.locks = false ∧ (mi_ii.contains t = true → meth.name = "<init>") ∧ meth.sig.returnType = q.2.2.2.1 ∧ mi_out (mi_ad sA n0) n0 sc s s.heap
/-- the low cells are the outside ones; all else is of a kind below 25 -/
def mi_inv (sc : List Value) (mem : mi_M) : Prop := mem.take 5 = mi_spec sc ∧ ∀ (a : Nat) (c : Nat × List Value), 5 ≤ a → mem[a]? = some c → c.1 < 25
theorem mi_inv_set {sc : List Value} {mem : mi_M} {a : Nat} {c d : Nat × List Value} (h : mi_inv sc mem) (hc : mem[a]? = some c) (hk : c.1 < 25) (hd : d.1 = c.1) : mi_inv sc (mem.set a d) := by
  refine ⟨mi_take_set h.1 (mi_hi h.1 hc hk), fun b x hb hx => ?_⟩
  by_cases hab : b = a
  · subst hab
    rw [List.getElem?_set_self (List.getElem?_eq_some_iff.mp hc).1] at hx
    cases hx
    omega
  · rw [List.getElem?_set_ne (fun z => hab z.symm)] at hx
    exact h.2 b x hb hx
theorem mi_inv_app {sc : List Value} {mem : mi_M} {c : Nat × List Value} (h : mi_inv sc mem) (hk : c.1 < 25) : mi_inv sc (mem ++ [c]) := by
  refine ⟨mi_take_app h.1, fun b x hb hx => ?_⟩
  by_cases hl : b < mem.length
  · rw [List.getElem?_append_left hl] at hx
    exact h.2 b x hb hx
  · rw [List.getElem?_append_right (by omega)] at hx
    have hz : b - mem.length < 1 := (List.getElem?_eq_some_iff.mp hx).1
    rw [show b - mem.length = 0 by omega] at hx
    cases hx
    exact hk
theorem mi_low_kind {sc : List Value} {mem : mi_M} {a : Nat} {c : Nat × List Value} (h : mi_inv sc mem) (hc : mem[a]? = some c) (hk : c.1 = 30 ∨ c.1 = 32) : (c.1 = 30 ∧ a = 0 ∧ c.2 = sc) ∨ (c.1 = 32 ∧ a = 4 ∧ c.2 = [.int (-1), .int 0, .int 0, .int 0, .int 1, .int 2, .int 3]) := by
  have ha : a < 5 := Nat.not_le.mp fun z => by
    have := h.2 a c z hc
    omega
  have h1 := mi_lo h.1 ha
  rw [hc] at h1
  rcases (by omega : a = 0 ∨ a = 1 ∨ a = 2 ∨ a = 3 ∨ a = 4) with rfl | rfl | rfl | rfl | rfl <;> cases h1
  · exact Or.inl ⟨rfl, rfl, rfl⟩
  · rcases hk with hk | hk <;> cases hk
  · rcases hk with hk | hk <;> cases hk
  · rcases hk with hk | hk <;> cases hk
  · exact Or.inr ⟨rfl, rfl, rfl⟩
def mi_hd (sA : Nat → Nat) (n0 : Nat) (sc : List Value) (D : va_G) (aT : Nat → ClassId) (s : State) (mem : mi_M) (H : Heap) (locs : List Loc) : Prop :=
  va_P D mi_cl (mi_w (mi_ad sA n0) aT mem) H ∧ va_S (fun q : Nat => n0 ≤ q) s.heap H locs ∧ mi_inv sc mem
def mi_sl (mem : mi_M) : Nat := (mem.map (fun c => c.2.length)).sum
theorem mi_sl_app {mem : mi_M} {c : Nat × List Value} : mi_sl (mem ++ [c]) = mi_sl mem + c.2.length := by
  unfold mi_sl
  rw [List.map_append, List.sum_append]
  simp
theorem mi_sl_set {mem : mi_M} {a : Nat} {c d : Nat × List Value} (h : mem[a]? = some c) (hl : d.2.length = c.2.length) : mi_sl (mem.set a d) = mi_sl mem := by
  unfold mi_sl
  rw [List.map_set]
  congr 1
  apply List.ext_getElem?
  intro k
  by_cases hk : k = a
  · subst hk
    have hlt := (List.getElem?_eq_some_iff.mp h).1
    rw [List.getElem?_set_self (by simpa using hlt), List.getElem?_map, h, Option.map_some, hl]
  · rw [List.getElem?_set_ne (fun z => hk z.symm)]
theorem mi_ld_inv {mem : mi_M} {a h : Nat} {fs : List Value} (hl : mi_ld mem a h = some fs) : mem[a]? = some (h, fs) := by
  unfold mi_ld at hl
  obtain ⟨c, hc, h2⟩ := Option.bind_eq_some_iff.mp hl
  obtain ⟨x, y⟩ := c
  split at h2
  next he => cases h2; rw [hc]; exact congrArg (fun z => some (z, y)) he
  next => cases h2
/-- a field link -/
theorem mi_gf_inv {own k : Nat} {q : Nat × Nat} {O : String} (hO : mi_R[own]? = some O) (h : mi_gf own k = some q) : ∃ r : vw_C, mi_cl[q.1]? = some r ∧ q.2 < r.2.2 ∧
    (Jvm.Cond.fieldLink O k (r.2.1 q.2).1 (r.2.1 q.2).2.1 (r.2.1 q.2).2.2.1 ∈ lw_tbl ∨ ((mi_fl.lookup (own, k)).isNone = true ∧ Jvm.Cond.fieldLinkNest O k (r.2.1 q.2).1 (r.2.1 q.2).2.1 (r.2.1 q.2).2.2.1 "NineLedges" ∈ lw_tbl)) := by
  unfold mi_gf at h
  split at h
  next x hx =>
    cases h
    have h1 := List.all_eq_true.mp mi_fl_ok _ (mi_look hx)
    unfold mi_fchk at h1
    rw [hO] at h1
    try dsimp only at h1
    split at h1
    next O' r hO' hr =>
      cases hO'
      rw [Bool.and_eq_true] at h1
      exact ⟨r, hr, of_decide_eq_true h1.1, Or.inl (mi_at_mem h1.2)⟩
    next => cases h1
  next hx =>
    obtain ⟨x, hx2, rfl⟩ := Option.map_eq_some_iff.mp h
    have h1 := List.all_eq_true.mp mi_fn_ok _ (mi_look hx2)
    unfold mi_fchk at h1
    rw [hO] at h1
    try dsimp only at h1
    split at h1
    next O' r hO' hr =>
      cases hO'
      rw [Bool.and_eq_true] at h1
      exact ⟨r, hr, of_decide_eq_true h1.1, Or.inr ⟨by rw [hx]; rfl, mi_at_mem h1.2⟩⟩
    next => cases h1
/-- a class -/
theorem mi_cl_inv {ci : Nat} {r : vw_C} (h : mi_cl[ci]? = some r) : ci < 13 ∧ (∀ w ∈ u_ws r.1 r.2.1 r.2.2, w ∈ mi_all) ∧ (∀ k, k < r.2.2 → (r.2.1 k).1 = r.1) ∧ (∀ k, k < r.2.2 → parseFieldDescriptor (r.2.1 k).2.2.1 = some (mi_ty ci k)) ∧ (∀ a, a < r.2.2 → ∀ b, b < r.2.2 → a ≠ b → (r.2.1 a).2.1 ≠ (r.2.1 b).2.1) ∧
    (∃ fs, mi_df[ci]? = some fs ∧ fs.length = r.2.2 ∧ ∀ k, k < r.2.2 → defaultValue (mi_ty ci k) = vp_V fs k) ∧ Jvm.Cond.instantiable r.1 r.2.2 ∈ lw_tbl ∧ Jvm.Cond.initialized r.1 ∈ lw_tbl := by
  have h13 : ci < 13 := (List.getElem?_eq_some_iff.mp h).1
  have h1 := List.all_eq_true.mp mi_cl_ok ci (List.mem_range.mpr h13)
  unfold mi_cchk at h1
  rw [h] at h1
  try dsimp only at h1
  split at h1
  next r' lp fs ip hr hlp hfs hip =>
    cases hr
    simp only [Bool.and_eq_true, decide_eq_true_eq] at h1
    obtain ⟨⟨⟨⟨h1, h2⟩, h3⟩, h4⟩, h5⟩ := h1
    have h6 : ∀ k, k < r.2.2 → ((mi_at (lp.getD k 0) (u_lay r.1 r.2.1 k) = true ∧ (r.2.1 k).1 = r.1) ∧ parseFieldDescriptor (r.2.1 k).2.2.1 = some (mi_ty ci k)) ∧ defaultValue (mi_ty ci k) = vp_V fs k := by
      intro k hk
      have h7 := List.all_eq_true.mp h1 k (List.mem_range.mpr hk)
      simp only [Bool.and_eq_true, decide_eq_true_eq] at h7
      exact h7
    refine ⟨h13, fun w hw => ?_, fun k hk => (h6 k hk).1.1.2, fun k hk => (h6 k hk).1.2, fun a ha b hb hab => ?_, ⟨fs, hfs, h2, fun k hk => (h6 k hk).2⟩, mi_at_mem h3, mi_at_mem h4⟩
    · obtain ⟨k, hk, rfl⟩ := List.mem_map.mp hw
      refine mi_all_of (mi_at_mem (h6 k (List.mem_range.mp hk)).1.1.1) ?_
      unfold u_lay
      split <;> rfl
    · have h7 := List.all_eq_true.mp (List.all_eq_true.mp h5 a (List.mem_range.mpr ha)) b (List.mem_range.mpr hb)
      simp only [Bool.or_eq_true, decide_eq_true_eq] at h7
      exact h7.resolve_left hab
  next => cases h1
theorem mi_mt_inv {t : Nat} {q : mi_Mt} (h : mi_mt[t]? = some q) : plainName q.1.cls = true ∧ q.2.2.1 ≤ 40 ∧ mi_R[q.2.2.2.2.1]? = some q.1.cls ∧ (q.2.2.2.1 = none ∨ q.2.2.2.1 = some .int ∨ q.2.2.2.1 = some .boolean) ∧ (q.2.2.2.2.2.1 ≠ 99999 → Jvm.Cond.code q.1 (mi_bt q) q.2.2.1 q.2.2.2.1 ∈ lw_tbl) ∧ (mi_ii.contains t = true → q.1.name = "<init>") := by
  have h1 := List.all_eq_true.mp mi_mc q (List.mem_of_getElem? h)
  unfold mi_mchk at h1
  simp only [Bool.and_eq_true, Bool.or_eq_true, decide_eq_true_eq] at h1
  obtain ⟨⟨⟨⟨h1, h2⟩, h3⟩, h4⟩, h5⟩ := h1
  refine ⟨h1, h2, h3, by rcases h4 with (h4 | h4) | h4 <;> simp [h4], fun hne => ?_, fun hi => ?_⟩
  · split at h5
    next w hw =>
      simp only [Bool.and_eq_true, decide_eq_true_eq] at h5
      have h6 := mi_cw_mem hw
      rw [h5.1.1, h5.1.2, h5.2] at h6
      unfold mi_bt
      rw [hw]
      exact h6
    next => exact absurd (of_decide_eq_true h5) hne
  · have h6 := mi_ii_ok t (by simpa using hi)
    rw [h] at h6
    simpa using h6
theorem mi_dec_inv {t : Nat} {q : mi_Mt} {pc : Nat} {i : Instr} (h : mi_mt[t]? = some q) (hi : q.2.2.2.2.2.2.lookup pc = some i) : ∃ len, decode (mi_bt q) pc = .ok (i, len) ∧ (mi_len i = 0 ∨ mi_len i = len) := by
  have h1 := List.all_eq_true.mp mi_dm q (List.mem_of_getElem? h)
  have h2 := List.all_eq_true.mp h1 _ (mi_look hi)
  unfold mi_dec at h2
  split at h2
  next x hx =>
    simp only [Bool.and_eq_true, Bool.or_eq_true, decide_eq_true_eq] at h2
    obtain ⟨a, b⟩ := x
    obtain ⟨h3, h4⟩ := h2
    dsimp only at h3 h4
    subst h3
    exact ⟨b, hx, h4⟩
  next => cases h2
theorem mi_R_cl {ci : Nat} {w : vw_C} (h : mi_cl[ci]? = some w) : mi_R[ci]? = some w.1 := by
  have h13 : ci < 13 := (List.getElem?_eq_some_iff.mp h).1
  rcases (by omega : ci = 0 ∨ ci = 1 ∨ ci = 2 ∨ ci = 3 ∨ ci = 4 ∨ ci = 5 ∨ ci = 6 ∨ ci = 7 ∨ ci = 8 ∨ ci = 9 ∨ ci = 10 ∨ ci = 11 ∨ ci = 12) with rfl | rfl | rfl | rfl | rfl | rfl | rfl | rfl | rfl | rfl | rfl | rfl | rfl <;> (cases h; rfl)
theorem mi_fn_own : mi_fn.all (fun q => decide (q.1.1 ≠ q.2.1)) = true := by decide +kernel
theorem mi_gf_own {own k : Nat} {g : Nat × Nat} (h : mi_gf own k = some g) (ho : own = g.1) (hn : (mi_fl.lookup (own, k)).isNone = true) : False := by
  unfold mi_gf at h
  split at h
  next x hx => rw [hx] at hn; cases hn
  next =>
    obtain ⟨x, hx, rfl⟩ := Option.map_eq_some_iff.mp h
    exact absurd ho (of_decide_eq_true (List.all_eq_true.mp mi_fn_own _ (mi_look hx)))
theorem mi_df_plain : mi_df.all (fun fs => fs.all (fun v => decide (v = .int 0) || decide (v = .null))) = true := by decide +kernel
theorem mi_v_def {ad : Nat → Nat} {ci k : Nat} {fs : List Value} (h : mi_df[ci]? = some fs) (hk : k < fs.length) : mi_v ad fs[k] = fs[k] := by
  have h1 := List.all_eq_true.mp (List.all_eq_true.mp mi_df_plain fs (List.mem_of_getElem? h)) fs[k] (List.getElem_mem hk)
  simp only [Bool.or_eq_true, decide_eq_true_eq] at h1
  rcases h1 with h1 | h1 <;> (rw [h1]; rfl)
end
section
/-! MINI's memory instructions: what each needs and makes -/
theorem mi_getf_inv {own k : Nat} {st : List Value} {mem : mi_M} {q : List Value × mi_M} (h : mi_getf own k st mem = some q) : ∃ a r g fs v, st = .ref a :: r ∧ mi_gf own k = some g ∧ mem[a]? = some (g.1, fs) ∧ fs[g.2]? = some v ∧ q = (v :: r, mem) := by
  unfold mi_getf at h
  split at h
  · obtain ⟨g, hg, h2⟩ := Option.bind_eq_some_iff.mp h
    obtain ⟨fs, hfs, h3⟩ := Option.bind_eq_some_iff.mp h2
    obtain ⟨v, hv, h4⟩ := Option.map_eq_some_iff.mp h3
    exact ⟨_, _, g, fs, v, rfl, hg, mi_ld_inv hfs, hv, h4.symm⟩
  · cases h
theorem mi_putf_inv {own : Nat} {ini : Bool} {k : Nat} {st : List Value} {mem : mi_M} {q : List Value × mi_M} (h : mi_putf own ini k st mem = some q) : ∃ v a r g fs, st = v :: .ref a :: r ∧ mi_gf own k = some g ∧ mem[a]? = some (g.1, fs) ∧ g.2 < fs.length ∧ mi_fit (mi_ty g.1 g.2) v = true ∧ (mi_fin g.1 g.2 = false ∨ (ini = true ∧ own = g.1)) ∧ q = (r, mem.set a (g.1, fs.set g.2 v)) := by
  unfold mi_putf at h
  split at h
  · obtain ⟨g, hg, h2⟩ := Option.bind_eq_some_iff.mp h
    obtain ⟨fs, hfs, h3⟩ := Option.bind_eq_some_iff.mp h2
    split at h3
    next hc => cases h3; exact ⟨_, _, _, g, fs, rfl, hg, mi_ld_inv hfs, hc.1, hc.2.1, hc.2.2, rfl⟩
    next => cases h3
  · cases h
theorem mi_ial_inv {st : List Value} {mem : mi_M} {q : List Value × mi_M} (h : mi_ial st mem = some q) : ∃ i a r c v, st = .int i :: .ref a :: r ∧ mem[a]? = some c ∧ (c.1 = 20 ∨ c.1 = 30 ∨ c.1 = 32) ∧ mi_ix i c.2.length = true ∧ c.2[i.toNatClampNeg]? = some (.int v) ∧ q = (.int v :: r, mem) := by
  unfold mi_ial at h
  split at h
  · obtain ⟨c, hc, h2⟩ := Option.bind_eq_some_iff.mp h
    split at h2
    next hh =>
      split at h2
      next v hv => cases h2; exact ⟨_, _, _, c, v, rfl, hc, hh.1, hh.2, hv, rfl⟩
      next => cases h2
    next => cases h2
  · cases h
theorem mi_ias_inv {st : List Value} {mem : mi_M} {q : List Value × mi_M} (h : mi_ias st mem = some q) : ∃ x i a r cs, st = .int x :: .int i :: .ref a :: r ∧ mem[a]? = some (20, cs) ∧ mi_ix i cs.length = true ∧ q = (r, mem.set a (20, cs.set i.toNatClampNeg (.int x))) := by
  unfold mi_ias at h
  split at h
  · obtain ⟨c, hc, h2⟩ := Option.bind_eq_some_iff.mp h
    split at h2
    next hh => cases h2; exact ⟨_, _, _, _, c, rfl, mi_ld_inv hc, hh, rfl⟩
    next => cases h2
  · cases h
theorem mi_aal_inv {st : List Value} {mem : mi_M} {q : List Value × mi_M} (h : mi_aal st mem = some q) : ∃ i a r c b, st = .int i :: .ref a :: r ∧ mem[a]? = some c ∧ (20 < c.1 ∧ c.1 < 25) ∧ mi_ix i c.2.length = true ∧ c.2[i.toNatClampNeg]? = some (.ref b) ∧ q = (.ref b :: r, mem) := by
  unfold mi_aal at h
  split at h
  · obtain ⟨c, hc, h2⟩ := Option.bind_eq_some_iff.mp h
    split at h2
    next hh =>
      split at h2
      next v hv => cases h2; exact ⟨_, _, _, c, v, rfl, hc, hh.1, hh.2, hv, rfl⟩
      next => cases h2
    next => cases h2
  · cases h
theorem mi_aas_inv {st : List Value} {mem : mi_M} {q : List Value × mi_M} (h : mi_aas st mem = some q) : ∃ b i a r c d, st = .ref b :: .int i :: .ref a :: r ∧ mem[a]? = some c ∧ mem[b]? = some d ∧ mi_can c.1 d.1 = true ∧ mi_ix i c.2.length = true ∧ q = (r, mem.set a (c.1, c.2.set i.toNatClampNeg (.ref b))) := by
  unfold mi_aas at h
  split at h
  · obtain ⟨c, hc, h2⟩ := Option.bind_eq_some_iff.mp h
    obtain ⟨d, hd, h3⟩ := Option.bind_eq_some_iff.mp h2
    split at h3
    next hh => cases h3; exact ⟨_, _, _, _, c, d, rfl, hc, hd, hh.1, hh.2, rfl⟩
    next => cases h3
  · cases h
theorem mi_aln_inv {st : List Value} {mem : mi_M} {q : List Value × mi_M} (h : mi_aln st mem = some q) : ∃ a r c, st = .ref a :: r ∧ mem[a]? = some c ∧ ((20 ≤ c.1 ∧ c.1 < 25) ∨ c.1 = 30) ∧ q = (.int (Int32.ofNat c.2.length) :: r, mem) := by
  unfold mi_aln at h
  split at h
  · obtain ⟨c, hc, h2⟩ := Option.bind_eq_some_iff.mp h
    split at h2
    next hh => cases h2; exact ⟨_, _, c, rfl, hc, hh, rfl⟩
    next => cases h2
  · cases h
theorem mi_nwa_inv {st : List Value} {mem : mi_M} {q : List Value × mi_M} (h : mi_nwa st mem = some q) : ∃ n r, st = .int n :: r ∧ 0 ≤ n.toInt ∧ n.toInt ≤ 1000 ∧ q = (.ref mem.length :: r, mem ++ [(20, List.replicate n.toNatClampNeg (.int 0))]) := by
  unfold mi_nwa at h
  split at h
  · split at h
    next hh => cases h; exact ⟨_, _, rfl, hh.1, hh.2, rfl⟩
    next => cases h
  · cases h
theorem mi_nwq_inv {own k : Nat} {st : List Value} {mem : mi_M} {q : List Value × mi_M} (h : mi_nwq own k st mem = some q) : ∃ n r g, st = .int n :: r ∧ mi_al.lookup (own, k) = some g ∧ 0 ≤ n.toInt ∧ n.toInt ≤ 1000 ∧ q = (.ref mem.length :: r, mem ++ [(20 + g.1, List.replicate n.toNatClampNeg .null)]) := by
  unfold mi_nwq at h
  split at h
  · obtain ⟨g, hg, h2⟩ := Option.bind_eq_some_iff.mp h
    split at h2
    next hh => cases h2; exact ⟨_, _, g, rfl, hg, hh.1, hh.2, rfl⟩
    next => cases h2
  · cases h
theorem mi_nw_inv {own k : Nat} {st : List Value} {mem : mi_M} {q : List Value × mi_M} (h : mi_nw own k st mem = some q) : ∃ g fs, mi_nl.lookup (own, k) = some g ∧ mi_df[g.1]? = some fs ∧ q = (.ref mem.length :: st, mem ++ [(g.1, fs)]) := by
  unfold mi_nw at h
  obtain ⟨g, hg, h2⟩ := Option.bind_eq_some_iff.mp h
  obtain ⟨fs, hfs, h3⟩ := Option.map_eq_some_iff.mp h2
  exact ⟨g, fs, hg, hfs, h3.symm⟩
/-- cells never go, and never shrink; what lies outside stays -/
def mi_gr (sc : List Value) (mem mem' : mi_M) : Prop := mem.length ≤ mem'.length ∧ mi_sl mem ≤ mi_sl mem' ∧ mi_inv sc mem'
theorem mi_gr_rf {sc : List Value} {mem : mi_M} (h : mi_inv sc mem) : mi_gr sc mem mem := ⟨Nat.le_refl _, Nat.le_refl _, h⟩
theorem mi_gr_set {sc : List Value} {mem : mi_M} {a : Nat} {c d : Nat × List Value} (h : mi_inv sc mem) (hc : mem[a]? = some c) (hk : c.1 < 25) (hd : d.1 = c.1) (hl : d.2.length = c.2.length) : mi_gr sc mem (mem.set a d) :=
  ⟨by rw [List.length_set]; exact Nat.le_refl _, by rw [mi_sl_set hc hl]; exact Nat.le_refl _, mi_inv_set h hc hk hd⟩
theorem mi_gr_app {sc : List Value} {mem : mi_M} {c : Nat × List Value} (h : mi_inv sc mem) (hk : c.1 < 25) : mi_gr sc mem (mem ++ [c]) :=
  ⟨by rw [List.length_append]; exact Nat.le_add_right _ _, by rw [mi_sl_app]; exact Nat.le_add_right _ _, mi_inv_app h hk⟩
theorem mi_gr_tr {sc : List Value} {m1 m2 m3 : mi_M} (h : mi_gr sc m1 m2) (h2 : mi_gr sc m2 m3) : mi_gr sc m1 m3 := ⟨Nat.le_trans h.1 h2.1, Nat.le_trans h.2.1 h2.2.1, h2.2.2⟩
theorem mi_can_lt {h ci : Nat} (hc : mi_can h ci = true) : (h = 21 ∧ ci = 4) ∨ (h = 22 ∧ ci = 8) ∨ (h = 23 ∧ ci = 6) ∨ (h = 24 ∧ (ci = 9 ∨ ci = 0 ∨ ci = 2 ∨ ci = 3 ∨ ci = 5 ∨ ci = 7 ∨ ci = 10)) := by
  simpa [mi_can, or_assoc] using hc
theorem mi_Y_gr {sc : List Value} {own : Nat} {ini : Bool} {i : Instr} {st : List Value} {mem : mi_M} {q : List Value × mi_M} (hm : mi_inv sc mem) (h : mi_Y own ini i st mem = some q) : mi_gr sc mem q.2 := by
  unfold mi_Y at h
  split at h
  · obtain ⟨a, r, g, fs, v, -, -, -, -, rfl⟩ := mi_getf_inv h; exact mi_gr_rf hm
  · obtain ⟨v, a, r, g, fs, -, hg, hfs, -, -, -, rfl⟩ := mi_putf_inv h
    have hci : g.1 < 25 := by
      unfold mi_gf at hg
      split at hg
      next x hx => cases hg; exact Nat.lt_of_lt_of_le (show x.1 < 13 from of_decide_eq_true (List.all_eq_true.mp (show mi_fl.all (fun q => decide (q.2.1 < 13)) = true by decide +kernel) _ (mi_look hx))) (by decide)
      next =>
        obtain ⟨x, hx, rfl⟩ := Option.map_eq_some_iff.mp hg
        exact Nat.lt_of_lt_of_le (show x.1 < 13 from of_decide_eq_true (List.all_eq_true.mp (show mi_fn.all (fun q => decide (q.2.1 < 13)) = true by decide +kernel) _ (mi_look hx))) (by decide)
    exact mi_gr_set hm hfs hci rfl (by simp)
  · unfold mi_gets at h
    obtain ⟨x, -, rfl⟩ := Option.map_eq_some_iff.mp h; exact mi_gr_rf hm
  · obtain ⟨i, a, r, c, v, -, -, -, -, -, rfl⟩ := mi_ial_inv h; exact mi_gr_rf hm
  · obtain ⟨x, i, a, r, cs, -, hc, -, rfl⟩ := mi_ias_inv h; exact mi_gr_set hm hc (by show 20 < 25; decide) rfl (by simp)
  · obtain ⟨i, a, r, c, v, -, -, -, -, -, rfl⟩ := mi_aal_inv h; exact mi_gr_rf hm
  · obtain ⟨b, i, a, r, c, d, -, hc, -, hcan, -, rfl⟩ := mi_aas_inv h; exact mi_gr_set hm hc (by rcases mi_can_lt hcan with h | h | h | h <;> omega) rfl (by simp)
  · obtain ⟨a, r, c, -, -, -, rfl⟩ := mi_aln_inv h; exact mi_gr_rf hm
  · obtain ⟨n, r, -, -, -, rfl⟩ := mi_nwa_inv h; exact mi_gr_app hm (by show 20 < 25; decide)
  · obtain ⟨n, r, g, -, hg, -, -, rfl⟩ := mi_nwq_inv h; exact mi_gr_app hm (of_decide_eq_true (List.all_eq_true.mp (show mi_al.all (fun q => decide (20 + q.2.1 < 25)) = true by decide +kernel) _ (mi_look hg)))
  · obtain ⟨g, fs, hg, -, rfl⟩ := mi_nw_inv h; exact mi_gr_app hm (of_decide_eq_true (List.all_eq_true.mp (show mi_nl.all (fun q => decide (q.2.1 < 25)) = true by decide +kernel) _ (mi_look hg)))
  · unfold mi_ldk at h
    split at h
    · cases h; exact mi_gr_rf hm
    · obtain ⟨x, -, rfl⟩ := Option.map_eq_some_iff.mp h; exact mi_gr_rf hm
  · unfold mi_ldk2 at h
    obtain ⟨x, -, rfl⟩ := Option.map_eq_some_iff.mp h; exact mi_gr_rf hm
  · cases h
theorem mi_arrV {cA : ClassId} {n : Nat} {f g : Nat → Value} (h : ∀ j, j < n → f j = g j) : arrV cA n f = arrV cA n g := by
  unfold arrV
  congr 1
  congr 1
  funext j
  exact h j.1 j.2
section MIY
variable {p : Program} {l : Launch} {e : Env} {R : Room} {s : State} {m : MethodId} {args : Array Value} {below : List Frame} {meth : Method} {c : Code} {H : Heap} {locs : List Loc} {Q : State → Prop}
variable {pc t n0 m0 s0 : Nat} {mem : mi_M} {la : Array Slot} {mq : mi_Mt} {sA : Nat → Nat} {sc : List Value} {D : va_G} {aT : Nat → ClassId}
theorem mi_size {cells slots n : Nat} {g : JFrame} (hlo : n ≤ H.size) (hup : s.heap.size + cells = n) (k : H.size = n → W p l e R s m args below meth c H locs cells slots Q g) : W p l e R s m args below meth c H locs cells slots Q g := by
  intro T hT X
  have h := X.heapSize
  rw [hT] at h
  exact k (by omega) T hT X
theorem mi_hd_size (hh : mi_hd sA n0 sc D aT s mem H locs) (h0 : n0 ≤ s.heap.size) : n0 + (mem.length - 5) ≤ H.size := by
  obtain ⟨hP, hS, hm⟩ := hh
  have h5 := mi_len5 hm.1
  by_cases hl : mem.length = 5
  · have := hS.1
    omega
  · obtain ⟨cc, hc⟩ : ∃ cc, mem[mem.length - 1]? = some cc := ⟨_, List.getElem?_eq_getElem (by omega)⟩
    have h1 := (hP _ _ (mi_w_get (by omega) hc)).lt
    have h2 : mi_ad sA n0 (mem.length - 1) < H.size := h1
    rw [mi_ad_hi (by omega)] at h2
    omega
set_option maxHeartbeats 8000000 in
theorem mi_sY (C : mi_cx p s m args meth c t mq sA n0 sc D aT) (hh : mi_hd sA n0 sc D aT s mem H locs) (hm0 : 5 ≤ m0 ∧ s.heap.size = n0 + (m0 - 5)) (hb : m0 ≤ mem.length ∧ s0 ≤ mi_sl mem) {i : Instr} {st : List Value} {q : List Value × mi_M} (h : mi_Y mq.2.2.2.2.1 (mi_ii.contains t) i st mem = some q) (hd : decode (mi_bt mq) pc = .ok (i, mi_len i))
    (hR : q.2.length - m0 ≤ R.cells ∧ mi_sl q.2 - s0 ≤ R.slots)
    (kk : ∀ (H' : Heap) (locs' : List Loc), mi_hd sA n0 sc D aT s q.2 H' locs' → W p l e R s m args below meth c H' locs' (q.2.length - m0) (mi_sl q.2 - s0) Q (F0 m (pc + mi_len i) la (q.1.map (mi_v (mi_ad sA n0))))) :
    W p l e R s m args below meth c H locs (mem.length - m0) (mi_sl mem - s0) Q (F0 m pc la (st.map (mi_v (mi_ad sA n0)))) := by
  obtain ⟨hmt, hx, hbc, hml, hown, hts, hbad, hK, hn0, hlocks, hini, hret, hout⟩ := C
  obtain ⟨hP, hS, hmi⟩ := id hh
  have hmm := hmi.1
  obtain ⟨-, -, hO, -, -, hnm⟩ := mi_mt_inv hmt
  have hD : va_D (fun q : Nat => n0 ≤ q) (mi_w (mi_ad sA n0) aT mem) := mi_w_D
  have hA : ∀ q : Nat, s.heap.size ≤ q → n0 ≤ q := fun q hq => Nat.le_trans hn0 hq
  unfold mi_Y at h
  split at h
  · -- getfield
    obtain ⟨a, r, g, fs, v, rfl, hg, hfs, hv, rfl⟩ := mi_getf_inv h
    obtain ⟨w, hcl, hk, hl⟩ := mi_gf_inv hO hg
    obtain ⟨h13, hin, hdc, hty, hnn, -⟩ := mi_cl_inv hcl
    have h5 := mi_hi hmm hfs (Nat.lt_trans h13 (by decide))
    have he := mi_w_get (ad := mi_ad sA n0) (aT := aT) h5 hfs
    rw [mi_e_obj h13] at he
    have hv' : (fs.map (mi_v (mi_ad sA n0)))[g.2]? = some (mi_v (mi_ad sA n0) v) := by rw [List.getElem?_map, hv]; rfl
    rcases hl with hl | ⟨-, hl⟩
    · exact va_get (C := w.1) (T := w.2.1) (N := w.2.2) hx hbc hts hin hown hK hP (a - 5) he hcl g.2 hk (hts _ (mi_all_of hl rfl)) (fun _ h9 => h9) hv' hd (kk H locs hh)
    · exact va_getN (C := w.1) (T := w.2.1) (N := w.2.2) hx hbc hts hin hown hK hP (a - 5) he hcl g.2 hk (va_Nw.use rfl (hbad _ (mi_bad_of hl rfl))) (fun _ h9 => h9) hv' hd (kk H locs hh)
  · -- putfield
    obtain ⟨v, a, r, g, fs, rfl, hg, hfs, hlt, hfit, hfin, rfl⟩ := mi_putf_inv h
    obtain ⟨w, hcl, hk, hl⟩ := mi_gf_inv hO hg
    obtain ⟨h13, hin, hdc, hty, hnn, -⟩ := mi_cl_inv hcl
    have h5 := mi_hi hmm hfs (Nat.lt_trans h13 (by decide))
    have he := mi_w_get (ad := mi_ad sA n0) (aT := aT) h5 hfs
    rw [mi_e_obj h13] at he
    obtain ⟨hn, hft⟩ := mi_fit_ok (mi_ad sA n0) hfit
    have hal : a < mem.length := (List.getElem?_eq_some_iff.mp hfs).1
    have ew : (mi_w (mi_ad sA n0) aT mem).set (a - 5) (mi_ad sA n0 a, .inr (g.1, (fs.map (mi_v (mi_ad sA n0))).set g.2 (mi_v (mi_ad sA n0) v))) = mi_w (mi_ad sA n0) aT (mem.set a (g.1, fs.set g.2 v)) := by
      rw [mi_w_set h5 hal, mi_e_obj h13, List.map_set]
    have e1 : (mem.set a (g.1, fs.set g.2 v)).length = mem.length := List.length_set
    have e2 : mi_sl (mem.set a (g.1, fs.set g.2 v)) = mi_sl mem := mi_sl_set hfs (by simp)
    rw [e1, e2] at kk
    have kk' : ∀ (H1 : Heap) (locs1 : List Loc), va_P D mi_cl ((mi_w (mi_ad sA n0) aT mem).set (a - 5) (mi_ad sA n0 a, .inr (g.1, (fs.map (mi_v (mi_ad sA n0))).set g.2 (mi_v (mi_ad sA n0) v)))) H1 → va_D (fun q : Nat => n0 ≤ q) ((mi_w (mi_ad sA n0) aT mem).set (a - 5) (mi_ad sA n0 a, .inr (g.1, (fs.map (mi_v (mi_ad sA n0))).set g.2 (mi_v (mi_ad sA n0) v)))) → va_S (fun q : Nat => n0 ≤ q) s.heap H1 locs1 → W p l e R s m args below meth c H1 locs1 (mem.length - m0) (mi_sl mem - s0) Q (F0 m (pc + 3) la (r.map (mi_v (mi_ad sA n0)))) := by
      intro H1 locs1 p1 _ p3
      rw [ew] at p1
      exact kk H1 locs1 ⟨p1, p3, mi_inv_set hmi hfs (Nat.lt_trans h13 (by decide)) rfl⟩
    have hfe : mi_fin g.1 g.2 = (w.2.1 g.2).2.2.2 := by unfold mi_fin; rw [hcl]
    have hlen : g.2 < (fs.map (mi_v (mi_ad sA n0))).length := by simpa using hlt
    cases hf : (w.2.1 g.2).2.2.2
    · rcases hl with hl | ⟨-, hl⟩
      · exact va_put (C := w.1) (T := w.2.1) (N := w.2.2) hx hbc hts hin (mi_ty g.1) hty hnn hown hK hP hD hS (a - 5) he hcl g.2 hk (hts _ (mi_all_of hl rfl)) (fun _ h9 => h9) hf (hty _ hk) hn hft hlen hd kk'
      · exact va_putN (C := w.1) (T := w.2.1) (N := w.2.2) hx hbc hts hin (mi_ty g.1) hty hnn hown hK hP hD hS (a - 5) he hcl g.2 hk (va_Nw.use rfl (hbad _ (mi_bad_of hl rfl))) (fun _ h9 => h9) hf (hty _ hk) hn hft hlen hd kk'
    · rw [hfe, hf] at hfin
      obtain ⟨hi1, hi2⟩ := hfin.resolve_left (by decide)
      have hcls : w.1 = mq.1.cls := by
        have h1 := hO
        rw [hi2] at h1
        have h2 : mi_R[g.1]? = some w.1 := mi_R_cl hcl
        exact Option.some.inj (h2.symm.trans h1)
      rcases hl with hl | ⟨hno, hl⟩
      · exact va_putF (C := w.1) (T := w.2.1) (N := w.2.2) hx hbc hts hin (mi_ty g.1) hty hnn hown hK hP hD hS (a - 5) he hcl g.2 hk (hts _ (mi_all_of hl rfl)) (fun _ h9 => h9) hf (hini hi1) ((hdc _ hk).trans hcls) (hty _ hk) hn hft hlen hd kk'
      · exact (mi_gf_own hg hi2 hno).elim
  · -- getstatic
    unfold mi_gets at h
    obtain ⟨x, hx2, rfl⟩ := Option.map_eq_some_iff.mp h
    have h1 := List.all_eq_true.mp mi_gs_ok _ (mi_look hx2)
    try dsimp only at h1
    rw [hO] at h1
    exact va_gets (ref := "NineLedges") hx hbc hout.2.1 hS hown (hts _ (mi_all_of (mi_at_mem h1) rfl)) (fun _ h9 => h9) hd (kk H locs hh)
  · -- iaload
    obtain ⟨i, a, r, cc, v, rfl, hc, hk, hix, hv, rfl⟩ := mi_ial_inv h
    obtain ⟨k0, cs⟩ := cc
    have hval : cs.getD i.toNatClampNeg .null = .int v := by rw [List.getD_eq_getElem?_getD, hv]; rfl
    have kk2 := kk H locs hh
    rcases hk with hk | hk | hk
    · obtain rfl : k0 = 20 := hk
      have h5 := mi_hi hmm hc (by show 20 < 25; decide)
      have he := mi_w_get (ad := mi_ad sA n0) (aT := aT) h5 hc
      rw [mi_e_int] at he
      refine va_iald hx hbc hK hP (a - 5) 0 he rfl (mi_ix_in hix) hd ?_
      rw [hval]
      exact kk2
    · obtain rfl : k0 = 30 := hk
      obtain ⟨-, rfl, hsc⟩ := (mi_low_kind hmi hc (Or.inl rfl)).resolve_right (fun z => by cases z.1)
      try dsimp only at hsc
      subst hsc
      refine va_sld hx hbc hout.1.1 (Nat.lt_of_lt_of_le hout.1.2 hn0) (by show ¬ n0 ≤ _; exact Nat.not_le.mpr hout.1.2) hS (mi_ix_in hix) hd ?_
      rw [hval]
      exact kk2
    · obtain rfl : k0 = 32 := hk
      obtain ⟨-, rfl, hsc⟩ := (mi_low_kind hmi hc (Or.inr rfl)).resolve_left (fun z => by cases z.1)
      try dsimp only at hsc
      subst hsc
      exact va_ti hx hbc hout.2.2.1 hS (mi_ix_in hix) hval hd kk2
  · -- iastore
    obtain ⟨x, i, a, r, cs, rfl, hc, hix, rfl⟩ := mi_ias_inv h
    have h5 := mi_hi hmm hc (by show 20 < 25; decide)
    have he := mi_w_get (ad := mi_ad sA n0) (aT := aT) h5 hc
    rw [mi_e_int] at he
    have hal : a < mem.length := (List.getElem?_eq_some_iff.mp hc).1
    have e1 : (mem.set a (20, cs.set i.toNatClampNeg (.int x))).length = mem.length := List.length_set
    have e2 : mi_sl (mem.set a (20, cs.set i.toNatClampNeg (.int x))) = mi_sl mem := mi_sl_set hc (by simp)
    rw [e1, e2] at kk
    refine va_iast hx hbc hK hP hD hS (a - 5) 0 he rfl (mi_ix_in hix) hd (fun H1 locs1 p1 _ p3 => kk H1 locs1 ⟨?_, p3, mi_inv_set hmi hc (by show 20 < 25; decide) rfl⟩)
    rw [mi_w_set h5 hal, mi_e_int, mi_I_set (mi_ix_lt hix), List.length_set]
    exact p1
  · -- aaload
    obtain ⟨i, a, r, cc, b, rfl, hc, hk, hix, hv, rfl⟩ := mi_aal_inv h
    obtain ⟨k0, cs⟩ := cc
    have hval : mi_Q (mi_ad sA n0) (cs.getD i.toNatClampNeg .null) = some (mi_ad sA n0 b) := by rw [List.getD_eq_getElem?_getD, hv]; rfl
    have h5 := mi_hi hmm hc hk.2
    have he := mi_w_get (ad := mi_ad sA n0) (aT := aT) h5 hc
    rw [mi_e_ref hk.1] at he
    have kk2 := kk H locs hh
    obtain ⟨E, hE⟩ : ∃ E : String, (mi_tys aT)[k0 - 20]? = some (aT (k0 - 20), .object E) := by
      rcases (by have := hk; simp only at this; omega : k0 = 21 ∨ k0 = 22 ∨ k0 = 23 ∨ k0 = 24) with rfl | rfl | rfl | rfl <;> exact ⟨_, rfl⟩
    refine va_aldq hx hbc hK hP (a - 5) (k0 - 20) he hE (mi_ix_in hix) hd ?_
    rw [hval]
    exact kk2
  · -- aastore
    obtain ⟨b, i, a, r, cc, dd, rfl, hc, hdd, hcan, hix, rfl⟩ := mi_aas_inv h
    obtain ⟨k0, cs⟩ := cc
    obtain ⟨ci, vs⟩ := dd
    have hcan' := mi_can_lt hcan
    have hk : 20 < k0 ∧ k0 < 25 := by rcases hcan' with h | h | h | h <;> (have := h.1; simp only at this; omega)
    have hci : ci < 13 := by
      rcases hcan' with h | h | h | h <;> (have := h.2; simp only at this; omega)
    have h5 := mi_hi hmm hc hk.2
    have h5b := mi_hi hmm hdd (Nat.lt_trans hci (by decide))
    have he := mi_w_get (ad := mi_ad sA n0) (aT := aT) h5 hc
    have heb := mi_w_get (ad := mi_ad sA n0) (aT := aT) h5b hdd
    rw [mi_e_ref hk.1] at he
    rw [mi_e_obj hci] at heb
    have hal : a < mem.length := (List.getElem?_eq_some_iff.mp hc).1
    have e1 : (mem.set a (k0, cs.set i.toNatClampNeg (.ref b))).length = mem.length := List.length_set
    have e2 : mi_sl (mem.set a (k0, cs.set i.toNatClampNeg (.ref b))) = mi_sl mem := mi_sl_set hc (by simp)
    try dsimp only at kk
    rw [e1, e2] at kk
    have kk' : ∀ (H1 : Heap) (locs1 : List Loc), va_P D mi_cl ((mi_w (mi_ad sA n0) aT mem).set (a - 5) (mi_ad sA n0 a, .inl (aT (k0 - 20), cs.length, .inr (.inr (.inr (.inr (va_up (fun j => mi_Q (mi_ad sA n0) (cs.getD j .null)) i.toNatClampNeg (some (mi_ad sA n0 b))))))))) H1 → va_D (fun q : Nat => n0 ≤ q) ((mi_w (mi_ad sA n0) aT mem).set (a - 5) (mi_ad sA n0 a, .inl (aT (k0 - 20), cs.length, .inr (.inr (.inr (.inr (va_up (fun j => mi_Q (mi_ad sA n0) (cs.getD j .null)) i.toNatClampNeg (some (mi_ad sA n0 b))))))))) → va_S (fun q : Nat => n0 ≤ q) s.heap H1 locs1 → W p l e R s m args below meth c H1 locs1 (mem.length - m0) (mi_sl mem - s0) Q (F0 m (pc + 1) la (r.map (mi_v (mi_ad sA n0)))) := by
      intro H1 locs1 p1 _ p3
      refine kk H1 locs1 ⟨?_, p3, mi_inv_set hmi hc hk.2 rfl⟩
      rw [mi_w_set h5 hal, mi_e_ref hk.1, mi_Q_set (mi_ix_lt hix), List.length_set]
      exact p1
    have hcast : ∀ (C E : String) (pl : Nat), (mi_at pl (.castable C E) = true) → va_Nw (.castable C E) s := fun C E pl hz => hbad _ (mi_bad_of (mi_at_mem hz) rfl)
    rcases hcan' with ⟨h1, h2⟩ | ⟨h1, h2⟩ | ⟨h1, h2⟩ | ⟨h1, h2 | h2 | h2 | h2 | h2 | h2 | h2⟩ <;> (simp only at h1 h2; subst h1; subst h2)
    · exact va_astq hx hbc hK hP hD hS (a - 5) 1 (b - 5) 4 he rfl heb rfl (mi_ix_in hix) hd kk'
    · exact va_astq hx hbc hK hP hD hS (a - 5) 2 (b - 5) 8 he rfl heb rfl (mi_ix_in hix) hd kk'
    · exact va_astq hx hbc hK hP hD hS (a - 5) 3 (b - 5) 6 he rfl heb rfl (mi_ix_in hix) hd kk'
    · exact va_astq hx hbc hK hP hD hS (a - 5) 4 (b - 5) 9 he rfl heb rfl (mi_ix_in hix) hd kk'
    · exact va_astqO (E := RX9) hx hbc hK hP hD hS (a - 5) 4 (b - 5) 0 he rfl (hcast RX0 RX9 1532 (by decide +kernel)) heb rfl (mi_ix_in hix) hd kk'
    · exact va_astqO (E := RX9) hx hbc hK hP hD hS (a - 5) 4 (b - 5) 2 he rfl (hcast RX2 RX9 1527 (by decide +kernel)) heb rfl (mi_ix_in hix) hd kk'
    · exact va_astqO (E := RX9) hx hbc hK hP hD hS (a - 5) 4 (b - 5) 3 he rfl (hcast RX3 RX9 1528 (by decide +kernel)) heb rfl (mi_ix_in hix) hd kk'
    · exact va_astqO (E := RX9) hx hbc hK hP hD hS (a - 5) 4 (b - 5) 5 he rfl (hcast RX5 RX9 1531 (by decide +kernel)) heb rfl (mi_ix_in hix) hd kk'
    · exact va_astqO (E := RX9) hx hbc hK hP hD hS (a - 5) 4 (b - 5) 7 he rfl (hcast RX7 RX9 1530 (by decide +kernel)) heb rfl (mi_ix_in hix) hd kk'
    · exact va_astqO (E := RX9) hx hbc hK hP hD hS (a - 5) 4 (b - 5) 10 he rfl (hcast RX10 RX9 1529 (by decide +kernel)) heb rfl (mi_ix_in hix) hd kk'
  · -- arraylength
    obtain ⟨a, r, cc, rfl, hc, hk, rfl⟩ := mi_aln_inv h
    obtain ⟨k0, cs⟩ := cc
    have kk2 := kk H locs hh
    rcases hk with hk | hk
    · have h5 := mi_hi hmm hc hk.2
      have he := mi_w_get (ad := mi_ad sA n0) (aT := aT) h5 hc
      by_cases h20 : k0 = 20
      · subst h20
        rw [mi_e_int] at he
        exact va_alen hx hbc hK hP (a - 5) 0 he rfl rfl hd kk2
      · have h21 : 20 < k0 := by have := hk.1; simp only at this; omega
        rw [mi_e_ref h21] at he
        obtain ⟨E, hE⟩ : ∃ E : String, (mi_tys aT)[k0 - 20]? = some (aT (k0 - 20), .object E) := by
          rcases (by have := hk; simp only at this; omega : k0 = 21 ∨ k0 = 22 ∨ k0 = 23 ∨ k0 = 24) with rfl | rfl | rfl | rfl <;> exact ⟨_, rfl⟩
        exact va_alen hx hbc hK hP (a - 5) (k0 - 20) he hE rfl hd kk2
    · obtain rfl : k0 = 30 := hk
      obtain ⟨-, rfl, hsc⟩ := (mi_low_kind hmi hc (Or.inl rfl)).resolve_right (fun z => by cases z.1)
      try dsimp only at hsc
      subst hsc
      exact va_slen hx hbc hout.1.1 (Nat.lt_of_lt_of_le hout.1.2 hn0) (by show ¬ n0 ≤ _; exact Nat.not_le.mpr hout.1.2) hS hd kk2
  · -- newarray
    obtain ⟨n, r, rfl, hn1, hn2, rfl⟩ := mi_nwa_inv h
    have hlen5 := mi_len5 hmm
    have hnn : ¬ n < 0 := fun z => by
      have := Int32.lt_iff_toInt_lt.mp z
      simp at this
      omega
    have hcl : (n.toNatClampNeg : Int) = n.toInt := by
      show ((n.toInt.toNat : Nat) : Int) = _
      omega
    have e1 : (mem ++ [((20 : Nat), List.replicate n.toNatClampNeg (Value.int 0))]).length - m0 = mem.length - m0 + 1 := by simp; omega
    have e2 : mi_sl (mem ++ [((20 : Nat), List.replicate n.toNatClampNeg (Value.int 0))]) - s0 = mi_sl mem - s0 + n.toNatClampNeg := by rw [mi_sl_app]; simp; omega
    rw [e1, e2] at kk hR
    refine mi_size (n := n0 + (mem.length - 5)) (mi_hd_size hh hn0) (by omega) fun hsz => ?_
    refine va_newaK (atype := .int) hx hbc (hts (.arrayClass .int) (mi_all_of (mi_at_mem (pl := 236) (by decide +kernel)) rfl)) rfl hd rfl hnn rfl (by show _ * 4 ≤ _; omega) hR.1 hR.2 hsz fun H1 cA g1 g2 g3 g4 g5 => ?_
    have hcA : cA = aT 0 := by
      have h1 := (hK.2 0 _ rfl).2
      exact Option.some.inj (g5.symm.trans h1)
    subst hcA
    have kk2 := kk H1 locs ⟨?_, ⟨by rw [g2]; have := hS.1; omega, fun x h1 h2 => (g3 x (by have := hS.1; omega)).trans (hS.2.1 x h1 h2), hS.2.2⟩, mi_inv_app hmi (by show 20 < 25; decide)⟩
    · have e3 : mi_ad sA n0 mem.length = n0 + (mem.length - 5) := mi_ad_hi hlen5
      have e4 : mi_v (mi_ad sA n0) (.ref mem.length) = .ref (n0 + (mem.length - 5)) := by rw [← e3]; rfl
      rw [List.map_cons, e4] at kk2
      exact kk2
    · rw [mi_w_app hlen5]
      refine (hP.kept (fun k x hx => g3 x.1 (by rw [← hsz]; exact (hP k x hx).lt))).app (fun k x hx => ?_)
      have hz : k < 1 := (List.getElem?_eq_some_iff.mp hx).1
      rw [show k = 0 by omega] at hx
      cases hx
      rw [mi_e_int, mi_ad_hi hlen5]
      show H1[n0 + (mem.length - 5)]? = some (vp_cell _ _)
      rw [vp_cell_i, g1, List.length_replicate]
      refine congrArg some (mi_arrV fun j hj => ?_)
      rw [List.getD_eq_getElem?_getD, List.getElem?_replicate, if_pos hj]
      rfl
  · -- anewarray
    obtain ⟨n, r, g, rfl, hg, hn1, hn2, rfl⟩ := mi_nwq_inv h
    have hlen5 := mi_len5 hmm
    have h1 := List.all_eq_true.mp mi_al_ok _ (mi_look hg)
    try dsimp only at h1
    rw [hO] at h1
    simp only [Bool.and_eq_true, decide_eq_true_eq] at h1
    obtain ⟨⟨⟨hg0, hg5⟩, hl1⟩, hl2⟩ := h1
    have hnn : ¬ n < 0 := fun z => by
      have := Int32.lt_iff_toInt_lt.mp z
      simp at this
      omega
    have hcl : (n.toNatClampNeg : Int) = n.toInt := by
      show ((n.toInt.toNat : Nat) : Int) = _
      omega
    have e1 : (mem ++ [((20 + g.1 : Nat), List.replicate n.toNatClampNeg Value.null)]).length - m0 = mem.length - m0 + 1 := by simp; omega
    have e2 : mi_sl (mem ++ [((20 + g.1 : Nat), List.replicate n.toNatClampNeg Value.null)]) - s0 = mi_sl mem - s0 + n.toNatClampNeg := by rw [mi_sl_app]; simp; omega
    rw [e1, e2] at kk hR
    refine mi_size (n := n0 + (mem.length - 5)) (mi_hd_size hh hn0) (by omega) fun hsz => ?_
    refine W.anew hx hbc hown (hts _ (mi_all_of (mi_at_mem hl1) rfl)) (va_AO.use (hbad _ (mi_bad_of (mi_at_mem hl2) rfl))) rfl hd rfl hnn (by omega) hR.1 hR.2 fun cA kA comp f1 f2 f3 f4 => ?_
    have hE : (mi_tys aT)[g.1]? = some (aT g.1, .object (mi_an g.1)) := by
      rcases (by omega : g.1 = 1 ∨ g.1 = 2 ∨ g.1 = 3 ∨ g.1 = 4) with h | h | h | h <;> (rw [h]; rfl)
    have hcA : cA = aT g.1 := by
      obtain ⟨k1, c1, -, -, -, h4⟩ := (hK.2 g.1 _ hE).2
      exact Option.some.inj (f1.symm.trans h4)
    subst hcA
    generalize hH1 : H.push ({ cls := aT g.1, slots := Array.replicate n.toNatClampNeg .null, vm := .none } : Cell) = H1
    have z1 : H1.size = H.size + 1 := by rw [← hH1, Array.size_push]
    have z2 : H1[H.size]? = some (arrV (aT g.1) n.toNatClampNeg (fun _ => .null)) := by rw [← hH1, Array.getElem?_push_size, ← arrV_new]
    have z3 : ∀ q : Nat, q < H.size → H1[q]? = H[q]? := fun q hq => by rw [← hH1, Array.getElem?_push, if_neg (Nat.ne_of_lt hq)]
    have kk2 := kk H1 locs ⟨?_, ⟨by rw [z1]; have := hS.1; omega, fun x h1 h2 => (z3 x (by have := hS.1; omega)).trans (hS.2.1 x h1 h2), hS.2.2⟩, mi_inv_app hmi (by show 20 + g.1 < 25; omega)⟩
    · have e3 : mi_ad sA n0 mem.length = n0 + (mem.length - 5) := mi_ad_hi hlen5
      have e4 : mi_v (mi_ad sA n0) (.ref mem.length) = .ref H.size := by rw [hsz, ← e3]; rfl
      rw [List.map_cons, e4] at kk2
      exact kk2
    · rw [mi_w_app hlen5]
      refine (hP.kept (fun k x hx => z3 x.1 (hP k x hx).lt)).app (fun k x hx => ?_)
      have hz : k < 1 := (List.getElem?_eq_some_iff.mp hx).1
      rw [show k = 0 by omega] at hx
      cases hx
      rw [mi_e_ref (by omega), mi_ad_hi hlen5, Nat.add_sub_cancel_left]
      show H1[n0 + (mem.length - 5)]? = some (vp_cell _ _)
      rw [vp_cell_q, ← hsz, z2, List.length_replicate]
      refine congrArg some (mi_arrV fun j hj => ?_)
      rw [List.getD_eq_getElem?_getD, List.getElem?_replicate, if_pos hj]
      rfl
  · -- new
    obtain ⟨g, fs, hg, hfs, rfl⟩ := mi_nw_inv h
    have hlen5 := mi_len5 hmm
    have h1 := List.all_eq_true.mp mi_nl_ok _ (mi_look hg)
    try dsimp only at h1
    rw [hO] at h1
    split at h1
    next O' w hO' hcl =>
      cases hO'
      simp only [Bool.and_eq_true, decide_eq_true_eq] at h1
      obtain ⟨h13, hin, hdc, hty, hnn, ⟨fs', hfs', hfl, hdef⟩, hinst, hinit⟩ := mi_cl_inv hcl
      obtain rfl : fs' = fs := Option.some.inj (hfs'.symm.trans hfs)
      have e1 : (mem ++ [(g.1, fs')]).length - m0 = mem.length - m0 + 1 := by simp; omega
      have e2 : mi_sl (mem ++ [(g.1, fs')]) - s0 = mi_sl mem - s0 + w.2.2 := by rw [mi_sl_app, ← hfl]; dsimp only; omega
      rw [e1, e2] at kk hR
      refine mi_size (n := n0 + (mem.length - 5)) (mi_hd_size hh hn0) (by omega) fun hsz => ?_
      have hKn := hK.1 g.1 _ hcl
      refine W.newcK hx hbc hown (hts _ (mi_all_of (mi_at_mem h1.2) rfl)) (hts _ (mi_all_of hinst rfl)) (hts _ (mi_all_of hinit rfl)) rfl hd hR.1 hR.2 hKn.2.1 hsz fun H1 kC hkC g1 g2 g3 => ?_
      have kk2 := kk H1 locs ⟨?_, ⟨by rw [g2]; have := hS.1; omega, fun x h1 h2 => (g3 x (by have := hS.1; omega)).trans (hS.2.1 x h1 h2), hS.2.2⟩, mi_inv_app hmi (by show g.1 < 25; omega)⟩
      · have e3 : mi_ad sA n0 mem.length = n0 + (mem.length - 5) := mi_ad_hi hlen5
        have e4 : mi_v (mi_ad sA n0) (.ref mem.length) = .ref (n0 + (mem.length - 5)) := by rw [← e3]; rfl
        rw [List.map_cons, e4] at kk2
        exact kk2
      · rw [mi_w_app hlen5]
        refine (hP.kept (fun k x hx => g3 x.1 (by rw [← hsz]; exact (hP k x hx).lt))).app (fun k x hx => ?_)
        have hz : k < 1 := (List.getElem?_eq_some_iff.mp hx).1
        rw [show k = 0 by omega] at hx
        cases hx
        rw [mi_e_obj h13, mi_ad_hi hlen5]
        refine ⟨_, hcl, (u_born (mi_ty g.1) hts hin hKn hkC g1 hty).to fun k hk => ?_⟩
        rw [hdef k hk]
        have hl2 : k < fs'.length := by omega
        unfold vp_V
        rw [List.getD_eq_getElem?_getD, List.getD_eq_getElem?_getD, List.getElem?_map, List.getElem?_eq_getElem hl2]
        exact (mi_v_def hfs hl2).symm
    next => cases h1
  · -- ldc
    unfold mi_ldk at h
    split at h
    next x hx2 =>
      cases h
      have h1 := List.all_eq_true.mp mi_kc_ok _ (mi_look hx2)
      try dsimp only at h1
      rw [hO] at h1
      exact lv_ldc hx hbc hown (hts _ (mi_all_of (mi_at_mem h1) rfl)) hd (kk H locs hh)
    next =>
      obtain ⟨x, hx2, rfl⟩ := Option.map_eq_some_iff.mp h
      have h1 := mi_look hx2
      have kk2 := kk H locs hh
      simp only [mi_ks, List.mem_cons, Prod.mk.injEq, List.not_mem_nil, or_false] at h1
      rcases h1 with ⟨⟨h1, rfl⟩, rfl⟩ | ⟨⟨h1, rfl⟩, rfl⟩ | ⟨⟨h1, rfl⟩, rfl⟩
      all_goals (rw [h1] at hO; have hcls := Option.some.inj hO)
      · exact va_ldcS hx hbc (by rw [← hcls] at hown; exact hown) hout.2.2.2.1 hd kk2
      · exact va_ldcS hx hbc (by rw [← hcls] at hown; exact hown) hout.2.2.2.2.1 hd kk2
      · exact va_ldcS hx hbc (by rw [← hcls] at hown; exact hown) hout.2.2.2.2.2.1 hd kk2
  · -- ldc2
    unfold mi_ldk2 at h
    obtain ⟨x, hx2, rfl⟩ := Option.map_eq_some_iff.mp h
    have h1 := List.all_eq_true.mp mi_kl_ok _ (mi_look hx2)
    try dsimp only at h1
    rw [hO] at h1
    exact lv_ldc2 hx hbc hown (hts _ (mi_all_of (mi_at_mem h1) rfl)) hd (kk H locs hh)
  · cases h
end MIY
end
section
/-! MINI's calls run as the JVM's -/
def mi_ws (q : mi_Mt) : List Jvm.Cond := Jvm.Cond.code q.1 (mi_bt q) q.2.2.1 q.2.2.2.1 :: mi_all
theorem mi_cvvp : mi_cv.all (fun q => decide (mi_vp.lookup (q.1.1, q.1.2.1) = some q.2.2.1)) = true := by decide +kernel
theorem mi_cuvp : mi_cu.all (fun q => decide (mi_vp.lookup (q.1.1, q.1.2.1) = some q.2.2.1)) = true := by decide +kernel
def mi_rm (d mc ms : Nat) : Room := { frames := d, cells := mc, slots := ms, locals := 64 * d }
theorem mi_goodIn {ws : List Jvm.Cond} (h : ∀ w ∈ ws, w ∈ mi_all) : GoodIn mi_all ws := fun w hw => ⟨h w hw, good_of_word (List.mem_filter.mp (h w hw)).2⟩
theorem mi_ws_in {t : Nat} {q : mi_Mt} (h : mi_mt[t]? = some q) (hp : q.2.2.2.2.2.1 ≠ 99999) : ∀ w ∈ mi_ws q, w ∈ mi_all := by
  intro w hw
  rcases List.mem_cons.mp hw with rfl | hw
  · exact mi_all_of ((mi_mt_inv h).2.2.2.2.1 hp) rfl
  · exact hw
def mi_pre (sA : Nat → Nat) (n0 : Nat) (sc : List Value) (D : va_G) (aT : Nat → ClassId) (mem : mi_M) (U : State) : Prop :=
  U.heap.size = n0 + (mem.length - 5) ∧ va_P D mi_cl (mi_w (mi_ad sA n0) aT mem) U.heap ∧ va_K D mi_cl (mi_tys aT) U ∧ (∀ w ∈ mi_bad, va_Nw w U) ∧ mi_out (mi_ad sA n0) n0 sc U U.heap
def mi_post (sA : Nat → Nat) (n0 : Nat) (D : va_G) (aT : Nat → ClassId) (r : Option Value) (mem : mi_M) : Array Value → State → Outcome → State → Prop := fun _ st o t =>
  (o = .returned (r.map (mi_v (mi_ad sA n0))) ∧ va_P D mi_cl (mi_w (mi_ad sA n0) aT mem) t.heap) ∧ va_F (fun q : Nat => n0 ≤ q) st t
theorem mi_out_moved {ad : Nat → Nat} {n0 : Nat} {sc : List Value} {s U : State} {H : Heap} {locs : List Loc} (hW : s.WarmedH U.vm) (hU : U.heap = H) (hS : va_S (fun q : Nat => n0 ≤ q) s.heap H locs) (hn : n0 ≤ s.heap.size) (h : mi_out ad n0 sc s s.heap) : mi_out ad n0 sc U U.heap := by
  obtain ⟨⟨h1, h1b⟩, h2, h3, h4, h5, h6, ⟨adV, h7⟩, h8⟩ := h
  subst hU
  have hk : ∀ a : Nat, a < s.heap.size → ¬ n0 ≤ a → U.heap[a]? = s.heap[a]? := hS.2.1
  exact ⟨⟨va_X.kept (h1.moved hW.alike) (hk _ (by omega) (by omega)), h1b⟩, (h2.moved hW.alike).kept hk, (h3.moved hW.alike).kept hk, h4.warm hW, h5.warm hW, h6.warm hW, ⟨adV, (h7.moved hW.alike).kept hk⟩, (h8.moved hW.alike).kept hk⟩
theorem mi_blind {sA : Nat → Nat} {n0 : Nat} {sc : List Value} {D : va_G} {aT : Nat → ClassId} {mem : mi_M} {av : List Value} : FrameBlind (va_Pc av (mi_pre sA n0 sc D aT mem)) := by
  intro a U g mk h
  obtain ⟨h0, h1, h2, h3, h4, h5⟩ := h
  have hW : U.WarmedH (U.calling g mk a).vm := State.WarmedH.refl U
  exact ⟨h0, h1, h2, va_K.moved (u := U) (U := U.calling g mk a) (Vm.Alike.refl U.vm) h3, mi_bad_warm hW h4, mi_out_moved (s := U) (U := U.calling g mk a) (locs := []) hW rfl va_S.rf (by omega) h5⟩
section MIC
variable {p : Program} {l : Launch} {e : Env} {R : Room} {s : State} {m : MethodId} {args : Array Value} {below : List Frame} {meth : Method} {c : Code} {H : Heap} {locs : List Loc} {cells slots : Nat} {Q : State → Prop}
variable {pc t n0 m0 s0 d : Nat} {mem : mi_M} {la : Array Slot} {mq : mi_Mt} {sA : Nat → Nat} {sc : List Value} {D : va_G} {aT : Nat → ClassId}
theorem mi_after {mc ms : Nat} {st0 rest : List Value} {As : Array Value} {r : Option Value} {mem' : mi_M} (hr : va_Run p l e R s m args below meth c H locs cells slots mc ms (F0 m pc la st0) rest (mi_post sA n0 D aT r mem' As) (fun q : Nat => n0 ≤ q)) (hS : va_S (fun q : Nat => n0 ≤ q) s.heap H locs)
    (kk : ∀ (H1 : Heap) (locs1 : List Loc), va_P D mi_cl (mi_w (mi_ad sA n0) aT mem') H1 → va_S (fun q : Nat => n0 ≤ q) s.heap H1 locs1 → W p l e R s m args below meth c H1 locs1 (cells + mc) (slots + ms) Q (F0 m (pc + 3) la ((r.map (mi_v (mi_ad sA n0))).toList ++ rest))) : W p l e R s m args below meth c H locs cells slots Q (F0 m pc la st0) := by
  intro T hT X
  obtain ⟨v, st₀, t, T', L, h0, X', hL, e1, e2, ⟨⟨hv, hp⟩, hz, hk⟩, st⟩ := hr T hT X
  cases hv
  rw [h0] at hz hk
  obtain ⟨t2, a1, b1⟩ := kk T'.heap (locs ++ L) (by rw [e1]; exact hp)
    ⟨Nat.le_trans hS.1 (by rw [e1]; exact hz), fun q h1 h2 => by rw [e1, hk q (Nat.lt_of_lt_of_le h1 hS.1) h2]; exact hS.2.1 q h1 h2, fun q hq => by
      rcases List.mem_append.mp hq with h | h
      · exact hS.2.2 q h
      · exact hL q h⟩ T' rfl X'
  exact ⟨t2, st t2 a1, b1⟩
theorem mi_low_ok {ad : Nat → Nat} {r : List Value} (h : mi_low r = true) : ((r.map (mi_v ad)).map fun v => v.category).sum ≤ 8 := by
  have h1 := of_decide_eq_true h
  rw [List.map_map]
  have e : ((fun v : Value => v.category) ∘ mi_v ad) = fun v => v.category := by funext v; exact mi_v_cat ad v
  rw [e]
  exact h1
/-- what a callee is known to do -/
def mi_Ok (l : Launch) (sA : Nat → Nat) (n0 : Nat) (sc : List Value) (D : va_G) (aT : Nat → ClassId) (d : Nat) (f : mi_F) : Prop :=
  ∀ (t : Nat) (as : List Value) (mem : mi_M) (r : Option Value) (mem' : mi_M), f t as mem = some (r, mem') → mi_inv sc mem → mi_gr sc mem mem' ∧ ∀ q : mi_Mt, mi_mt[t]? = some q → q.2.2.2.2.2.1 ≠ 99999 →
    Met l q.1 (mi_ws q) (mi_rm d (mem'.length - mem.length) (mi_sl mem' - mi_sl mem)) (va_Pc (as.map (mi_v (mi_ad sA n0))) (mi_pre sA n0 sc D aT mem)) (mi_post sA n0 D aT r mem') (mem'.length - mem.length) (mi_sl mem' - mi_sl mem) (fun q : Nat => n0 ≤ q)
theorem mi_cat_inv {f : mi_F} {t n : Nat} {st : List Value} {mem : mi_M} {q : List Value × mi_M} (h : mi_cat f t n st mem = some q) : ∃ b r x, st = st.take n ++ .ref b :: r ∧ mi_low r = true ∧ (st.take n).length = n ∧ f t (.ref b :: (st.take n).reverse) mem = some x ∧ q = (x.1.toList ++ r, x.2) := by
  unfold mi_cat at h
  split at h
  next b r hb =>
    split at h
    next hc =>
      obtain ⟨x, hx, rfl⟩ := Option.map_eq_some_iff.mp h
      exact ⟨b, r, x, by rw [← hb, List.take_append_drop], hc.1, hc.2, hx, rfl⟩
    next => cases h
  next => cases h
theorem mi_sat_inv {f : mi_F} {t n : Nat} {st : List Value} {mem : mi_M} {q : List Value × mi_M} (h : mi_sat f t n st mem = some q) : ∃ x, mi_low (st.drop n) = true ∧ (st.take n).length = n ∧ f t (st.take n).reverse mem = some x ∧ q = (x.1.toList ++ st.drop n, x.2) := by
  unfold mi_sat at h
  split at h
  next hc =>
    obtain ⟨x, hx, rfl⟩ := Option.map_eq_some_iff.mp h
    exact ⟨x, hc.1, hc.2, hx, rfl⟩
  next => cases h
theorem mi_toList {ad : Nat → Nat} {r : Option Value} : (r.map (mi_v ad)).toList = r.toList.map (mi_v ad) := by cases r <;> rfl
theorem mi_done {mem' : mi_M} {r : Option Value} {st0 rest : List Value} {As : Array Value} (hh : mi_hd sA n0 sc D aT s mem H locs) (hb : m0 ≤ mem.length ∧ s0 ≤ mi_sl mem) (hg : mi_gr sc mem mem')
    (hr : va_Run p l e R s m args below meth c H locs (mem.length - m0) (mi_sl mem - s0) (mem'.length - mem.length) (mi_sl mem' - mi_sl mem) (F0 m pc la st0) (rest.map (mi_v (mi_ad sA n0))) (mi_post sA n0 D aT r mem' As) (fun q : Nat => n0 ≤ q))
    (kk : ∀ (H' : Heap) (locs' : List Loc), mi_hd sA n0 sc D aT s mem' H' locs' → W p l e R s m args below meth c H' locs' (mem'.length - m0) (mi_sl mem' - s0) Q (F0 m (pc + 3) la ((r.toList ++ rest).map (mi_v (mi_ad sA n0))))) :
    W p l e R s m args below meth c H locs (mem.length - m0) (mi_sl mem - s0) Q (F0 m pc la st0) := by
  have g1 := hg.1
  have g2 := hg.2.1
  refine mi_after hr hh.2.1 (fun H1 locs1 p1 p2 => ?_)
  have h := kk H1 locs1 ⟨p1, p2, hg.2.2⟩
  rw [show mem'.length - m0 = (mem.length - m0) + (mem'.length - mem.length) by omega, show mi_sl mem' - s0 = (mi_sl mem - s0) + (mi_sl mem' - mi_sl mem) by omega, List.map_append, ← mi_toList] at h
  exact h
theorem mi_preU (hK : va_K D mi_cl (mi_tys aT) s) (hbad : ∀ w ∈ mi_bad, va_Nw w s) (hout : mi_out (mi_ad sA n0) n0 sc s s.heap) (hn0 : n0 ≤ s.heap.size) (hh : mi_hd sA n0 sc D aT s mem H locs) (hsz : H.size = n0 + (mem.length - 5)) : ∀ U : State, U.heap = H → s.WarmedH U.vm → mi_pre sA n0 sc D aT mem U := by
  intro U hU hW
  exact ⟨by rw [hU]; exact hsz, by rw [hU]; exact hh.1, va_K.moved hW.alike hK, mi_bad_warm hW hbad, mi_out_moved hW hU hh.2.1 hn0 hout⟩
theorem mi_rm_ok {q : mi_Mt} (hq : q.2.2.1 ≤ 40) {mc ms : Nat} (hRr : d + 1 ≤ R.frames ∧ 64 * (d + 1) ≤ R.locals) : (mi_rm d mc ms).frames + 1 ≤ R.frames ∧ 8 + (q.2.2.1 + 11) + (mi_rm d mc ms).locals ≤ R.locals := by
  refine ⟨hRr.1, ?_⟩
  show 8 + (q.2.2.1 + 11) + 64 * d ≤ R.locals
  have := hRr.2
  omega
theorem mi_mh_ok {x : String} (h : mi_mh x = true) : x ≠ "java/lang/invoke/MethodHandle" ∧ x ≠ "java/lang/invoke/VarHandle" := of_decide_eq_true h
/-- a virtual call -/
theorem mi_sV {f : mi_F} (C : mi_cx p s m args meth c t mq sA n0 sc D aT) (hh : mi_hd sA n0 sc D aT s mem H locs) (hm0 : 5 ≤ m0 ∧ s.heap.size = n0 + (m0 - 5)) (hb : m0 ≤ mem.length ∧ s0 ≤ mi_sl mem) (hla : la.size = mq.2.2.1) (hOk : mi_Ok l sA n0 sc D aT d f) {k n ci t' : Nat} {st : List Value} {q : List Value × mi_M} {fs : List Value} {b : Nat}
    (hn : mi_vp.lookup (mq.2.2.2.2.1, k) = some n) (hst : st[n]? = some (.ref b)) (hc : mem[b]? = some (ci, fs)) (ht : mi_vt mq.2.2.2.2.1 k ci = some t') (h : mi_cat f t' n st mem = some q) (hd : decode (mi_bt mq) pc = .ok (.invokevirtual k, 3))
    (hRr : d + 1 ≤ R.frames ∧ 64 * (d + 1) ≤ R.locals) (hR : q.2.length - m0 ≤ R.cells ∧ mi_sl q.2 - s0 ≤ R.slots)
    (kk : ∀ (H' : Heap) (locs' : List Loc), mi_hd sA n0 sc D aT s q.2 H' locs' → W p l e R s m args below meth c H' locs' (q.2.length - m0) (mi_sl q.2 - s0) Q (F0 m (pc + 3) la (q.1.map (mi_v (mi_ad sA n0))))) :
    W p l e R s m args below meth c H locs (mem.length - m0) (mi_sl mem - s0) Q (F0 m pc la (st.map (mi_v (mi_ad sA n0)))) := by
  obtain ⟨hmt, hx, hbc, hml, hown, hts, hbad, hK, hn0, hlocks, hini, hret, hout⟩ := C
  obtain ⟨hP, hS, hmi⟩ := id hh
  obtain ⟨-, -, hO, -, -, -⟩ := mi_mt_inv hmt
  obtain ⟨b', r, ⟨rv, mem'⟩, hst2, hlow, hlen, hf, rfl⟩ := mi_cat_inv h
  have hbb : b' = b := by
    have h1 := hst
    rw [hst2, List.getElem?_append_right (by omega), hlen, Nat.sub_self] at h1
    cases h1; rfl
  subst hbb
  obtain ⟨hg, hM⟩ := hOk _ _ _ _ _ hf hmi
  try dsimp only at hR kk
  have g1 := hg.1
  have g2 := hg.2.1
  have hlen5 := mi_len5 hmi.1
  refine mi_size (n := n0 + (mem.length - 5)) (mi_hd_size hh hn0) (by omega) fun hsz => ?_
  have hpre := mi_preU hK hbad hout hn0 hh hsz
  have hsm : st.map (mi_v (mi_ad sA n0)) = ((st.take n).reverse.map (mi_v (mi_ad sA n0))).reverse ++ .ref (mi_ad sA n0 b') :: r.map (mi_v (mi_ad sA n0)) := by
    conv => lhs; rw [hst2]
    rw [List.map_append, List.map_reverse, List.reverse_reverse]
    rfl
  have hal : ((st.take n).reverse.map (mi_v (mi_ad sA n0))).length = n := by rw [List.length_map, List.length_reverse]; exact hlen
  have hcnt : mem.length - m0 + (mem'.length - mem.length) ≤ R.cells ∧ mi_sl mem - s0 + (mi_sl mem' - mi_sl mem) ≤ R.slots := by omega
  have hfix : CallFix p m c (mi_bt mq) mq.2.2.1 s args mi_all mq.1.cls := ⟨hx, hbc, hml, hown, hts⟩
  unfold mi_vt at ht
  split at ht
  next x hx2 =>
    obtain rfl : x.1 = t' := Option.some.inj ht
    have h1 := List.all_eq_true.mp mi_cv_ok _ (mi_look hx2)
    unfold mi_cvchk at h1
    try dsimp only at h1
    rw [hO] at h1
    split at h1
    next O w M hO' hw hM' =>
      cases hO'
      simp only [Bool.and_eq_true, decide_eq_true_eq] at h1
      obtain ⟨⟨⟨⟨⟨⟨⟨⟨h13, hpl⟩, hcls⟩, hmh⟩, hnp⟩, w1⟩, w2⟩, w3⟩, w4⟩ := h1
      obtain ⟨-, hM40, -, -, -, -⟩ := mi_mt_inv hM'
      have hMet := hM M hM' hpl
      have hnn : x.2.1 = n := by
        have h2 := List.all_eq_true.mp mi_cvvp _ (mi_look hx2)
        try dsimp only at h2
        have h3 := of_decide_eq_true h2
        rw [hn] at h3
        exact (Option.some.inj h3).symm
      rw [hnn] at hnp
      have he := mi_w_get (ad := mi_ad sA n0) (aT := aT) (mi_hi hmi.1 hc (Nat.lt_trans h13 (by decide))) hc
      rw [mi_e_obj h13] at he
      have hcw := cwV (R := R) (s := s) (args := args) n hts (own := mq.1.cls) (index := k) (C := w.1) (y := M.1) (bytes := mi_bt M) (maxL := M.2.2.1) (ret := M.2.2.2.1) (ws := mi_ws M) (ws' := mi_all) (rm := mi_rm d (mem'.length - mem.length) (mi_sl mem' - mi_sl mem)) (mc := mem'.length - mem.length) (ms := mi_sl mem' - mi_sl mem) (mi_goodIn (by
        intro z hz
        unfold wsV at hz
        rcases List.mem_append.mp hz with hz | hz
        · simp only [List.mem_cons, List.not_mem_nil, or_false] at hz
          rcases hz with rfl | rfl | rfl | rfl
          · exact mi_all_of (mi_at_mem w1) rfl
          · exact mi_all_of (mi_at_mem w2) rfl
          · exact mi_all_of (mi_at_mem w3) rfl
          · exact mi_all_of (mi_at_mem w4) rfl
        · exact mi_ws_in hM' hpl z hz)) rfl rfl rfl ⟨hcls, (mi_mh_ok hmh).1, (mi_mh_ok hmh).2, hnp⟩ (mi_rm_ok hM40 hRr)
      refine mi_done (As := (Value.ref (mi_ad sA n0 b') :: (st.take n).reverse.map (mi_v (mi_ad sA n0))).toArray) hh hb hg ?_ kk
      exact va_runV hfix hMet hcw ⟨mi_blind, va_recv hK hP hw he, fun U hU hW => ⟨rfl, hpre U hU hW⟩⟩ rfl hal hla hsm (lv_room (mi_low_ok hlow)) hd hcnt
    next => cases h1
  next =>
    obtain ⟨x, hx2, rfl⟩ := Option.map_eq_some_iff.mp ht
    have h1 := List.all_eq_true.mp mi_cu_ok _ (mi_look hx2)
    unfold mi_cuchk at h1
    try dsimp only at h1
    rw [hO] at h1
    split at h1
    next O w M U hO' hw hM' hU' =>
      cases hO'
      split at h1
      next O' k' xn hlk =>
        simp only [Bool.and_eq_true, decide_eq_true_eq] at h1
        obtain ⟨⟨⟨⟨⟨⟨⟨⟨⟨⟨⟨⟨⟨h13, rfl⟩, rfl⟩, hpl⟩, hplU⟩, hun⟩, hud⟩, hmh⟩, hnp⟩, w1⟩, w2⟩, w3⟩, w4⟩, w5⟩ := h1
        obtain ⟨-, hM40, -, -, -, -⟩ := mi_mt_inv hM'
        have hMet := hM M hM' hpl
        have hnn : x.2.1 = n := by
          have h2 := List.all_eq_true.mp mi_cuvp _ (mi_look hx2)
          try dsimp only at h2
          have h3 := of_decide_eq_true h2
          rw [hn] at h3
          exact (Option.some.inj h3).symm
        rw [hnn] at hnp
        have he := mi_w_get (ad := mi_ad sA n0) (aT := aT) (mi_hi hmi.1 hc (Nat.lt_trans h13 (by decide))) hc
        rw [mi_e_obj h13] at he
        have hUy : U.1 = ⟨U.1.cls, xn.name, xn.desc⟩ := by rw [← hun, ← hud]
        have hcw := va_cwO (R := R) (s := s) (args := args) n hts (own := mq.1.cls) (C := w.1) (owner := U.1.cls) (index := k') (x := xn) (y := M.1) (bytes := mi_bt M) (maxL := M.2.2.1) (ret := M.2.2.2.1) (ws := mi_ws M) (ws' := mi_all) (rm := mi_rm d (mem'.length - mem.length) (mi_sl mem' - mi_sl mem)) (mc := mem'.length - mem.length) (ms := mi_sl mem' - mi_sl mem) (mi_goodIn (by
          intro z hz
          unfold va_wsO at hz
          rcases List.mem_append.mp hz with hz | hz
          · simp only [List.mem_cons, List.not_mem_nil, or_false] at hz
            rcases hz with rfl | rfl | rfl | rfl | rfl | rfl
            · exact mi_all_of (List.mem_of_getElem? hlk) rfl
            · exact mi_all_of (mi_at_mem w1) rfl
            · rw [← hUy]; exact mi_all_of (mi_at_mem w2) rfl
            · exact mi_all_of (mi_at_mem w3) rfl
            · exact mi_all_of (mi_at_mem w4) rfl
            · exact mi_all_of (mi_at_mem w5) rfl
          · exact mi_ws_in hM' hpl z hz)) rfl rfl rfl (b0 := mi_bt U) (m0 := U.2.2.1) (r0 := U.2.2.2.1) (by rw [← hUy]; exact mi_all_of ((mi_mt_inv hU').2.2.2.2.1 hplU) rfl) ⟨(mi_mh_ok hmh).1, (mi_mh_ok hmh).2, hnp⟩ (mi_rm_ok hM40 hRr)
        refine mi_done (As := (Value.ref (mi_ad sA n0 b') :: (st.take n).reverse.map (mi_v (mi_ad sA n0))).toArray) hh hb hg ?_ kk
        exact va_runU hfix hMet hcw ⟨mi_blind, va_recv hK hP hw he, fun U hU hW => ⟨rfl, hpre U hU hW⟩⟩ rfl hal hla hsm (lv_room (mi_low_ok hlow)) hd hcnt
      next => cases h1
    next => cases h1
end MIC
section MIC2
variable {p : Program} {l : Launch} {e : Env} {R : Room} {s : State} {m : MethodId} {args : Array Value} {below : List Frame} {meth : Method} {c : Code} {H : Heap} {locs : List Loc} {cells slots : Nat} {Q : State → Prop}
variable {pc t n0 m0 s0 d : Nat} {mem : mi_M} {la : Array Slot} {mq : mi_Mt} {sA : Nat → Nat} {sc : List Value} {D : va_G} {aT : Nat → ClassId}
/-- a static call -/
theorem mi_sS {f : mi_F} (C : mi_cx p s m args meth c t mq sA n0 sc D aT) (hh : mi_hd sA n0 sc D aT s mem H locs) (hm0 : 5 ≤ m0 ∧ s.heap.size = n0 + (m0 - 5)) (hb : m0 ≤ mem.length ∧ s0 ≤ mi_sl mem) (hla : la.size = mq.2.2.1) (hOk : mi_Ok l sA n0 sc D aT d f) {k : Nat} {st : List Value} {q : List Value × mi_M} {x : Nat × Nat × Nat × Nat × Nat} {nest : Bool}
    (hx2 : mi_cschk nest ((mq.2.2.2.2.1, k), x) = true) (h : mi_sat f x.1 x.2.1 st mem = some q) (hd : decode (mi_bt mq) pc = .ok (.invokestatic k, 3))
    (hRr : d + 1 ≤ R.frames ∧ 64 * (d + 1) ≤ R.locals) (hR : q.2.length - m0 ≤ R.cells ∧ mi_sl q.2 - s0 ≤ R.slots)
    (kk : ∀ (H' : Heap) (locs' : List Loc), mi_hd sA n0 sc D aT s q.2 H' locs' → W p l e R s m args below meth c H' locs' (q.2.length - m0) (mi_sl q.2 - s0) Q (F0 m (pc + 3) la (q.1.map (mi_v (mi_ad sA n0))))) :
    W p l e R s m args below meth c H locs (mem.length - m0) (mi_sl mem - s0) Q (F0 m pc la (st.map (mi_v (mi_ad sA n0)))) := by
  obtain ⟨hmt, hx, hbc, hml, hown, hts, hbad, hK, hn0, hlocks, hini, hret, hout⟩ := C
  obtain ⟨hP, hS, hmi⟩ := id hh
  obtain ⟨-, -, hO, -, -, -⟩ := mi_mt_inv hmt
  obtain ⟨⟨rv, mem'⟩, hlow, hlen, hf, rfl⟩ := mi_sat_inv h
  obtain ⟨hg, hM⟩ := hOk _ _ _ _ _ hf hmi
  try dsimp only at hR kk
  have g1 := hg.1
  have g2 := hg.2.1
  have hlen5 := mi_len5 hmi.1
  refine mi_size (n := n0 + (mem.length - 5)) (mi_hd_size hh hn0) (by omega) fun hsz => ?_
  have hpre := mi_preU hK hbad hout hn0 hh hsz
  have hsm : st.map (mi_v (mi_ad sA n0)) = ((st.take x.2.1).reverse.map (mi_v (mi_ad sA n0))).reverse ++ (st.drop x.2.1).map (mi_v (mi_ad sA n0)) := by
    rw [List.map_reverse, List.reverse_reverse, ← List.map_append, List.take_append_drop]
  have hal : ((st.take x.2.1).reverse.map (mi_v (mi_ad sA n0))).length = x.2.1 := by rw [List.length_map, List.length_reverse]; exact hlen
  have hcnt : mem.length - m0 + (mem'.length - mem.length) ≤ R.cells ∧ mi_sl mem - s0 + (mi_sl mem' - mi_sl mem) ≤ R.slots := by omega
  have hfix : CallFix p m c (mi_bt mq) mq.2.2.1 s args mi_all mq.1.cls := ⟨hx, hbc, hml, hown, hts⟩
  have h1 := hx2
  unfold mi_cschk at h1
  try dsimp only at h1
  rw [hO] at h1
  split at h1
  next O M hO' hM' =>
    cases hO'
    simp only [Bool.and_eq_true, decide_eq_true_eq] at h1
    obtain ⟨⟨⟨⟨⟨hpl, hmh⟩, hnp⟩, w1⟩, w2⟩, w3⟩ := h1
    obtain ⟨-, hM40, -, -, -, -⟩ := mi_mt_inv hM'
    have hMet := hM M hM' hpl
    refine mi_done (As := ((st.take x.2.1).reverse.map (mi_v (mi_ad sA n0))).toArray) hh hb hg ?_ kk
    cases nest with
    | false =>
      have hcw := va_cwS (R := R) (s := s) (args := args) x.2.1 hts (own := mq.1.cls) (index := k) (y := M.1) (bytes := mi_bt M) (maxL := M.2.2.1) (ret := M.2.2.2.1) (ws := mi_ws M) (ws' := mi_all) (rm := mi_rm d (mem'.length - mem.length) (mi_sl mem' - mi_sl mem)) (mc := mem'.length - mem.length) (ms := mi_sl mem' - mi_sl mem) (mi_goodIn (by
        intro z hz
        unfold va_wsS at hz
        rcases List.mem_append.mp hz with hz | hz
        · simp only [List.mem_cons, List.not_mem_nil, or_false] at hz
          rcases hz with rfl | rfl | rfl
          · exact mi_all_of (mi_at_mem w1) rfl
          · exact mi_all_of (mi_at_mem w2) rfl
          · exact mi_all_of (mi_at_mem w3) rfl
        · exact mi_ws_in hM' hpl z hz)) rfl rfl rfl ⟨(mi_mh_ok hmh).1, (mi_mh_ok hmh).2, hnp⟩ (mi_rm_ok hM40 hRr)
      exact va_runS hfix hMet hcw ⟨mi_blind, fun U hU hW => ⟨rfl, hpre U hU hW⟩⟩ rfl hal hla hsm (lv_room (mi_low_ok hlow)) hd hcnt
    | true =>
      have hcw := va_cnB (R := R) (s := s) (args := args) x.2.1 hts (own := mq.1.cls) (host := "NineLedges") (index := k) (y := M.1) (bytes := mi_bt M) (maxL := M.2.2.1) (ret := M.2.2.2.1) (ws := mi_ws M) (ws' := mi_all) (rm := mi_rm d (mem'.length - mem.length) (mi_sl mem' - mi_sl mem)) (mc := mem'.length - mem.length) (ms := mi_sl mem' - mi_sl mem) (mi_goodIn (mi_ws_in hM' hpl)) rfl rfl rfl (hbad _ (mi_bad_of (mi_at_mem w1) rfl)) (hts _ (mi_all_of (mi_at_mem w3) rfl)) ⟨(mi_mh_ok hmh).1, (mi_mh_ok hmh).2, hnp⟩ (mi_rm_ok hM40 hRr)
      exact va_runSN hfix hMet ⟨hcw, hts _ (mi_all_of (mi_at_mem w2) rfl), trivial⟩ ⟨mi_blind, fun U hU hW => ⟨rfl, hpre U hU hW⟩⟩ rfl hal hla hsm (lv_room (mi_low_ok hlow)) hd hcnt
  next => cases h1
/-- a constructor -/
theorem mi_sI {f : mi_F} (C : mi_cx p s m args meth c t mq sA n0 sc D aT) (hh : mi_hd sA n0 sc D aT s mem H locs) (hm0 : 5 ≤ m0 ∧ s.heap.size = n0 + (m0 - 5)) (hb : m0 ≤ mem.length ∧ s0 ≤ mi_sl mem) (hla : la.size = mq.2.2.1) (hOk : mi_Ok l sA n0 sc D aT d f) {k : Nat} {st : List Value} {q : List Value × mi_M} {x : Nat × Nat × Nat × Nat × Nat} {nest : Bool}
    (hx2 : mi_cichk nest ((mq.2.2.2.2.1, k), x) = true) (h : mi_cat f x.1 x.2.1 st mem = some q) (hd : decode (mi_bt mq) pc = .ok (.invokespecial k, 3))
    (hRr : d + 1 ≤ R.frames ∧ 64 * (d + 1) ≤ R.locals) (hR : q.2.length - m0 ≤ R.cells ∧ mi_sl q.2 - s0 ≤ R.slots)
    (kk : ∀ (H' : Heap) (locs' : List Loc), mi_hd sA n0 sc D aT s q.2 H' locs' → W p l e R s m args below meth c H' locs' (q.2.length - m0) (mi_sl q.2 - s0) Q (F0 m (pc + 3) la (q.1.map (mi_v (mi_ad sA n0))))) :
    W p l e R s m args below meth c H locs (mem.length - m0) (mi_sl mem - s0) Q (F0 m pc la (st.map (mi_v (mi_ad sA n0)))) := by
  obtain ⟨hmt, hx, hbc, hml, hown, hts, hbad, hK, hn0, hlocks, hini, hret, hout⟩ := C
  obtain ⟨hP, hS, hmi⟩ := id hh
  obtain ⟨-, -, hO, -, -, -⟩ := mi_mt_inv hmt
  obtain ⟨b', r, ⟨rv, mem'⟩, hst2, hlow, hlen, hf, rfl⟩ := mi_cat_inv h
  obtain ⟨hg, hM⟩ := hOk _ _ _ _ _ hf hmi
  try dsimp only at hR kk
  have g1 := hg.1
  have g2 := hg.2.1
  have hlen5 := mi_len5 hmi.1
  refine mi_size (n := n0 + (mem.length - 5)) (mi_hd_size hh hn0) (by omega) fun hsz => ?_
  have hpre := mi_preU hK hbad hout hn0 hh hsz
  have hsm : st.map (mi_v (mi_ad sA n0)) = ((st.take x.2.1).reverse.map (mi_v (mi_ad sA n0))).reverse ++ .ref (mi_ad sA n0 b') :: r.map (mi_v (mi_ad sA n0)) := by
    conv => lhs; rw [hst2]
    rw [List.map_append, List.map_reverse, List.reverse_reverse]
    rfl
  have hal : ((st.take x.2.1).reverse.map (mi_v (mi_ad sA n0))).length = x.2.1 := by rw [List.length_map, List.length_reverse]; exact hlen
  have hcnt : mem.length - m0 + (mem'.length - mem.length) ≤ R.cells ∧ mi_sl mem - s0 + (mi_sl mem' - mi_sl mem) ≤ R.slots := by omega
  have hfix : CallFix p m c (mi_bt mq) mq.2.2.1 s args mi_all mq.1.cls := ⟨hx, hbc, hml, hown, hts⟩
  have h1 := hx2
  unfold mi_cichk at h1
  try dsimp only at h1
  rw [hO] at h1
  split at h1
  next O M hO' hM' =>
    cases hO'
    simp only [Bool.and_eq_true, decide_eq_true_eq] at h1
    obtain ⟨⟨⟨⟨⟨⟨⟨hpl, hnm⟩, hrt⟩, hmh⟩, hnp⟩, w1⟩, w2⟩, w3⟩ := h1
    obtain ⟨-, hM40, -, -, -, -⟩ := mi_mt_inv hM'
    have hMet := hM M hM' hpl
    refine mi_done (As := (Value.ref (mi_ad sA n0 b') :: (st.take x.2.1).reverse.map (mi_v (mi_ad sA n0))).toArray) hh hb hg ?_ kk
    have hws : mi_ws M = Jvm.Cond.code M.1 (mi_bt M) M.2.2.1 none :: mi_all := by unfold mi_ws; rw [hrt]
    cases nest with
    | false =>
      have hcw := cwI (R := R) (s := s) (args := args) x.2.1 hts (own := mq.1.cls) (index := k) (y := M.1) (bytes := mi_bt M) (maxL := M.2.2.1) (ws := mi_ws M) (ws' := mi_all) (rm := mi_rm d (mem'.length - mem.length) (mi_sl mem' - mi_sl mem)) (mc := mem'.length - mem.length) (ms := mi_sl mem' - mi_sl mem) (mi_goodIn (mi_ws_in hM' hpl)) hws rfl rfl (hts _ (mi_all_of (mi_at_mem w3) rfl)) (hts _ (mi_all_of (mi_at_mem w1) rfl)) (hts _ (mi_all_of (mi_at_mem w2) rfl)) hnm ⟨(mi_mh_ok hmh).1, (mi_mh_ok hmh).2, hnp⟩ (mi_rm_ok hM40 hRr)
      exact va_runI hfix hMet hcw ⟨mi_blind, fun U hU hW => ⟨rfl, hpre U hU hW⟩⟩ rfl hal hla hsm (lv_room (mi_low_ok hlow)) hd hcnt
    | true =>
      have hcw := va_cnB (R := R) (s := s) (args := args) x.2.1 hts (own := mq.1.cls) (host := "NineLedges") (index := k) (y := M.1) (bytes := mi_bt M) (maxL := M.2.2.1) (ret := none) (ws := mi_ws M) (ws' := mi_all) (rm := mi_rm d (mem'.length - mem.length) (mi_sl mem' - mi_sl mem)) (mc := mem'.length - mem.length) (ms := mi_sl mem' - mi_sl mem) (mi_goodIn (mi_ws_in hM' hpl)) hws rfl rfl (hbad _ (mi_bad_of (mi_at_mem w1) rfl)) (hts _ (mi_all_of (mi_at_mem w3) rfl)) ⟨(mi_mh_ok hmh).1, (mi_mh_ok hmh).2, hnp⟩ (mi_rm_ok hM40 hRr)
      exact va_runIN hfix hMet ⟨hcw, hnm, hts _ (mi_all_of (mi_at_mem w2) rfl)⟩ ⟨mi_blind, fun U hU hW => ⟨rfl, hpre U hU hW⟩⟩ rfl hal hla hsm (lv_room (mi_low_ok hlow)) hd hcnt
  next => cases h1
end MIC2
theorem mi_sub1 {vm : Vm} {a b : ClassId} {k : Class} (hk : vm.classes[a]? = some k) (hs : k.super = some b) : vm.isSubclass a b = true := by
  have hlt := (Array.getElem?_eq_some_iff.mp hk).1
  obtain ⟨n, hn⟩ : ∃ n, vm.classes.size = n + 1 := ⟨vm.classes.size - 1, by omega⟩
  unfold Vm.isSubclass
  rw [hn]
  simp [Vm.isSubclassAux, hk, hs]
section MIC3
variable {p : Program} {l : Launch} {e : Env} {R : Room} {s : State} {m : MethodId} {args : Array Value} {below : List Frame} {meth : Method} {c : Code} {H : Heap} {locs : List Loc} {cells slots : Nat} {Q : State → Prop}
variable {pc t n0 m0 s0 d : Nat} {mem : mi_M} {la : Array Slot} {mq : mi_Mt} {sA : Nat → Nat} {sc : List Value} {D : va_G} {aT : Nat → ClassId}
/-- a superclass's method -/
theorem mi_sU {f : mi_F} (C : mi_cx p s m args meth c t mq sA n0 sc D aT) (hh : mi_hd sA n0 sc D aT s mem H locs) (hm0 : 5 ≤ m0 ∧ s.heap.size = n0 + (m0 - 5)) (hb : m0 ≤ mem.length ∧ s0 ≤ mi_sl mem) (hla : la.size = mq.2.2.1) (hOk : mi_Ok l sA n0 sc D aT d f) {k : Nat} {st : List Value} {q : List Value × mi_M} {x : Nat × Nat × Nat × Nat × Nat × Nat × Nat × Nat × Nat} {ci : Nat} {fs : List Value}
    (hx2 : mi_czchk ((mq.2.2.2.2.1, k), x) = true) (h : mi_cat f x.1 x.2.1 st mem = some q) (hd : decode (mi_bt mq) pc = .ok (.invokespecial k, 3))
    (hrecv : ∀ b, st[x.2.1]? = some (.ref b) → ∃ ci fs, mem[b]? = some (ci, fs) ∧ ci < 13)
    (hRr : d + 1 ≤ R.frames ∧ 64 * (d + 1) ≤ R.locals) (hR : q.2.length - m0 ≤ R.cells ∧ mi_sl q.2 - s0 ≤ R.slots)
    (kk : ∀ (H' : Heap) (locs' : List Loc), mi_hd sA n0 sc D aT s q.2 H' locs' → W p l e R s m args below meth c H' locs' (q.2.length - m0) (mi_sl q.2 - s0) Q (F0 m (pc + 3) la (q.1.map (mi_v (mi_ad sA n0))))) :
    W p l e R s m args below meth c H locs (mem.length - m0) (mi_sl mem - s0) Q (F0 m pc la (st.map (mi_v (mi_ad sA n0)))) := by
  obtain ⟨hmt, hx, hbc, hml, hown, hts, hbad, hK, hn0, hlocks, hini, hret, hout⟩ := C
  obtain ⟨hP, hS, hmi⟩ := id hh
  obtain ⟨-, -, hO, -, -, -⟩ := mi_mt_inv hmt
  obtain ⟨b', r, ⟨rv, mem'⟩, hst2, hlow, hlen, hf, rfl⟩ := mi_cat_inv h
  obtain ⟨hg, hM⟩ := hOk _ _ _ _ _ hf hmi
  try dsimp only at hR kk
  have g1 := hg.1
  have g2 := hg.2.1
  have hlen5 := mi_len5 hmi.1
  refine mi_size (n := n0 + (mem.length - 5)) (mi_hd_size hh hn0) (by omega) fun hsz => ?_
  have hpre := mi_preU hK hbad hout hn0 hh hsz
  have hsm : st.map (mi_v (mi_ad sA n0)) = ((st.take x.2.1).reverse.map (mi_v (mi_ad sA n0))).reverse ++ .ref (mi_ad sA n0 b') :: r.map (mi_v (mi_ad sA n0)) := by
    conv => lhs; rw [hst2]
    rw [List.map_append, List.map_reverse, List.reverse_reverse]
    rfl
  have hal : ((st.take x.2.1).reverse.map (mi_v (mi_ad sA n0))).length = x.2.1 := by rw [List.length_map, List.length_reverse]; exact hlen
  have hcnt : mem.length - m0 + (mem'.length - mem.length) ≤ R.cells ∧ mi_sl mem - s0 + (mi_sl mem' - mi_sl mem) ≤ R.slots := by omega
  obtain ⟨ci, fs, hc, h13⟩ := hrecv b' (by rw [hst2, List.getElem?_append_right (by omega), hlen, Nat.sub_self]; rfl)
  have he := mi_w_get (ad := mi_ad sA n0) (aT := aT) (mi_hi hmi.1 hc (Nat.lt_trans h13 (by decide))) hc
  rw [mi_e_obj h13] at he
  have h1 := hx2
  unfold mi_czchk at h1
  try dsimp only at h1
  rw [hO] at h1
  split at h1
  next O M X hO' hM' hX' =>
    cases hO'
    simp only [Bool.and_eq_true, Bool.or_eq_true, decide_eq_true_eq] at h1
    obtain ⟨⟨⟨⟨⟨⟨⟨⟨hpl, hno⟩, hnp⟩, w1⟩, w2⟩, w3⟩, w4⟩, w5⟩, w6⟩ := h1
    obtain ⟨-, hM40, -, -, -, -⟩ := mi_mt_inv hM'
    have hMet := hM M hM' hpl
    obtain ⟨hrmf, hrml⟩ := mi_rm_ok (R := R) (d := d) hM40 (mc := mem'.length - mem.length) (ms := mi_sl mem' - mi_sl mem) hRr
    have hin : ∀ w, w ∈ lw_tbl → goodWord w = true → w.before args s = true := fun w a b => hts w (mi_all_of a b)
    have hcodew : Jvm.Cond.code M.1 (mi_bt M) M.2.2.1 M.2.2.2.1 ∈ mi_ws M := List.mem_cons_self
    have hini0 := hin _ (mi_at_mem w6) rfl
    have hBk : Back l R p e below s args M.1 3 8 (PreOf R (mem'.length - mem.length) (mi_sl mem' - mi_sl mem) (va_Pc ((Value.ref b' :: (st.take x.2.1).reverse).map (mi_v (mi_ad sA n0))) (mi_pre sA n0 sc D aT mem))) (PostOf (mi_post sA n0 D aT rv mem') (mem'.length - mem.length) (mi_sl mem' - mi_sl mem) (fun q : Nat => n0 ≤ q)) :=
      back_of (bytes := mi_bt M) (maxL := M.2.2.1) (ret := M.2.2.2.1) hMet mi_blind rfl rfl hrmf hrml (pay_in hts (mi_goodIn (mi_ws_in hM' hpl))) hcodew (fun a' U hW => word_at hW (Or.inl rfl) hini0)
    obtain ⟨r', hr', cellB, q1, q2, q3, -⟩ := hP _ _ he
    obtain ⟨hfcB, kB, hkB, -⟩ := (hK.1 ci r' hr').2
    obtain ⟨mk, methM, hnamed, hmethM, hstM, habM⟩ := Cond.instanceMethod_spec (hin _ (mi_at_mem w5) rfl)
    obtain ⟨methM', cM, hmethM', -, -, -, -, -, -, hsigM⟩ := Cond.code_spec hnamed (hin _ ((mi_mt_inv hM').2.2.2.2.1 hpl) rfl)
    cases hmethM.symm.trans hmethM'
    obtain ⟨ps, dk, kp, hps, hdk, hkp, hsuper, -, -, hnid⟩ := Cond.superclass_spec hown (hin _ (mi_at_mem w3) rfl)
    have hsub : s.vm.isSubclass ps mk.cls = true := by
      have hmkc : s.vm.findClass M.1.cls = some mk.cls := findClass_of_methodNamed hnamed
      rcases w4 with w4 | w4
      · rw [w4] at hps
        rw [Option.some.inj (hps.symm.trans hmkc)]
        simp [Vm.isSubclass, Vm.isSubclassAux]
      · obtain ⟨p2, k2, kp2, f1, f2, -, f4, -⟩ := Cond.superclass_spec hps (hin _ (mi_at_mem w4) rfl)
        rw [Option.some.inj (hmkc.symm.trans f1)]
        exact mi_sub1 f2 f4
    refine mi_done (As := (Value.ref (mi_ad sA n0 b') :: (st.take x.2.1).reverse.map (mi_v (mi_ad sA n0))).toArray) hh hb hg ?_ kk
    intro T hT Z
    obtain ⟨vm₁, X₁, hstep₁⟩ := Z.invokespecialUp hx hown (hin _ (mi_at_mem w1) rfl) (hin _ (mi_at_mem w2) rfl) (r0 := mk) hnamed hmethM hstM habM hno hdk hnid hps hsuper hsub (a := mi_ad sA n0 b') (cell := cellB) (by rw [hT]; exact q1)
      (fun z h => by rw [q3] at h; cases h) (by rw [q2]; exact hkB) (g := F0 m pc la (st.map (mi_v (mi_ad sA n0)))) rfl (argsL := (st.take x.2.1).reverse.map (mi_v (mi_ad sA n0))) (rest := r.map (mi_v (mi_ad sA n0))) (by
        rw [hal]
        have h2 := hnp
        unfold mi_np at h2
        rw [hsigM] at h2
        exact (Option.some.inj h2).symm) hsm (by rw [hbc]; exact hd)
    obtain ⟨v, ⟨U', l2, c2, s2⟩, X', ⟨g', mk', t', L, e1, e2, hq, z1, hL, z2, z3⟩, hsteps⟩ := hBk m meth c ⟨T.setVm vm₁, locs, mem.length - m0, mi_sl mem - s0⟩ { F0 m pc la (st.map (mi_v (mi_ad sA n0))) with stack := r.map (mi_v (mi_ad sA n0)) } (.invokespecial k) mk (Value.ref (mi_ad sA n0 b') :: (st.take x.2.1).reverse.map (mi_v (mi_ad sA n0))).toArray X₁ rfl (hla.trans hml.symm) (by rw [hbc]; exact hd) (lv_room (mi_low_ok hlow)) (X₁.named hnamed) ⟨hcnt.1, hcnt.2, ⟨rfl, hpre (T.setVm vm₁) hT X₁.warmed⟩⟩
    dsimp only [Pt.U, Pt.locs, Pt.cells, Pt.slots] at X' e1 e2 z1 z2 z3 hsteps
    subst z1; subst z2; subst z3
    exact ⟨v, (T.setVm vm₁).calling g' mk' (Value.ref (mi_ad sA n0 b') :: (st.take x.2.1).reverse.map (mi_v (mi_ad sA n0))).toArray, t', U', L, hT, X', hL, e1, e2, hq, fun target h => hstep₁ _ (by rw [doInvoke_state]; exact hsteps.trans h)⟩
  next => cases h1
end MIC3
end
section
/-! what MINI does itself runs as the JVM's: max, min, arraycopy, Object() -/
theorem mi_w_mx : mi_at 244 (.static Lib.Math.max.name) = true ∧ mi_at 82 (.initialized "java/lang/Math") = true ∧ mi_at 245 (.code Lib.Math.max.name Lib.Math.max.code 2 (some .int)) = true := by decide +kernel
theorem mi_w_mn : mi_at 561 (.static Lib.Math.min.name) = true ∧ mi_at 562 (.code Lib.Math.min.name Lib.Math.min.code 2 (some .int)) = true := by decide +kernel
theorem mi_w_ac : mi_at 737 (.static arraycopyName) = true ∧ mi_at 738 (.native arraycopyName) = true ∧ mi_at 90 (.initialized "java/lang/System") = true := by decide +kernel
theorem mi_w_oi : mi_at 97 (.instanceMethod objectInit) = true ∧ mi_at 98 (.code objectInit ⟨#[0xb1]⟩ 1 none) = true := by decide +kernel
theorem mi_acp_inv {st : List Value} {mem : mi_M} {q : List Value × mi_M} (h : mi_acp st mem = some q) : ∃ n dp a sp a0 r f g, st = .int n :: .int dp :: .ref a :: .int sp :: .ref a0 :: r ∧ mem[a0]? = some (20, f) ∧ mem[a]? = some (20, g) ∧ (0 ≤ n.toInt ∧ 0 ≤ dp.toInt ∧ 0 ≤ sp.toInt ∧ sp.toNatClampNeg + n.toNatClampNeg ≤ f.length ∧ dp.toNatClampNeg + n.toNatClampNeg ≤ g.length ∧ mi_low r = true) ∧ q = (r, mem.set a (20, mi_cpy f g sp.toNatClampNeg dp.toNatClampNeg n.toNatClampNeg)) := by
  unfold mi_acp at h
  split at h
  · obtain ⟨f, hf, h2⟩ := Option.bind_eq_some_iff.mp h
    obtain ⟨g, hg, h3⟩ := Option.bind_eq_some_iff.mp h2
    split at h3
    next hc => cases h3; exact ⟨_, _, _, _, _, _, f, g, rfl, mi_ld_inv hf, mi_ld_inv hg, hc, rfl⟩
    next => cases h3
  · cases h
theorem mi_nneg {z : Int32} (h : 0 ≤ z.toInt) : ¬ z < 0 := fun q => by
  have := Int32.lt_iff_toInt_lt.mp q
  simp at this
  omega
theorem mi_low_ad {ad : Nat → Nat} {r : List Value} (h : mi_low r = true) : ((r.map (mi_v ad)).map fun v => v.category).sum ≤ 8 := mi_low_ok h
section MIN
variable {p : Program} {l : Launch} {e : Env} {R : Room} {s : State} {m : MethodId} {args : Array Value} {below : List Frame} {meth : Method} {c : Code} {H : Heap} {locs : List Loc} {cells slots : Nat} {Q : State → Prop}
variable {pc t n0 m0 s0 d : Nat} {mem : mi_M} {la : Array Slot} {mq : mi_Mt} {sA : Nat → Nat} {sc : List Value} {D : va_G} {aT : Nat → ClassId}
theorem mi_sQs (C : mi_cx p s m args meth c t mq sA n0 sc D aT) (hh : mi_hd sA n0 sc D aT s mem H locs) (hb : m0 ≤ mem.length ∧ s0 ≤ mi_sl mem) (hla : la.size = mq.2.2.1) {k : Nat} {st : List Value} {q : List Value × mi_M} {x : Nat × Nat}
    (hx2 : mi_cqchk ((mq.2.2.2.2.1, k), x) = true) (h : (if x.1 = 1 then mi_mx st mem else if x.1 = 2 then mi_mn st mem else if x.1 = 3 then mi_acp st mem else none) = some q) (hd : decode (mi_bt mq) pc = .ok (.invokestatic k, 3))
    (hRr : d + 1 ≤ R.frames ∧ 64 * (d + 1) ≤ R.locals) (hR : q.2.length - m0 ≤ R.cells ∧ mi_sl q.2 - s0 ≤ R.slots)
    (kk : ∀ (H' : Heap) (locs' : List Loc), mi_hd sA n0 sc D aT s q.2 H' locs' → W p l e R s m args below meth c H' locs' (q.2.length - m0) (mi_sl q.2 - s0) Q (F0 m (pc + 3) la (q.1.map (mi_v (mi_ad sA n0))))) :
    W p l e R s m args below meth c H locs (mem.length - m0) (mi_sl mem - s0) Q (F0 m pc la (st.map (mi_v (mi_ad sA n0)))) := by
  obtain ⟨hmt, hx, hbc, hml, hown, hts, hbad, hK, hn0, hlocks, hini, hret, hout⟩ := C
  obtain ⟨hP, hS, hmi⟩ := id hh
  obtain ⟨-, -, hO, -, -, -⟩ := mi_mt_inv hmt
  have hD : va_D (fun q : Nat => n0 ≤ q) (mi_w (mi_ad sA n0) aT mem) := mi_w_D
  have hin : ∀ w, w ∈ lw_tbl → goodWord w = true → w.before args s = true := fun w a b => hts w (mi_all_of a b)
  unfold mi_cqchk at hx2
  try dsimp only at hx2
  rw [hO] at hx2
  try dsimp only at hx2
  have hloc : 64 ≤ R.locals := by have := hRr.2; omega
  have hfr : 1 ≤ R.frames := by have := hRr.1; omega
  split at h
  next h1 =>
    rw [h1] at hx2
    unfold mi_mx at h
    split at h
    · split at h
      next hl =>
        cases h
        exact va_mmax hx hbc (hml.trans hla.symm) hown (hin _ (mi_at_mem hx2) rfl) (hin _ (mi_at_mem mi_w_mx.1) rfl) (hin _ (mi_at_mem mi_w_mx.2.1) rfl) (hin _ (mi_at_mem mi_w_mx.2.2) rfl) hfr (by have := mi_low_ad (ad := mi_ad sA n0) hl; omega) hR.1 hR.2 hd (kk H locs hh)
      next => cases h
    · cases h
  next =>
    split at h
    next h1 =>
      rw [h1] at hx2
      unfold mi_mn at h
      split at h
      · split at h
        next hl =>
          cases h
          exact va_mmin hx hbc (hml.trans hla.symm) hown (hin _ (mi_at_mem hx2) rfl) (hin _ (mi_at_mem mi_w_mn.1) rfl) (hin _ (mi_at_mem mi_w_mx.2.1) rfl) (hin _ (mi_at_mem mi_w_mn.2) rfl) hfr (by have := mi_low_ad (ad := mi_ad sA n0) hl; omega) hR.1 hR.2 hd (kk H locs hh)
        next => cases h
      · cases h
    next =>
      split at h
      next h1 =>
        rw [h1] at hx2
        obtain ⟨n, dp, a, sp, a0, r, f, g, rfl, hf, hg, ⟨z1, z2, z3, z4, z5, z6⟩, rfl⟩ := mi_acp_inv h
        have h5 := mi_hi hmi.1 hg (by show 20 < 25; decide)
        have h50 := mi_hi hmi.1 hf (by show 20 < 25; decide)
        have he := mi_w_get (ad := mi_ad sA n0) (aT := aT) h5 hg
        have he0 := mi_w_get (ad := mi_ad sA n0) (aT := aT) h50 hf
        rw [mi_e_int] at he he0
        have hal : a < mem.length := (List.getElem?_eq_some_iff.mp hg).1
        have e1 : (mem.set a (20, mi_cpy f g sp.toNatClampNeg dp.toNatClampNeg n.toNatClampNeg)).length = mem.length := List.length_set
        have e2 : mi_sl (mem.set a (20, mi_cpy f g sp.toNatClampNeg dp.toNatClampNeg n.toNatClampNeg)) = mi_sl mem := mi_sl_set hg mi_cpy_len
        try dsimp only at kk hR
        rw [e1, e2] at kk
        refine va_copyi hx hbc (hml.trans hla.symm) hown (hin _ (mi_at_mem hx2) rfl) (hin _ (mi_at_mem mi_w_ac.2.1) rfl) (hin _ (mi_at_mem mi_w_ac.1) rfl) (hin _ (mi_at_mem mi_w_ac.2.2) rfl) hK hP hD hS (a0 - 5) (a - 5) 0 0 he0 he rfl rfl rfl (mi_nneg z3) (mi_nneg z2) (mi_nneg z1) z4 z5 (fun _ _ => rfl) hfr ?_ hd (fun H1 locs1 p1 _ p3 => kk H1 locs1 ⟨?_, p3, mi_inv_set hmi hg (by show 20 < 25; decide) rfl⟩)
        · have h6 := mi_low_ad (ad := mi_ad sA n0) z6
          have h7 : nativeFrameWords "java/lang/System" "arraycopy" 5 ≤ 40 := by decide
          omega
        · rw [mi_w_set h5 hal, mi_e_int, mi_I_cpy z5, mi_cpy_len]
          exact p1
      next => cases h
theorem mi_sQo (C : mi_cx p s m args meth c t mq sA n0 sc D aT) (hh : mi_hd sA n0 sc D aT s mem H locs) (hla : la.size = mq.2.2.1) {k : Nat} {st : List Value} {q : List Value × mi_M} {x : Nat × Nat}
    (hx2 : mi_cqchk ((mq.2.2.2.2.1, k), x) = true) (h4 : x.1 = 4) (h : mi_oi st mem = some q) (hd : decode (mi_bt mq) pc = .ok (.invokespecial k, 3))
    (hRr : d + 1 ≤ R.frames ∧ 64 * (d + 1) ≤ R.locals)
    (kk : ∀ (H' : Heap) (locs' : List Loc), mi_hd sA n0 sc D aT s q.2 H' locs' → W p l e R s m args below meth c H' locs' (q.2.length - m0) (mi_sl q.2 - s0) Q (F0 m (pc + 3) la (q.1.map (mi_v (mi_ad sA n0))))) :
    W p l e R s m args below meth c H locs (mem.length - m0) (mi_sl mem - s0) Q (F0 m pc la (st.map (mi_v (mi_ad sA n0)))) := by
  obtain ⟨hmt, hx, hbc, hml, hown, hts, hbad, hK, hn0, hlocks, hini, hret, hout⟩ := C
  obtain ⟨-, -, hO, -, -, -⟩ := mi_mt_inv hmt
  have hin : ∀ w, w ∈ lw_tbl → goodWord w = true → w.before args s = true := fun w a b => hts w (mi_all_of a b)
  unfold mi_cqchk at hx2
  try dsimp only at hx2
  rw [hO] at hx2
  try dsimp only at hx2
  rw [h4] at hx2
  unfold mi_oi at h
  split at h
  · split at h
    next hl =>
      cases h
      have h6 := mi_low_ad (ad := mi_ad sA n0) hl.1
      refine W.objInit hx hbc hown (hin _ (mi_at_mem hx2) rfl) (hin _ (mi_at_mem mi_w_oi.1) rfl) (hin _ (mi_at_mem mi_w_oi.2) rfl) rfl (hla.trans hml.symm) rfl hd (by have := hRr.1; omega) ?_ (kk H locs hh)
      have h7 := hRr.2
      show 2 * 0 + _ + 12 ≤ _
      omega
    next => cases h
  · cases h
end MIN
end
section
/-! MINI's runs are the JVM's -/
theorem mi_Z_gr {l : Launch} {sA : Nat → Nat} {n0 : Nat} {sc : List Value} {D : va_G} {aT : Nat → ClassId} {d : Nat} {f : mi_F} (hOk : mi_Ok l sA n0 sc D aT d f) {own : Nat} {i : Instr} {st : List Value} {mem : mi_M} {q : List Value × mi_M} (hm : mi_inv sc mem) (h : mi_Z f own i st mem = some q) : mi_gr sc mem q.2 := by
  have hcat : ∀ {t n : Nat} {q : List Value × mi_M}, mi_cat f t n st mem = some q → mi_gr sc mem q.2 := by
    intro t n q hq
    obtain ⟨b, r, x, -, -, -, hx, rfl⟩ := mi_cat_inv hq
    exact (hOk _ _ _ _ _ hx hm).1
  have hsat : ∀ {t n : Nat} {q : List Value × mi_M}, mi_sat f t n st mem = some q → mi_gr sc mem q.2 := by
    intro t n q hq
    obtain ⟨x, -, -, hx, rfl⟩ := mi_sat_inv hq
    exact (hOk _ _ _ _ _ hx hm).1
  unfold mi_Z at h
  split at h
  · unfold mi_Zv at h
    split at h
    · split at h
      · unfold mi_sio at h
        split at h
        · obtain ⟨cs, -, h2⟩ := Option.bind_eq_some_iff.mp h
          split at h2
          · cases h2; exact mi_gr_rf hm
          · cases h2
        · cases h
      · cases h
    · obtain ⟨n, -, h2⟩ := Option.bind_eq_some_iff.mp h
      unfold mi_cvt at h2
      split at h2
      · obtain ⟨c, -, h3⟩ := Option.bind_eq_some_iff.mp h2
        obtain ⟨t, -, h4⟩ := Option.bind_eq_some_iff.mp h3
        exact hcat h4
      · cases h2
  · unfold mi_Zs at h
    split at h
    · split at h
      · unfold mi_mx at h
        split at h
        · split at h
          · cases h; exact mi_gr_rf hm
          · cases h
        · cases h
      · split at h
        · unfold mi_mn at h
          split at h
          · split at h
            · cases h; exact mi_gr_rf hm
            · cases h
          · cases h
        · split at h
          · obtain ⟨n, dp, a, sp, a0, r, f, g, -, -, hg, -, rfl⟩ := mi_acp_inv h
            exact mi_gr_set hm hg (by show 20 < 25; decide) rfl mi_cpy_len
          · cases h
    · split at h
      · exact hsat h
      · obtain ⟨c, -, h2⟩ := Option.bind_eq_some_iff.mp h
        exact hsat h2
  · unfold mi_Zp at h
    split at h
    · split at h
      · unfold mi_oi at h
        split at h
        · split at h
          · cases h; exact mi_gr_rf hm
          · cases h
        · cases h
      · cases h
    · split at h
      · exact hcat h
      · split at h
        · exact hcat h
        · obtain ⟨c, -, h2⟩ := Option.bind_eq_some_iff.mp h
          unfold mi_csu at h2
          split at h2
          · obtain ⟨cc, -, h3⟩ := Option.bind_eq_some_iff.mp h2
            split at h3
            · exact hcat h3
            · cases h3
          · cases h2
  · cases h
theorem mi_one_gr {l : Launch} {sA : Nat → Nat} {n0 : Nat} {sc : List Value} {D : va_G} {aT : Nat → ClassId} {d : Nat} {f : mi_F} (hOk : mi_Ok l sA n0 sc D aT d f) {own pc : Nat} {ini : Bool} {i : Instr} {ls st : List Value} {mem : mi_M} {q : Nat × List Value × List Value × mi_M} (hm : mi_inv sc mem) (h : mi_one f own ini i pc ls st mem = some q) : mi_gr sc mem q.2.2.2 := by
  unfold mi_one at h
  split at h
  · cases h; exact mi_gr_rf hm
  · split at h
    · cases h; exact mi_gr_rf hm
    · split at h
      · cases h; exact mi_gr_rf hm
      · split at h
        next x hx => cases h; exact mi_Y_gr hm hx
        · obtain ⟨x, hx, rfl⟩ := Option.map_eq_some_iff.mp h
          exact mi_Z_gr hOk hm hx
theorem mi_go_gr {l : Launch} {sA : Nat → Nat} {n0 : Nat} {sc : List Value} {D : va_G} {aT : Nat → ClassId} {d : Nat} {f : mi_F} (hOk : mi_Ok l sA n0 sc D aT d f) {own : Nat} {ini rz : Bool} {code : List (Nat × Instr)} : ∀ (n pc : Nat) (ls st : List Value) (mem : mi_M) (q : Option Value × mi_M), mi_inv sc mem → mi_go f own ini rz code n pc ls st mem = some q → mi_gr sc mem q.2 := by
  intro n
  induction n with
  | zero => intro pc ls st mem q _ hq; cases hq
  | succ n ih =>
    intro pc ls st mem q hm hq
    unfold mi_go at hq
    obtain ⟨i, hi, h2⟩ := Option.bind_eq_some_iff.mp hq
    split at h2
    · cases h2; exact mi_gr_rf hm
    · obtain ⟨x, hx, h3⟩ := Option.bind_eq_some_iff.mp h2
      have g1 := mi_one_gr hOk hm hx
      exact mi_gr_tr g1 (ih _ _ _ _ _ g1.2.2 h3)
def mi_wsJ : List Jvm.Cond := Jvm.Cond.code yJ0_indexOf_0f7a4 cJ0_indexOf_0f7a4 2 (some .int) :: mi_all
def mi_txt (i : Nat) : List Value := match i with
  | 0 => []
  | 1 => [.int 108, .int 110, .int 98]
  | _ => [.int 108, .int 107, .int 116]
def mi_preS (ad : Nat → Nat) (n0 : Nat) (U : State) : Prop := mi_so ad (fun q : Nat => n0 ≤ q) U U.heap ∧ va_Z "java/lang/String" "COMPACT_STRINGS" "Z" (.int 1) (fun q : Nat => n0 ≤ q) U U.heap
/-- indexOf of the three texts -/
def mi_StrOk (l : Launch) (ad : Nat → Nat) (n0 : Nat) : Prop := ∀ (i : Nat) (c : Int32), i < 3 → Met l yJ0_indexOf_0f7a4 mi_wsJ (mi_rm 3 0 0) (va_Pc [.ref (ad (i + 1)), .int c] (mi_preS ad n0)) (vp_Si (fun r => r = mi_ixo c (mi_txt i) 0)) 0 0 (fun _ => False)
theorem mi_w_io : mi_at 615 (.instanceMethod yJ0_indexOf_0f7a4) = true ∧ mi_at 616 (.selects RJ0 yJ0_indexOf_0f7a4 yJ0_indexOf_0f7a4) = true ∧ mi_at 85 (.initialized RJ0) = true ∧ True := by decide +kernel
theorem mi_w_ioc : Jvm.Cond.code yJ0_indexOf_0f7a4 cJ0_indexOf_0f7a4 2 (some .int) ∈ lw_tbl := mi_at_mem (pl := 617) (by decide +kernel)
theorem mi_low31 {sc : List Value} {mem : mi_M} {a : Nat} {cs : List Value} (h : mi_inv sc mem) (hc : mem[a]? = some (31, cs)) : ∃ i, i < 3 ∧ a = i + 1 ∧ cs = mi_txt i := by
  have ha : a < 5 := Nat.not_le.mp fun z => by
    have h1 := h.2 a _ z hc
    simp at h1
  have h1 := mi_lo h.1 ha
  rw [hc] at h1
  rcases (by omega : a = 0 ∨ a = 1 ∨ a = 2 ∨ a = 3 ∨ a = 4) with rfl | rfl | rfl | rfl | rfl
  · simp [mi_spec] at h1
  · exact ⟨0, by omega, rfl, by simpa [mi_spec, mi_txt] using h1⟩
  · exact ⟨1, by omega, rfl, by simpa [mi_spec, mi_txt] using h1⟩
  · exact ⟨2, by omega, rfl, by simpa [mi_spec, mi_txt] using h1⟩
  · simp [mi_spec] at h1
/-- what leaves fits the method's type -/
theorem mi_rets : mi_mt.all (fun q => q.2.2.2.2.2.2.all (fun e => match e.2 with
  | .ireturn => decide (q.2.2.2.1 ≠ none)
  | .return_ => decide (q.2.2.2.1 = none)
  | _ => true)) = true := by decide +kernel
section MIG
variable {p : Program} {l : Launch} {e : Env} {R : Room} {s : State} {m : MethodId} {args : Array Value} {below : List Frame} {meth : Method} {c : Code} {H : Heap} {locs : List Loc} {cells slots : Nat} {Q : State → Prop}
variable {pc t n0 m0 s0 d : Nat} {mem : mi_M} {la : Array Slot} {mq : mi_Mt} {sA : Nat → Nat} {sc : List Value} {D : va_G} {aT : Nat → ClassId}
theorem mi_sQi (C : mi_cx p s m args meth c t mq sA n0 sc D aT) (hh : mi_hd sA n0 sc D aT s mem H locs) (hla : la.size = mq.2.2.1) (hstr : mi_StrOk l (mi_ad sA n0) n0) {k : Nat} {st : List Value} {q : List Value × mi_M} {x : Nat × Nat}
    (hx2 : mi_cqchk ((mq.2.2.2.2.1, k), x) = true) (h5 : x.1 = 5) (h : mi_sio st mem = some q) (hd : decode (mi_bt mq) pc = .ok (.invokevirtual k, 3))
    (hRr : 5 ≤ R.frames ∧ 64 * 5 ≤ R.locals) (hR : q.2.length - m0 ≤ R.cells ∧ mi_sl q.2 - s0 ≤ R.slots)
    (kk : ∀ (H' : Heap) (locs' : List Loc), mi_hd sA n0 sc D aT s q.2 H' locs' → W p l e R s m args below meth c H' locs' (q.2.length - m0) (mi_sl q.2 - s0) Q (F0 m (pc + 3) la (q.1.map (mi_v (mi_ad sA n0))))) :
    W p l e R s m args below meth c H locs (mem.length - m0) (mi_sl mem - s0) Q (F0 m pc la (st.map (mi_v (mi_ad sA n0)))) := by
  obtain ⟨hmt, hx, hbc, hml, hown, hts, hbad, hK, hn0, hlocks, hini, hret, hout⟩ := C
  obtain ⟨hP, hS, hmi⟩ := id hh
  obtain ⟨-, -, hO, -, -, -⟩ := mi_mt_inv hmt
  unfold mi_cqchk at hx2
  try dsimp only at hx2
  rw [hO] at hx2
  try dsimp only at hx2
  rw [h5] at hx2
  unfold mi_sio at h
  split at h
  · next cv a r =>
    obtain ⟨cs, hcs, h2⟩ := Option.bind_eq_some_iff.mp h
    split at h2
    next hl =>
      cases h2
      obtain ⟨i, hi, rfl, rfl⟩ := mi_low31 hmi (mi_ld_inv hcs)
      obtain ⟨adV, hE⟩ := hout.2.2.2.2.2.2.1
      have hcw := cwV (R := R) (s := s) (args := args) 1 hts (own := mq.1.cls) (index := k) (C := RJ0) (y := yJ0_indexOf_0f7a4) (bytes := cJ0_indexOf_0f7a4) (maxL := 2) (ret := some .int) (ws := mi_wsJ) (ws' := mi_all) (rm := mi_rm 3 0 0) (mc := 0) (ms := 0) (mi_goodIn (by
        intro z hz
        unfold wsV at hz
        rcases List.mem_append.mp hz with hz | hz
        · simp only [List.mem_cons, List.not_mem_nil, or_false] at hz
          rcases hz with rfl | rfl | rfl | rfl
          · exact mi_all_of (mi_at_mem hx2) rfl
          · exact mi_all_of (mi_at_mem mi_w_io.1) rfl
          · exact mi_all_of (mi_at_mem mi_w_io.2.1) rfl
          · exact mi_all_of (mi_at_mem mi_w_io.2.2.1) rfl
        · rcases List.mem_cons.mp hz with rfl | hz
          · exact mi_all_of mi_w_ioc rfl
          · exact hz)) rfl rfl rfl ⟨rfl, by decide +kernel, by decide +kernel, by decide +kernel⟩ ⟨Nat.le_trans (by decide) hRr.1, by show 8 + (2 + 11) + 64 * 3 ≤ R.locals; have := hRr.2; omega⟩
      have hrun := va_runV (l := l) (p := p) (e := e) (below := below) (meth := meth) (H := H) (locs := locs) (cells := mem.length - m0) (slots := mi_sl mem - s0) (g := F0 m pc la ((Value.int cv :: .ref (i + 1) :: r).map (mi_v (mi_ad sA n0)))) (b := mi_ad sA n0 (i + 1)) (As := [.int cv]) (rest := r.map (mi_v (mi_ad sA n0))) (⟨hx, hbc, hml, hown, hts⟩ : CallFix p m c (mi_bt mq) mq.2.2.1 s args mi_all mq.1.cls) (hstr i cv hi) hcw
        ⟨fun a U g mk z => ⟨z.1, z.2⟩, vk_recv (adK := fun i => mi_ad sA n0 (i + 1)) (i := i) hE hi hS, fun U hU hW => ⟨rfl, ⟨adV, by rw [hU]; exact (hE.moved hW.alike).kept hS.2.1⟩, by rw [hU]; exact (hout.2.2.2.2.2.2.2.moved hW.alike).kept hS.2.1⟩⟩ rfl rfl hla rfl (lv_room (mi_low_ok hl)) hd ⟨hR.1, hR.2⟩
      intro T hT X
      obtain ⟨v, st₀, t, T', L, h0, X', hL, e1, e2, ⟨r0, hv, hr0, hh1⟩, stp⟩ := hrun T hT X
      cases hv
      subst hr0
      have hl0 : L = [] := by
        cases L with
        | nil => rfl
        | cons y L => exact (hL y List.mem_cons_self).elim
      subst hl0
      rw [List.append_nil] at X'
      obtain ⟨t2, a1, b1⟩ := kk H locs hh T' (by rw [e1, hh1, h0]) X'
      exact ⟨t2, stp t2 a1, b1⟩
    next => cases h2
  · cases h
theorem mi_sZ {f : mi_F} (C : mi_cx p s m args meth c t mq sA n0 sc D aT) (hh : mi_hd sA n0 sc D aT s mem H locs) (hm0 : 5 ≤ m0 ∧ s.heap.size = n0 + (m0 - 5)) (hb : m0 ≤ mem.length ∧ s0 ≤ mi_sl mem) (hla : la.size = mq.2.2.1) (hOk : mi_Ok l sA n0 sc D aT d f) (hdep : (f 1000 [] []).isSome = true → 4 ≤ d) (hstr : mi_StrOk l (mi_ad sA n0) n0) {i : Instr} {st : List Value} {q : List Value × mi_M}
    (h : mi_Z f mq.2.2.2.2.1 i st mem = some q) (hd : decode (mi_bt mq) pc = .ok (i, 3))
    (hRr : d + 1 ≤ R.frames ∧ 64 * (d + 1) ≤ R.locals) (hR : q.2.length - m0 ≤ R.cells ∧ mi_sl q.2 - s0 ≤ R.slots)
    (kk : ∀ (H' : Heap) (locs' : List Loc), mi_hd sA n0 sc D aT s q.2 H' locs' → W p l e R s m args below meth c H' locs' (q.2.length - m0) (mi_sl q.2 - s0) Q (F0 m (pc + 3) la (q.1.map (mi_v (mi_ad sA n0))))) :
    W p l e R s m args below meth c H locs (mem.length - m0) (mi_sl mem - s0) Q (F0 m pc la (st.map (mi_v (mi_ad sA n0)))) := by
  unfold mi_Z at h
  split at h
  · unfold mi_Zv at h
    split at h
    next x hx2 =>
      split at h
      next h5 =>
        have hx3 := List.all_eq_true.mp mi_cq_ok _ (mi_look hx2)
        have hd4 := hdep h5.2
        exact mi_sQi C hh hla hstr hx3 h5.1 h hd (by omega) hR kk
      · cases h
    next =>
      obtain ⟨n, hn, h2⟩ := Option.bind_eq_some_iff.mp h
      unfold mi_cvt at h2
      split at h2
      next b hst =>
        obtain ⟨cc, hcc, h3⟩ := Option.bind_eq_some_iff.mp h2
        obtain ⟨t', ht', h4⟩ := Option.bind_eq_some_iff.mp h3
        exact mi_sV (fs := cc.2) (ci := cc.1) C hh hm0 hb hla hOk hn hst hcc ht' h4 hd hRr hR kk
      · cases h2
  · unfold mi_Zs at h
    split at h
    next x hx2 => exact mi_sQs C hh hb hla (List.all_eq_true.mp mi_cq_ok _ (mi_look hx2)) h hd hRr hR kk
    next =>
      split at h
      next x hx2 => exact mi_sS C hh hm0 hb hla hOk (List.all_eq_true.mp mi_cs_ok _ (mi_look hx2)) h hd hRr hR kk
      next =>
        obtain ⟨x, hx2, h2⟩ := Option.bind_eq_some_iff.mp h
        exact mi_sS C hh hm0 hb hla hOk (List.all_eq_true.mp mi_cn_ok _ (mi_look hx2)) h2 hd hRr hR kk
  · unfold mi_Zp at h
    split at h
    next x hx2 =>
      split at h
      next h4 => exact mi_sQo C hh hla (List.all_eq_true.mp mi_cq_ok _ (mi_look hx2)) h4 h hd hRr kk
      · cases h
    next =>
      split at h
      next x hx2 => exact mi_sI C hh hm0 hb hla hOk (List.all_eq_true.mp mi_ci_ok _ (mi_look hx2)) h hd hRr hR kk
      next =>
        split at h
        next x hx2 => exact mi_sI C hh hm0 hb hla hOk (List.all_eq_true.mp mi_cj_ok _ (mi_look hx2)) h hd hRr hR kk
        next =>
          obtain ⟨x, hx2, h2⟩ := Option.bind_eq_some_iff.mp h
          unfold mi_csu at h2
          split at h2
          next b hst =>
            obtain ⟨cc, hcc, h3⟩ := Option.bind_eq_some_iff.mp h2
            split at h3
            next h13 =>
              refine mi_sU (ci := cc.1) (fs := cc.2) C hh hm0 hb hla hOk (List.all_eq_true.mp mi_cz_ok _ (mi_look hx2)) h3 hd (fun b' hb' => ?_) hRr hR kk
              rw [hst] at hb'
              cases hb'
              exact ⟨cc.1, cc.2, hcc, h13⟩
            · cases h3
          · cases h2
  · cases h
/-- a method's run, from any of its places, to the place where it leaves -/
theorem mi_go_sound {f : mi_F} (C : mi_cx p s m args meth c t mq sA n0 sc D aT) (hm0 : 5 ≤ m0 ∧ s.heap.size = n0 + (m0 - 5)) (hOk : mi_Ok l sA n0 sc D aT d f) (hdep : (f 1000 [] []).isSome = true → 4 ≤ d) (hstr : mi_StrOk l (mi_ad sA n0) n0) {rz : Bool} {r : Option Value} {mem' : mi_M}
    (hRr : d + 1 ≤ R.frames ∧ 64 * (d + 1) ≤ R.locals) (hR : mem'.length - m0 ≤ R.cells ∧ mi_sl mem' - s0 ≤ R.slots)
    (hend : ∀ (H : Heap) (locs : List Loc) (la : Array Slot) (pc : Nat) (i : Instr) (st : List Value), mi_ret rz i st = some r → mq.2.2.2.2.2.2.lookup pc = some i → decode (mi_bt mq) pc = .ok (i, 1) → mi_hd sA n0 sc D aT s mem' H locs → W p l e R s m args below meth c H locs (mem'.length - m0) (mi_sl mem' - s0) Q (F0 m pc la (st.map (mi_v (mi_ad sA n0))))) :
    ∀ (n pc : Nat) (ls st : List Value) (mem : mi_M) (H : Heap) (locs : List Loc) (la : Array Slot), mi_go f mq.2.2.2.2.1 (mi_ii.contains t) rz mq.2.2.2.2.2.2 n pc ls st mem = some (r, mem') → mi_has (mi_ad sA n0) mq.2.2.1 la ls → mi_hd sA n0 sc D aT s mem H locs → m0 ≤ mem.length ∧ s0 ≤ mi_sl mem →
      W p l e R s m args below meth c H locs (mem.length - m0) (mi_sl mem - s0) Q (F0 m pc la (st.map (mi_v (mi_ad sA n0)))) := by
  intro n
  induction n with
  | zero => intro pc ls st mem H locs la hq; cases hq
  | succ n ih =>
    intro pc ls st mem H locs la hq hla hh hb
    have hq0 := hq
    unfold mi_go at hq
    obtain ⟨i, hi, h2⟩ := Option.bind_eq_some_iff.mp hq
    obtain ⟨len, hd, hlen⟩ := mi_dec_inv C.1 hi
    obtain ⟨-, hx, hbc, hrest⟩ := id C
    split at h2
    next rr hrr =>
      cases h2
      have h1 : decode (mi_bt mq) pc = .ok (i, 1) := by
        have hl1 : mi_len i = 1 := by
          unfold mi_ret at hrr
          split at hrr
          · rfl
          · rfl
          · cases hrr
        rcases hlen with hz | hz
        · omega
        · rw [← hz, hl1] at hd; exact hd
      exact hend H locs la pc i st hrr hi h1 hh
    next =>
      obtain ⟨q, hq1, h3⟩ := Option.bind_eq_some_iff.mp h2
      have g1 := mi_one_gr hOk hh.2.2 hq1
      have g2 := mi_go_gr hOk _ _ _ _ _ _ g1.2.2 h3
      dsimp only at g2
      have e1 := g1.1
      have e2 := g1.2.1
      have e3 := g2.1
      have e4 := g2.2.1
      have hbq : m0 ≤ q.2.2.2.length ∧ s0 ≤ mi_sl q.2.2.2 := by omega
      have hRq : q.2.2.2.length - m0 ≤ R.cells ∧ mi_sl q.2.2.2 - s0 ≤ R.slots := by omega
      have hdl : mi_len i ≠ 0 → decode (mi_bt mq) pc = .ok (i, mi_len i) := by
        intro hz
        rw [hlen.resolve_left hz]
        exact hd
      unfold mi_one at hq1
      split at hq1
      next st' hst' =>
        cases hq1
        refine mi_sA hx hbc hst' (hdl ?_) (ih _ _ _ _ _ _ _ h3 hla hh hb)
        intro hz
        unfold mi_A at hst'
        split at hst' <;> first | (cases hz; done) | cases hst'
      next =>
        split at hq1
        next q' hq' =>
          cases hq1
          exact mi_sB hx hbc hq' hd hlen (ih _ _ _ _ _ _ _ h3 hla hh hb)
        next =>
          split at hq1
          next q' hq' =>
            cases hq1
            refine mi_sL hx hbc hla hq' (hdl ?_) (fun la' hla' => ih _ _ _ _ _ _ _ h3 hla' hh hb)
            intro hz
            unfold mi_L at hq'
            split at hq' <;> first | (cases hz; done) | cases hq'
          next =>
            split at hq1
            next q' hq' =>
              cases hq1
              refine mi_sY C hh hm0 hb hq' (hdl ?_) hRq (fun H' locs' hh' => ih _ _ _ _ _ _ _ h3 hla hh' hbq)
              intro hz
              unfold mi_Y at hq'
              split at hq' <;> first | (cases hz; done) | cases hq'
            next =>
              obtain ⟨q', hq', rfl⟩ := Option.map_eq_some_iff.mp hq1
              have h33 : mi_len i = 3 := by
                unfold mi_Z at hq'
                split at hq' <;> first | rfl | cases hq'
              have hd3 := hdl (by omega)
              rw [h33] at hd3
              exact mi_sZ C hh hm0 hb hla.2.1 hOk hdep hstr hq' hd3 hRr hRq (fun H' locs' hh' => ih _ _ _ _ _ _ _ h3 hla hh' hbq)
end MIG
/-! entries -/
theorem mi_args_sl {ad : Nat → Nat} : ∀ as : List Value, (lg_sl (as.map (mi_v ad))).length = (mi_args as).length := by
  intro as
  induction as with
  | nil => rfl
  | cons v as ih =>
    unfold lg_sl at ih ⊢
    have e : mi_args (v :: as) = if v.category = 2 then v :: .null :: mi_args as else v :: mi_args as := rfl
    rw [List.map_cons, List.flatMap_cons, List.length_append, ih, e, mi_v_cat]
    split
    · simp only [List.length_cons, List.length_nil]; omega
    · simp only [List.length_cons, List.length_nil]; omega
theorem mi_args_mem {ad : Nat → Nat} : ∀ (as : List Value) (i k : Nat) (v : Value), (mi_args as)[k]? = some v → v ≠ .null → (k + i, mi_v ad v) ∈ lv_args i (as.map (mi_v ad)) := by
  intro as
  induction as with
  | nil => intro i k v h _; simp [mi_args] at h
  | cons w as ih =>
    intro i k v h hn
    unfold mi_args at h
    rw [List.map_cons]
    unfold lv_args
    rw [mi_v_cat]
    split at h
    next hc =>
      rw [if_pos hc]
      match k, h with
      | 0, h => cases h; rw [Nat.zero_add]; exact List.mem_cons_self
      | 1, h => cases h; exact absurd rfl hn
      | k + 2, h =>
        have h1 := ih (i + 2) k v h hn
        rw [show k + 2 + i = k + (i + 2) by omega]
        exact List.mem_cons_of_mem _ h1
    next hc =>
      rw [if_neg hc]
      match k, h with
      | 0, h => cases h; rw [Nat.zero_add]; exact List.mem_cons_self
      | k + 1, h =>
        have h1 := ih (i + 1) k v h hn
        rw [show k + 1 + i = k + (i + 1) by omega]
        exact List.mem_cons_of_mem _ h1
theorem mi_entry {ad : Nat → Nat} {as : List Value} {n : Nat} (h : (mi_args as).length ≤ n) : mi_has ad n ((lg_sl (as.map (mi_v ad)) ++ List.replicate (n - (lg_sl (as.map (mi_v ad))).length) Slot.unset).toArray) (mi_ent as n) := by
  have h0 := lv_entry (as.map (mi_v ad)) (n := n) (by rw [mi_args_sl]; exact h)
  refine ⟨by unfold mi_ent; rw [List.length_append, List.length_replicate]; omega, h0.1, h0.2.1, fun q hq => h0.2.2 q ?_⟩
  obtain ⟨v, hv, hn, h2⟩ := mi_lv_mem.mp hq
  obtain ⟨k, z⟩ := q
  unfold mi_ent at hv
  by_cases hk : k < (mi_args as).length
  · rw [List.getElem?_append_left hk] at hv
    have h1 := mi_args_mem (ad := ad) as 0 k v hv hn
    rw [Nat.add_zero] at h1
    rw [show z = mi_v ad v from h2]
    exact h1
  · rw [List.getElem?_append_right (by omega)] at hv
    exact absurd (List.eq_of_mem_replicate (List.mem_of_getElem? hv)) hn
set_option maxHeartbeats 4000000 in
/-- every run of Mini's is a contract -/
theorem mi_run_ok {l : Launch} {sA : Nat → Nat} {n0 : Nat} {sc : List Value} {D : va_G} {aT : Nat → ClassId} (hstr : mi_StrOk l (mi_ad sA n0) n0) (N : Nat) : ∀ d, mi_Ok l sA n0 sc D aT d (mi_run N d) := by
  intro d
  induction d with
  | zero => intro t as mem r mem' h _; cases h
  | succ d ih =>
    intro t as mem r mem' h hm
    have hdep : (mi_run N d 1000 [] []).isSome = true → 4 ≤ d := by
      intro hs
      cases d with
      | zero => cases hs
      | succ d =>
        simp only [mi_run, if_true] at hs
        split at hs
        · omega
        · cases hs
    simp only [mi_run] at h
    split at h
    next ht =>
      split at h
      · cases h
        refine ⟨mi_gr_rf hm, fun q hq => ?_⟩
        rw [ht] at hq
        rw [show mi_mt[1000]? = none by decide +kernel] at hq
        cases hq
      · cases h
    next ht =>
      obtain ⟨mq, hmq, h2⟩ := Option.bind_eq_some_iff.mp h
      split at h2
      · cases h2
      next hfit =>
        refine ⟨mi_go_gr ih _ _ _ _ _ _ hm h2, fun q hq hpl => ?_⟩
        obtain rfl : mq = q := Option.some.inj (hmq.symm.trans hq)
        obtain ⟨hplain, h40, hO, hrt, hcode, hinm⟩ := mi_mt_inv hmq
        refine Met.ofW (cc := mi_bt mq) (maxL := mq.2.2.1) (ret := mq.2.2.2.1) hplain rfl ?_
        intro p e s m args below meth c s₁ B hml hv
        obtain ⟨rfl, hsz, hP, hK, hbad, hout⟩ := hv
        have hts0 := atoms_spec (ws := mi_ws mq) B.pre
        have hn0 : n0 ≤ s.heap.size := by omega
        have C : mi_cx p s m (as.map (mi_v (mi_ad sA n0))).toArray meth c t mq sA n0 sc D aT := ⟨hmq, B.exec, B.bytes, hml, findClass_of_methodNamed B.named, fun w hw => hts0 w (List.mem_cons_of_mem _ hw), hbad, hK, hn0, B.notSynchronized, fun hi => (name_of_methodNamed B.named B.method).1.trans (hinm hi), B.returns, hout⟩
        have hlocks := B.notSynchronized
        have hh : mi_hd sA n0 sc D aT s mem s.heap [] := ⟨hP, va_S.rf, hm⟩
        have hlen5 := mi_len5 hm.1
        rw [lg_entry_eq]
        have hgo := mi_go_sound (R := mi_rm (d + 1) (mem'.length - mem.length) (mi_sl mem' - mi_sl mem)) (l := l) (e := e) (below := below) (Q := MQ below (mi_post sA n0 D aT r mem') (as.map (mi_v (mi_ad sA n0))).toArray s (mem'.length - mem.length) (mi_sl mem' - mi_sl mem) (fun q : Nat => n0 ≤ q)) (m0 := mem.length) (s0 := mi_sl mem) (r := r) (mem' := mem') (rz := decide (mq.2.2.2.1 = some .boolean)) C ⟨hlen5, hsz⟩ ih hdep hstr ⟨Nat.le_refl _, Nat.le_refl _⟩ ⟨Nat.le_refl _, Nat.le_refl _⟩ (by
          intro H locs la pc i st hrr hi hd hh'
          have hret := B.returns
          have hx := B.exec
          have hbc := B.bytes
          have hkind := List.all_eq_true.mp (List.all_eq_true.mp mi_rets mq (List.mem_of_getElem? hmq)) _ (mi_look hi)
          unfold mi_ret at hrr
          split at hrr
          · split at hrr
            next v =>
              split at hrr
              next hz =>
                cases hrr
                have hne : mq.2.2.2.1 ≠ none := of_decide_eq_true hkind
                rcases hrt with hrt | hrt | hrt
                · exact absurd hrt hne
                · rw [hrt] at hret
                  exact W.iret (v := v) hx hbc hret (fun t ht hW => ⟨⟨rfl, by rw [ht]; exact hh'.1⟩, hh'.2.1.F ht⟩) hh'.2.1.2.2 hd
                · rw [hrt] at hret
                  have hv := hz (by rw [hrt]; rfl)
                  exact W.zret (v := v) hx hbc hret (by rcases hv with rfl | rfl <;> rfl) (fun t ht hW => ⟨⟨rfl, by rw [ht]; exact hh'.1⟩, hh'.2.1.F ht⟩) hh'.2.1.2.2 hd
              · cases hrr
            · cases hrr
          · split at hrr
            · cases hrr
              have hne : mq.2.2.2.1 = none := of_decide_eq_true hkind
              rw [hne] at hret
              exact W.vret hx hbc hret (fun t ht hW => ⟨⟨rfl, by rw [ht]; exact hh'.1⟩, hh'.2.1.F ht⟩) hh'.2.1.2.2 hd
            · cases hrr
          · cases hrr) N 0 (mi_ent as mq.2.2.1) [] mem s.heap [] _ h2 (mi_entry (by omega)) hh ⟨Nat.le_refl _, Nat.le_refl _⟩
        rw [Nat.sub_self, Nat.sub_self] at hgo
        exact hgo
end
section
/-! String.indexOf of the three texts: the JDK's own methods, by hand over the kit's rows -/
theorem ms_dJ0_length_8abf5_0 : decode cJ0_length_8abf5 0 = .ok (.aload_n 0, 1) := by decide +kernel
theorem ms_dJ0_length_8abf5_1 : decode cJ0_length_8abf5 1 = .ok (.getfield 9, 3) := by decide +kernel
theorem ms_dJ0_length_8abf5_4 : decode cJ0_length_8abf5 4 = .ok (.arraylength, 1) := by decide +kernel
theorem ms_dJ0_length_8abf5_5 : decode cJ0_length_8abf5 5 = .ok (.aload_n 0, 1) := by decide +kernel
theorem ms_dJ0_length_8abf5_6 : decode cJ0_length_8abf5 6 = .ok (.invokevirtual 335, 3) := by decide +kernel
theorem ms_dJ0_length_8abf5_9 : decode cJ0_length_8abf5 9 = .ok (.ishr, 1) := by decide +kernel
theorem ms_dJ0_length_8abf5_10 : decode cJ0_length_8abf5 10 = .ok (.ireturn, 1) := by decide +kernel
theorem ms_dJ0_indexOf_0f7a4_0 : decode cJ0_indexOf_0f7a4 0 = .ok (.aload_n 0, 1) := by decide +kernel
theorem ms_dJ0_indexOf_0f7a4_1 : decode cJ0_indexOf_0f7a4 1 = .ok (.iload_n 1, 1) := by decide +kernel
theorem ms_dJ0_indexOf_0f7a4_2 : decode cJ0_indexOf_0f7a4 2 = .ok (.iconst 0, 1) := by decide +kernel
theorem ms_dJ0_indexOf_0f7a4_3 : decode cJ0_indexOf_0f7a4 3 = .ok (.invokevirtual 633, 3) := by decide +kernel
theorem ms_dJ0_indexOf_0f7a4_6 : decode cJ0_indexOf_0f7a4 6 = .ok (.ireturn, 1) := by decide +kernel
theorem ms_dJ0_indexOf_7cf53_0 : decode cJ0_indexOf_7cf53 0 = .ok (.aload_n 0, 1) := by decide +kernel
theorem ms_dJ0_indexOf_7cf53_1 : decode cJ0_indexOf_7cf53 1 = .ok (.invokevirtual 492, 3) := by decide +kernel
theorem ms_dJ0_indexOf_7cf53_4 : decode cJ0_indexOf_7cf53 4 = .ok (.ifCond .eq 19, 3) := by decide +kernel
theorem ms_dJ0_indexOf_7cf53_7 : decode cJ0_indexOf_7cf53 7 = .ok (.aload_n 0, 1) := by decide +kernel
theorem ms_dJ0_indexOf_7cf53_8 : decode cJ0_indexOf_7cf53 8 = .ok (.getfield 9, 3) := by decide +kernel
theorem ms_dJ0_indexOf_7cf53_11 : decode cJ0_indexOf_7cf53 11 = .ok (.iload_n 1, 1) := by decide +kernel
theorem ms_dJ0_indexOf_7cf53_12 : decode cJ0_indexOf_7cf53 12 = .ok (.iload_n 2, 1) := by decide +kernel
theorem ms_dJ0_indexOf_7cf53_13 : decode cJ0_indexOf_7cf53 13 = .ok (.aload_n 0, 1) := by decide +kernel
theorem ms_dJ0_indexOf_7cf53_14 : decode cJ0_indexOf_7cf53 14 = .ok (.invokevirtual 505, 3) := by decide +kernel
theorem ms_dJ0_indexOf_7cf53_17 : decode cJ0_indexOf_7cf53 17 = .ok (.invokestatic 637, 3) := by decide +kernel
theorem ms_dJ0_indexOf_7cf53_20 : decode cJ0_indexOf_7cf53 20 = .ok (.goto 16, 3) := by decide +kernel
theorem ms_dJ0_indexOf_7cf53_23 : decode cJ0_indexOf_7cf53 23 = .ok (.aload_n 0, 1) := by decide +kernel
theorem ms_dJ0_indexOf_7cf53_24 : decode cJ0_indexOf_7cf53 24 = .ok (.getfield 9, 3) := by decide +kernel
theorem ms_dJ0_indexOf_7cf53_27 : decode cJ0_indexOf_7cf53 27 = .ok (.iload_n 1, 1) := by decide +kernel
theorem ms_dJ0_indexOf_7cf53_28 : decode cJ0_indexOf_7cf53 28 = .ok (.iload_n 2, 1) := by decide +kernel
theorem ms_dJ0_indexOf_7cf53_29 : decode cJ0_indexOf_7cf53 29 = .ok (.aload_n 0, 1) := by decide +kernel
theorem ms_dJ0_indexOf_7cf53_30 : decode cJ0_indexOf_7cf53 30 = .ok (.invokevirtual 505, 3) := by decide +kernel
theorem ms_dJ0_indexOf_7cf53_33 : decode cJ0_indexOf_7cf53 33 = .ok (.invokestatic 640, 3) := by decide +kernel
theorem ms_dJ0_indexOf_7cf53_36 : decode cJ0_indexOf_7cf53 36 = .ok (.ireturn, 1) := by decide +kernel
theorem ms_dJ0_coder_7d493_0 : decode cJ0_coder_7d493 0 = .ok (.getstatic 38, 3) := by decide +kernel
theorem ms_dJ0_coder_7d493_3 : decode cJ0_coder_7d493 3 = .ok (.ifCond .eq 10, 3) := by decide +kernel
theorem ms_dJ0_coder_7d493_6 : decode cJ0_coder_7d493 6 = .ok (.aload_n 0, 1) := by decide +kernel
theorem ms_dJ0_coder_7d493_7 : decode cJ0_coder_7d493 7 = .ok (.getfield 15, 3) := by decide +kernel
theorem ms_dJ0_coder_7d493_10 : decode cJ0_coder_7d493 10 = .ok (.goto 4, 3) := by decide +kernel
theorem ms_dJ0_coder_7d493_13 : decode cJ0_coder_7d493 13 = .ok (.iconst 1, 1) := by decide +kernel
theorem ms_dJ0_coder_7d493_14 : decode cJ0_coder_7d493 14 = .ok (.ireturn, 1) := by decide +kernel
theorem ms_dJ0_isLatin1_aae02_0 : decode cJ0_isLatin1_aae02 0 = .ok (.getstatic 38, 3) := by decide +kernel
theorem ms_dJ0_isLatin1_aae02_3 : decode cJ0_isLatin1_aae02 3 = .ok (.ifCond .eq 14, 3) := by decide +kernel
theorem ms_dJ0_isLatin1_aae02_6 : decode cJ0_isLatin1_aae02 6 = .ok (.aload_n 0, 1) := by decide +kernel
theorem ms_dJ0_isLatin1_aae02_7 : decode cJ0_isLatin1_aae02 7 = .ok (.getfield 15, 3) := by decide +kernel
theorem ms_dJ0_isLatin1_aae02_10 : decode cJ0_isLatin1_aae02 10 = .ok (.ifCond .ne 7, 3) := by decide +kernel
theorem ms_dJ0_isLatin1_aae02_13 : decode cJ0_isLatin1_aae02 13 = .ok (.iconst 1, 1) := by decide +kernel
theorem ms_dJ0_isLatin1_aae02_14 : decode cJ0_isLatin1_aae02 14 = .ok (.goto 4, 3) := by decide +kernel
theorem ms_dJ0_isLatin1_aae02_17 : decode cJ0_isLatin1_aae02 17 = .ok (.iconst 0, 1) := by decide +kernel
theorem ms_dJ0_isLatin1_aae02_18 : decode cJ0_isLatin1_aae02 18 = .ok (.ireturn, 1) := by decide +kernel
theorem ms_dJ1_canEncode_9a6ad_0 : decode cJ1_canEncode_9a6ad 0 = .ok (.iload_n 0, 1) := by decide +kernel
theorem ms_dJ1_canEncode_9a6ad_1 : decode cJ1_canEncode_9a6ad 1 = .ok (.ifCond .lt 14, 3) := by decide +kernel
theorem ms_dJ1_canEncode_9a6ad_4 : decode cJ1_canEncode_9a6ad 4 = .ok (.iload_n 0, 1) := by decide +kernel
theorem ms_dJ1_canEncode_9a6ad_5 : decode cJ1_canEncode_9a6ad 5 = .ok (.sipush 255, 3) := by decide +kernel
theorem ms_dJ1_canEncode_9a6ad_8 : decode cJ1_canEncode_9a6ad 8 = .ok (.if_icmp .gt 7, 3) := by decide +kernel
theorem ms_dJ1_canEncode_9a6ad_11 : decode cJ1_canEncode_9a6ad 11 = .ok (.iconst 1, 1) := by decide +kernel
theorem ms_dJ1_canEncode_9a6ad_12 : decode cJ1_canEncode_9a6ad 12 = .ok (.goto 4, 3) := by decide +kernel
theorem ms_dJ1_canEncode_9a6ad_15 : decode cJ1_canEncode_9a6ad 15 = .ok (.iconst 0, 1) := by decide +kernel
theorem ms_dJ1_canEncode_9a6ad_16 : decode cJ1_canEncode_9a6ad 16 = .ok (.ireturn, 1) := by decide +kernel
theorem ms_dJ1_indexOf_4cfef_0 : decode cJ1_indexOf_4cfef 0 = .ok (.iload_n 1, 1) := by decide +kernel
theorem ms_dJ1_indexOf_4cfef_1 : decode cJ1_indexOf_4cfef 1 = .ok (.invokestatic 88, 3) := by decide +kernel
theorem ms_dJ1_indexOf_4cfef_4 : decode cJ1_indexOf_4cfef 4 = .ok (.ifCond .ne 5, 3) := by decide +kernel
theorem ms_dJ1_indexOf_4cfef_7 : decode cJ1_indexOf_4cfef 7 = .ok (.iconst (-1), 1) := by decide +kernel
theorem ms_dJ1_indexOf_4cfef_8 : decode cJ1_indexOf_4cfef 8 = .ok (.ireturn, 1) := by decide +kernel
theorem ms_dJ1_indexOf_4cfef_9 : decode cJ1_indexOf_4cfef 9 = .ok (.iload_n 2, 1) := by decide +kernel
theorem ms_dJ1_indexOf_4cfef_10 : decode cJ1_indexOf_4cfef 10 = .ok (.iconst 0, 1) := by decide +kernel
theorem ms_dJ1_indexOf_4cfef_11 : decode cJ1_indexOf_4cfef 11 = .ok (.invokestatic 92, 3) := by decide +kernel
theorem ms_dJ1_indexOf_4cfef_14 : decode cJ1_indexOf_4cfef 14 = .ok (.istore_n 2, 1) := by decide +kernel
theorem ms_dJ1_indexOf_4cfef_15 : decode cJ1_indexOf_4cfef 15 = .ok (.iload_n 3, 1) := by decide +kernel
theorem ms_dJ1_indexOf_4cfef_16 : decode cJ1_indexOf_4cfef 16 = .ok (.aload_n 0, 1) := by decide +kernel
theorem ms_dJ1_indexOf_4cfef_17 : decode cJ1_indexOf_4cfef 17 = .ok (.arraylength, 1) := by decide +kernel
theorem ms_dJ1_indexOf_4cfef_18 : decode cJ1_indexOf_4cfef 18 = .ok (.invokestatic 38, 3) := by decide +kernel
theorem ms_dJ1_indexOf_4cfef_21 : decode cJ1_indexOf_4cfef 21 = .ok (.istore_n 3, 1) := by decide +kernel
theorem ms_dJ1_indexOf_4cfef_22 : decode cJ1_indexOf_4cfef 22 = .ok (.iload_n 2, 1) := by decide +kernel
theorem ms_dJ1_indexOf_4cfef_23 : decode cJ1_indexOf_4cfef 23 = .ok (.iload_n 3, 1) := by decide +kernel
theorem ms_dJ1_indexOf_4cfef_24 : decode cJ1_indexOf_4cfef 24 = .ok (.if_icmp .lt 5, 3) := by decide +kernel
theorem ms_dJ1_indexOf_4cfef_27 : decode cJ1_indexOf_4cfef 27 = .ok (.iconst (-1), 1) := by decide +kernel
theorem ms_dJ1_indexOf_4cfef_28 : decode cJ1_indexOf_4cfef 28 = .ok (.ireturn, 1) := by decide +kernel
theorem ms_dJ1_indexOf_4cfef_29 : decode cJ1_indexOf_4cfef 29 = .ok (.aload_n 0, 1) := by decide +kernel
theorem ms_dJ1_indexOf_4cfef_30 : decode cJ1_indexOf_4cfef 30 = .ok (.iload_n 1, 1) := by decide +kernel
theorem ms_dJ1_indexOf_4cfef_31 : decode cJ1_indexOf_4cfef 31 = .ok (.iload_n 2, 1) := by decide +kernel
theorem ms_dJ1_indexOf_4cfef_32 : decode cJ1_indexOf_4cfef 32 = .ok (.iload_n 3, 1) := by decide +kernel
theorem ms_dJ1_indexOf_4cfef_33 : decode cJ1_indexOf_4cfef 33 = .ok (.invokestatic 95, 3) := by decide +kernel
theorem ms_dJ1_indexOf_4cfef_36 : decode cJ1_indexOf_4cfef 36 = .ok (.ireturn, 1) := by decide +kernel
theorem ms_dJ1_indexOfChar_4cfef_0 : decode cJ1_indexOfChar_4cfef 0 = .ok (.iload_n 1, 1) := by decide +kernel
theorem ms_dJ1_indexOfChar_4cfef_1 : decode cJ1_indexOfChar_4cfef 1 = .ok (.i2b, 1) := by decide +kernel
theorem ms_dJ1_indexOfChar_4cfef_2 : decode cJ1_indexOfChar_4cfef 2 = .ok (.istore 4, 2) := by decide +kernel
theorem ms_dJ1_indexOfChar_4cfef_4 : decode cJ1_indexOfChar_4cfef 4 = .ok (.iload_n 2, 1) := by decide +kernel
theorem ms_dJ1_indexOfChar_4cfef_5 : decode cJ1_indexOfChar_4cfef 5 = .ok (.istore 5, 2) := by decide +kernel
theorem ms_dJ1_indexOfChar_4cfef_7 : decode cJ1_indexOfChar_4cfef 7 = .ok (.iload 5, 2) := by decide +kernel
theorem ms_dJ1_indexOfChar_4cfef_9 : decode cJ1_indexOfChar_4cfef 9 = .ok (.iload_n 3, 1) := by decide +kernel
theorem ms_dJ1_indexOfChar_4cfef_10 : decode cJ1_indexOfChar_4cfef 10 = .ok (.if_icmp .ge 21, 3) := by decide +kernel
theorem ms_dJ1_indexOfChar_4cfef_13 : decode cJ1_indexOfChar_4cfef 13 = .ok (.aload_n 0, 1) := by decide +kernel
theorem ms_dJ1_indexOfChar_4cfef_14 : decode cJ1_indexOfChar_4cfef 14 = .ok (.iload 5, 2) := by decide +kernel
theorem ms_dJ1_indexOfChar_4cfef_16 : decode cJ1_indexOfChar_4cfef 16 = .ok (.baload, 1) := by decide +kernel
theorem ms_dJ1_indexOfChar_4cfef_17 : decode cJ1_indexOfChar_4cfef 17 = .ok (.iload 4, 2) := by decide +kernel
theorem ms_dJ1_indexOfChar_4cfef_19 : decode cJ1_indexOfChar_4cfef 19 = .ok (.if_icmp .ne 6, 3) := by decide +kernel
theorem ms_dJ1_indexOfChar_4cfef_22 : decode cJ1_indexOfChar_4cfef 22 = .ok (.iload 5, 2) := by decide +kernel
theorem ms_dJ1_indexOfChar_4cfef_24 : decode cJ1_indexOfChar_4cfef 24 = .ok (.ireturn, 1) := by decide +kernel
theorem ms_dJ1_indexOfChar_4cfef_25 : decode cJ1_indexOfChar_4cfef 25 = .ok (.iinc 5 1, 3) := by decide +kernel
theorem ms_dJ1_indexOfChar_4cfef_28 : decode cJ1_indexOfChar_4cfef 28 = .ok (.goto (-21), 3) := by decide +kernel
theorem ms_dJ1_indexOfChar_4cfef_31 : decode cJ1_indexOfChar_4cfef 31 = .ok (.iconst (-1), 1) := by decide +kernel
theorem ms_dJ1_indexOfChar_4cfef_32 : decode cJ1_indexOfChar_4cfef 32 = .ok (.ireturn, 1) := by decide +kernel
def ms_w (y : MethodName) (b : ByteArray) (L : Nat) (ret : Option FieldType) : List Jvm.Cond := Jvm.Cond.code y b L ret :: mi_all
theorem ms_codes : mi_at 617 (.code yJ0_indexOf_0f7a4 cJ0_indexOf_0f7a4 2 (some .int)) = true ∧ mi_at 621 (.code yJ0_indexOf_7cf53 cJ0_indexOf_7cf53 3 (some .int)) = true ∧ mi_at 625 (.code yJ0_isLatin1_aae02 cJ0_isLatin1_aae02 1 (some .boolean)) = true ∧ mi_at 631 (.code yJ0_length_8abf5 cJ0_length_8abf5 1 (some .int)) = true ∧ mi_at 635 (.code yJ0_coder_7d493 cJ0_coder_7d493 1 (some .byte)) = true ∧ mi_at 638 (.code yJ1_indexOf_4cfef cJ1_indexOf_4cfef 4 (some .int)) = true ∧ mi_at 641 (.code yJ1_canEncode_9a6ad cJ1_canEncode_9a6ad 1 (some .boolean)) = true ∧ mi_at 646 (.code yJ1_indexOfChar_4cfef cJ1_indexOfChar_4cfef 6 (some .int)) = true := by decide +kernel
theorem ms_ws : mi_at 618 (.methodLink RJ0 633 yJ0_indexOf_7cf53) = true ∧ mi_at 619 (.instanceMethod yJ0_indexOf_7cf53) = true ∧ mi_at 620 (.selects RJ0 yJ0_indexOf_7cf53 yJ0_indexOf_7cf53) = true ∧
  mi_at 622 (.methodLink RJ0 492 yJ0_isLatin1_aae02) = true ∧ mi_at 623 (.instanceMethod yJ0_isLatin1_aae02) = true ∧ mi_at 624 (.selects RJ0 yJ0_isLatin1_aae02 yJ0_isLatin1_aae02) = true ∧
  mi_at 628 (.methodLink RJ0 505 yJ0_length_8abf5) = true ∧ mi_at 629 (.instanceMethod yJ0_length_8abf5) = true ∧ mi_at 630 (.selects RJ0 yJ0_length_8abf5 yJ0_length_8abf5) = true ∧
  mi_at 632 (.methodLink RJ0 335 yJ0_coder_7d493) = true ∧ mi_at 633 (.instanceMethod yJ0_coder_7d493) = true ∧ mi_at 634 (.selects RJ0 yJ0_coder_7d493 yJ0_coder_7d493) = true ∧
  mi_at 636 (.methodLink RJ0 637 yJ1_indexOf_4cfef) = true ∧ mi_at 637 (.static yJ1_indexOf_4cfef) = true ∧
  mi_at 639 (.methodLink RJ1 88 yJ1_canEncode_9a6ad) = true ∧ mi_at 640 (.static yJ1_canEncode_9a6ad) = true ∧
  mi_at 642 (.methodLink RJ1 92 Lib.Math.max.name) = true ∧ mi_at 643 (.methodLink RJ1 38 Lib.Math.min.name) = true ∧
  mi_at 644 (.methodLink RJ1 95 yJ1_indexOfChar_4cfef) = true ∧ mi_at 645 (.static yJ1_indexOfChar_4cfef) = true ∧
  mi_at 626 (.fieldLink RJ0 38 "java/lang/String" "COMPACT_STRINGS" "Z") = true ∧ mi_at 1533 (.fieldLink RJ0 15 "java/lang/String" "coder" "B") = true ∧ mi_at 1534 (.fieldLink RJ0 9 "java/lang/String" "value" "[B") = true ∧
  mi_at 85 (.initialized RJ0) = true ∧ mi_at 86 (.initialized RJ1) = true := by decide +kernel
theorem ms_gV {own : String} {idx : Nat} {C : String} {y : MethodName} {b : ByteArray} {L : Nat} {ret : Option FieldType} (h1 : Jvm.Cond.methodLink own idx y ∈ lw_tbl) (h2 : Jvm.Cond.instanceMethod y ∈ lw_tbl) (h3 : Jvm.Cond.selects C y y ∈ lw_tbl) (h4 : Jvm.Cond.initialized C ∈ lw_tbl) (h5 : Jvm.Cond.code y b L ret ∈ lw_tbl) : GoodIn mi_all (wsV own idx C y (ms_w y b L ret)) := by
  refine mi_goodIn fun z hz => ?_
  unfold wsV at hz
  rcases List.mem_append.mp hz with hz | hz
  · simp only [List.mem_cons, List.not_mem_nil, or_false] at hz
    rcases hz with rfl | rfl | rfl | rfl
    · exact mi_all_of h1 rfl
    · exact mi_all_of h2 rfl
    · exact mi_all_of h3 rfl
    · exact mi_all_of h4 rfl
  · rcases List.mem_cons.mp hz with rfl | hz
    · exact mi_all_of h5 rfl
    · exact hz
theorem ms_gS {own : String} {idx : Nat} {y : MethodName} {b : ByteArray} {L : Nat} {ret : Option FieldType} (h1 : Jvm.Cond.methodLink own idx y ∈ lw_tbl) (h2 : Jvm.Cond.static y ∈ lw_tbl) (h4 : Jvm.Cond.initialized y.cls ∈ lw_tbl) (h5 : Jvm.Cond.code y b L ret ∈ lw_tbl) : GoodIn mi_all (va_wsS own idx y (ms_w y b L ret)) := by
  refine mi_goodIn fun z hz => ?_
  unfold va_wsS at hz
  rcases List.mem_append.mp hz with hz | hz
  · simp only [List.mem_cons, List.not_mem_nil, or_false] at hz
    rcases hz with rfl | rfl | rfl
    · exact mi_all_of h1 rfl
    · exact mi_all_of h2 rfl
    · exact mi_all_of h4 rfl
  · rcases List.mem_cons.mp hz with rfl | hz
    · exact mi_all_of h5 rfl
    · exact hz

set_option maxHeartbeats 4000000 in
/-- canEncode -/
theorem ms_can (l : Launch) (cv : Int32) : Met l yJ1_canEncode_9a6ad (ms_w yJ1_canEncode_9a6ad cJ1_canEncode_9a6ad 1 (some .boolean)) (mi_rm 0 0 0) (va_Pc [.int cv] (fun _ => True)) (vp_Si (fun r => r = if cv < 0 ∨ 255 < cv then 0 else 1)) 0 0 (fun _ => False) := by
  refine Met.ofW (cc := cJ1_canEncode_9a6ad) (maxL := 1) (ret := some .boolean) (by decide +kernel) rfl ?_
  intro p e s m args below meth c s₁ B hml hv
  obtain ⟨rfl, -⟩ := hv
  have hx := B.exec
  have hb := B.bytes
  have hr := B.returns
  have hts0 := atoms_spec (ws := ms_w yJ1_canEncode_9a6ad cJ1_canEncode_9a6ad 1 (some .boolean)) B.pre
  have hts : ∀ w ∈ mi_all, w.before _ s = true := fun w hw => hts0 w (List.mem_cons_of_mem _ hw)
  have hin : ∀ w, w ∈ lw_tbl → goodWord w = true → w.before _ s = true := fun w a b => hts w (mi_all_of a b)
  have hown := findClass_of_methodNamed B.named
  have hlocks := B.notSynchronized
  have hl := lv_entry ([.int cv]) (n := 1) (Nat.le_of_ble_eq_true rfl)
  rw [lg_entry_eq]
  generalize (lg_sl ([.int cv]) ++ List.replicate (1 - (lg_sl ([.int cv])).length) Slot.unset).toArray = ls at hl ⊢
  have hl : lv_has ls 1 [(0, .int cv)] := hl
  have fin : ∀ v : Int32, (v = 0 ∨ v = 1) → v = (if cv < 0 ∨ 255 < cv then 0 else 1) → W p l e (mi_rm 0 0 0) s m #[.int cv] below meth c s.heap [] 0 0 (MQ below (vp_Si (fun r => r = if cv < 0 ∨ 255 < cv then 0 else 1)) #[.int cv] s 0 0 (fun _ => False)) (F0 m 16 ls [.int v]) := by
    intro v hz he
    exact W.zret (v := v) hx hb hr (by rcases hz with rfl | rfl <;> rfl) (fun t ht _ => ⟨v, rfl, he, ht⟩) (fun q h => by cases h) ms_dJ1_canEncode_9a6ad_16
  refine lv_iload_n hx hb ms_dJ1_canEncode_9a6ad_0 rfl (lv_at hl 0 rfl) ?_
  refine lv_if_lt (tgt := 15) hx hb ms_dJ1_canEncode_9a6ad_1 (by decide) (fun c1 => ?_) (fun c1 => ?_)
  · refine lv_iconst (v := 0) hx hb ms_dJ1_canEncode_9a6ad_15 (by decide) ?_
    exact fin 0 (Or.inl rfl) (by rw [if_pos (Or.inl c1)])
  · refine lv_iload_n hx hb ms_dJ1_canEncode_9a6ad_4 rfl (lv_at hl 0 rfl) ?_
    refine lv_sipush (v := 255) hx hb ms_dJ1_canEncode_9a6ad_5 (by decide) ?_
    refine lv_icmp_gt (tgt := 15) hx hb ms_dJ1_canEncode_9a6ad_8 (by decide) (fun c2 => ?_) (fun c2 => ?_)
    · refine lv_iconst (v := 0) hx hb ms_dJ1_canEncode_9a6ad_15 (by decide) ?_
      exact fin 0 (Or.inl rfl) (by rw [if_pos (Or.inr c2)])
    · refine lv_iconst (v := 1) hx hb ms_dJ1_canEncode_9a6ad_11 (by decide) ?_
      refine lv_goto (tgt := 16) hx hb ms_dJ1_canEncode_9a6ad_12 (by decide) ?_
      exact fin 1 (Or.inr rfl) (by rw [if_neg (fun z => z.elim c1 c2)])
set_option maxHeartbeats 4000000 in
/-- isLatin1 -/
theorem ms_lat (l : Launch) {adK adV : Nat → Nat} {A : Nat → Prop} {i : Nat} (hi : i < 3) : Met l yJ0_isLatin1_aae02 (ms_w yJ0_isLatin1_aae02 cJ0_isLatin1_aae02 1 (some .boolean)) (mi_rm 0 0 0) (va_Pc [.ref (adK i)] (fun U => vk_S 3 [0, 3, 3] [[], [108, 110, 98], [108, 107, 116]] adK adV A U U.heap ∧ va_Z "java/lang/String" "COMPACT_STRINGS" "Z" (.int 1) A U U.heap)) (vp_Si (fun r => r = 1)) 0 0 (fun _ => False) := by
  refine Met.ofW (cc := cJ0_isLatin1_aae02) (maxL := 1) (ret := some .boolean) (by decide +kernel) rfl ?_
  intro p e s m args below meth c s₁ B hml hv
  obtain ⟨rfl, hE, hZ⟩ := hv
  have hx := B.exec
  have hb := B.bytes
  have hr := B.returns
  have hts0 := atoms_spec (ws := ms_w yJ0_isLatin1_aae02 cJ0_isLatin1_aae02 1 (some .boolean)) B.pre
  have hts : ∀ w ∈ mi_all, w.before _ s = true := fun w hw => hts0 w (List.mem_cons_of_mem _ hw)
  have hin : ∀ w, w ∈ lw_tbl → goodWord w = true → w.before _ s = true := fun w a b => hts w (mi_all_of a b)
  have hown := findClass_of_methodNamed B.named
  have hlocks := B.notSynchronized
  have hl := lv_entry ([.ref (adK i)]) (n := 1) (Nat.le_of_ble_eq_true rfl)
  rw [lg_entry_eq]
  generalize (lg_sl ([.ref (adK i)]) ++ List.replicate (1 - (lg_sl ([.ref (adK i)])).length) Slot.unset).toArray = ls at hl ⊢
  have hl : lv_has ls 1 [(0, .ref (adK i))] := hl
  refine va_gets (ref := "java/lang/String") hx hb hZ va_S.rf hown (hin _ (mi_at_mem ms_ws.2.2.2.2.2.2.2.2.2.2.2.2.2.2.2.2.2.2.2.2.1) rfl) (fun _ h => h) ms_dJ0_isLatin1_aae02_0 ?_
  refine lv_if_eq (tgt := 17) hx hb ms_dJ0_isLatin1_aae02_3 (by decide) (fun c1 => absurd c1 (by decide)) (fun _ => ?_)
  refine lv_aload_n hx hb ms_dJ0_isLatin1_aae02_6 rfl (lv_at hl 0 rfl) ?_
  refine vk_getf (ref := "java/lang/String") hx hb (hE.1 i hi).2.1 va_S.rf hown (hin _ (mi_at_mem ms_ws.2.2.2.2.2.2.2.2.2.2.2.2.2.2.2.2.2.2.2.2.2.1) rfl) (fun _ h => h) ms_dJ0_isLatin1_aae02_7 ?_
  refine lv_if_ne (tgt := 17) hx hb ms_dJ0_isLatin1_aae02_10 (by decide) (fun c1 => absurd rfl c1) (fun _ => ?_)
  refine lv_iconst (v := 1) hx hb ms_dJ0_isLatin1_aae02_13 (by decide) ?_
  refine lv_goto (tgt := 18) hx hb ms_dJ0_isLatin1_aae02_14 (by decide) ?_
  exact W.zret (v := 1) hx hb hr rfl (fun t ht _ => ⟨1, rfl, rfl, ht⟩) (fun q h => by cases h) ms_dJ0_isLatin1_aae02_18
set_option maxHeartbeats 4000000 in
/-- coder -/
theorem ms_cod (l : Launch) {adK adV : Nat → Nat} {A : Nat → Prop} {i : Nat} (hi : i < 3) : Met l yJ0_coder_7d493 (ms_w yJ0_coder_7d493 cJ0_coder_7d493 1 (some .byte)) (mi_rm 0 0 0) (va_Pc [.ref (adK i)] (fun U => vk_S 3 [0, 3, 3] [[], [108, 110, 98], [108, 107, 116]] adK adV A U U.heap ∧ va_Z "java/lang/String" "COMPACT_STRINGS" "Z" (.int 1) A U U.heap)) (vp_Si (fun r => r = 0)) 0 0 (fun _ => False) := by
  refine Met.ofW (cc := cJ0_coder_7d493) (maxL := 1) (ret := some .byte) (by decide +kernel) rfl ?_
  intro p e s m args below meth c s₁ B hml hv
  obtain ⟨rfl, hE, hZ⟩ := hv
  have hx := B.exec
  have hb := B.bytes
  have hr := B.returns
  have hts0 := atoms_spec (ws := ms_w yJ0_coder_7d493 cJ0_coder_7d493 1 (some .byte)) B.pre
  have hts : ∀ w ∈ mi_all, w.before _ s = true := fun w hw => hts0 w (List.mem_cons_of_mem _ hw)
  have hin : ∀ w, w ∈ lw_tbl → goodWord w = true → w.before _ s = true := fun w a b => hts w (mi_all_of a b)
  have hown := findClass_of_methodNamed B.named
  have hlocks := B.notSynchronized
  have hl := lv_entry ([.ref (adK i)]) (n := 1) (Nat.le_of_ble_eq_true rfl)
  rw [lg_entry_eq]
  generalize (lg_sl ([.ref (adK i)]) ++ List.replicate (1 - (lg_sl ([.ref (adK i)])).length) Slot.unset).toArray = ls at hl ⊢
  have hl : lv_has ls 1 [(0, .ref (adK i))] := hl
  refine va_gets (ref := "java/lang/String") hx hb hZ va_S.rf hown (hin _ (mi_at_mem ms_ws.2.2.2.2.2.2.2.2.2.2.2.2.2.2.2.2.2.2.2.2.1) rfl) (fun _ h => h) ms_dJ0_coder_7d493_0 ?_
  refine lv_if_eq (tgt := 13) hx hb ms_dJ0_coder_7d493_3 (by decide) (fun c1 => absurd c1 (by decide)) (fun _ => ?_)
  refine lv_aload_n hx hb ms_dJ0_coder_7d493_6 rfl (lv_at hl 0 rfl) ?_
  refine vk_getf (ref := "java/lang/String") hx hb (hE.1 i hi).2.1 va_S.rf hown (hin _ (mi_at_mem ms_ws.2.2.2.2.2.2.2.2.2.2.2.2.2.2.2.2.2.2.2.2.2.1) rfl) (fun _ h => h) ms_dJ0_coder_7d493_7 ?_
  refine lv_goto (tgt := 14) hx hb ms_dJ0_coder_7d493_10 (by decide) ?_
  exact W.zret (v := 0) hx hb hr rfl (fun t ht _ => ⟨0, rfl, rfl, ht⟩) (fun q h => by cases h) ms_dJ0_coder_7d493_14
set_option maxHeartbeats 4000000 in
/-- length -/
theorem ms_len (l : Launch) {adK adV : Nat → Nat} {A : Nat → Prop} {i : Nat} (hi : i < 3) : Met l yJ0_length_8abf5 (ms_w yJ0_length_8abf5 cJ0_length_8abf5 1 (some .int)) (mi_rm 1 0 0) (va_Pc [.ref (adK i)] (fun U => vk_S 3 [0, 3, 3] [[], [108, 110, 98], [108, 107, 116]] adK adV A U U.heap ∧ va_Z "java/lang/String" "COMPACT_STRINGS" "Z" (.int 1) A U U.heap)) (vp_Si (fun r => r = nI ([0, 3, 3].getD i 0))) 0 0 (fun _ => False) := by
  refine Met.ofW (cc := cJ0_length_8abf5) (maxL := 1) (ret := some .int) (by decide +kernel) rfl ?_
  intro p e s m args below meth c s₁ B hml hv
  obtain ⟨rfl, hE, hZ⟩ := hv
  have hx := B.exec
  have hb := B.bytes
  have hr := B.returns
  have hts0 := atoms_spec (ws := ms_w yJ0_length_8abf5 cJ0_length_8abf5 1 (some .int)) B.pre
  have hts : ∀ w ∈ mi_all, w.before _ s = true := fun w hw => hts0 w (List.mem_cons_of_mem _ hw)
  have hin : ∀ w, w ∈ lw_tbl → goodWord w = true → w.before _ s = true := fun w a b => hts w (mi_all_of a b)
  have hown := findClass_of_methodNamed B.named
  have hlocks := B.notSynchronized
  have hl := lv_entry ([.ref (adK i)]) (n := 1) (Nat.le_of_ble_eq_true rfl)
  rw [lg_entry_eq]
  generalize (lg_sl ([.ref (adK i)]) ++ List.replicate (1 - (lg_sl ([.ref (adK i)])).length) Slot.unset).toArray = ls at hl ⊢
  have hl : lv_has ls 1 [(0, .ref (adK i))] := hl
  refine lv_aload_n hx hb ms_dJ0_length_8abf5_0 rfl (lv_at hl 0 rfl) ?_
  refine vk_getf (ref := "java/lang/String") hx hb (hE.1 i hi).2.2.1 va_S.rf hown (hin _ (mi_at_mem ms_ws.2.2.2.2.2.2.2.2.2.2.2.2.2.2.2.2.2.2.2.2.2.2.1) rfl) (fun _ h => h) ms_dJ0_length_8abf5_1 ?_
  refine va_tlen hx hb (hE.1 i hi).2.2.2 va_S.rf rfl ms_dJ0_length_8abf5_4 ?_
  refine lv_aload_n hx hb ms_dJ0_length_8abf5_5 rfl (lv_at hl 0 rfl) ?_
  refine vp_callSi (va_Run.run (va_runV (C := RJ0) (As := []) (rest := [.int (Int32.ofNat ([0, 3, 3].getD i 0))]) ⟨hx, hb, hml, hown, hts⟩ (ms_cod l hi) (cwV 0 hts (ms_gV (own := RJ0) (idx := 335) (C := RJ0) (b := cJ0_coder_7d493) (L := 1) (ret := some .byte) (mi_at_mem ms_ws.2.2.2.2.2.2.2.2.2.1) (mi_at_mem ms_ws.2.2.2.2.2.2.2.2.2.2.1) (mi_at_mem ms_ws.2.2.2.2.2.2.2.2.2.2.2.1) (mi_at_mem ms_ws.2.2.2.2.2.2.2.2.2.2.2.2.2.2.2.2.2.2.2.2.2.2.2.1) (mi_at_mem ms_codes.2.2.2.2.1)) rfl rfl rfl ⟨rfl, by decide +kernel, by decide +kernel, by decide +kernel⟩ ⟨Nat.le_of_ble_eq_true rfl, Nat.le_of_ble_eq_true rfl⟩) ⟨fun _ _ _ _ z => z, vk_recv hE hi va_S.rf, fun U hU hW => ⟨rfl, by rw [hU]; exact hE.moved hW.alike, by rw [hU]; exact hZ.moved hW.alike⟩⟩ rfl rfl hl.1 rfl (lv_room (Nat.le_of_ble_eq_true rfl)) ms_dJ0_length_8abf5_6 ⟨Nat.le_refl _, Nat.le_refl _⟩)) (fun r9 hr9 => ?_)
  subst hr9
  refine lv_ishr hx hb ms_dJ0_length_8abf5_9 ?_
  exact W.iret (v := _) hx hb hr (fun t ht _ => ⟨_, rfl, by rcases (by omega : i = 0 ∨ i = 1 ∨ i = 2) with rfl | rfl | rfl <;> decide +kernel, ht⟩) (fun q h => by cases h) ms_dJ0_length_8abf5_10
/-- the search: f more places, from k on -/
def ms_sr (b : Nat → Int32) (x : Int32) : Nat → Nat → Int32
  | 0, _ => -1
  | f + 1, k => if b k = x then nI k else ms_sr b x f (k + 1)
set_option maxHeartbeats 4000000 in
/-- indexOfChar -/
theorem ms_ioc (l : Launch) {t N : Nat} {b : Nat → Int32} {A : Nat → Prop} (hN : N ≤ 100) (cv : Int32) : Met l yJ1_indexOfChar_4cfef (ms_w yJ1_indexOfChar_4cfef cJ1_indexOfChar_4cfef 6 (some .int)) (mi_rm 0 0 0) (va_Pc [.ref t, .int cv, .int 0, .int (nI N)] (fun U => va_T .byte t N (fun j => .int (b j)) A U U.heap)) (vp_Si (fun r => r = ms_sr b cv.toInt8.toInt32 N 0)) 0 0 (fun _ => False) := by
  refine Met.ofW (cc := cJ1_indexOfChar_4cfef) (maxL := 6) (ret := some .int) (by decide +kernel) rfl ?_
  intro p e s m args below meth c s₁ B hml hv
  obtain ⟨rfl, hT⟩ := hv
  have hx := B.exec
  have hb := B.bytes
  have hr := B.returns
  have hts0 := atoms_spec (ws := ms_w yJ1_indexOfChar_4cfef cJ1_indexOfChar_4cfef 6 (some .int)) B.pre
  have hts : ∀ w ∈ mi_all, w.before _ s = true := fun w hw => hts0 w (List.mem_cons_of_mem _ hw)
  have hin : ∀ w, w ∈ lw_tbl → goodWord w = true → w.before _ s = true := fun w a b => hts w (mi_all_of a b)
  have hown := findClass_of_methodNamed B.named
  have hlocks := B.notSynchronized
  have hl := lv_entry ([.ref t, .int cv, .int 0, .int (nI N)]) (n := 6) (Nat.le_of_ble_eq_true rfl)
  rw [lg_entry_eq]
  generalize (lg_sl ([.ref t, .int cv, .int 0, .int (nI N)]) ++ List.replicate (6 - (lg_sl ([.ref t, .int cv, .int 0, .int (nI N)])).length) Slot.unset).toArray = ls at hl ⊢
  have hl : lv_has ls 6 [(0, .ref t), (1, .int cv), (2, .int 0), (3, .int (nI N))] := hl
  refine lv_iload_n hx hb ms_dJ1_indexOfChar_4cfef_0 rfl (lv_at hl 1 rfl) ?_
  refine lv_i2b hx hb ms_dJ1_indexOfChar_4cfef_1 rfl ?_
  refine lv_topi (fun x ex => ?_)
  refine lv_istore (lv' := [(4, .int x), (0, .ref t), (1, .int cv), (2, .int 0), (3, .int (nI N))]) hx hb ms_dJ1_indexOfChar_4cfef_2 hl (by decide) rfl (fun ls hl => ?_)
  refine lv_iload_n hx hb ms_dJ1_indexOfChar_4cfef_4 rfl (lv_at hl 3 rfl) ?_
  refine lv_istore (lv' := [(5, .int 0), (4, .int x), (0, .ref t), (1, .int cv), (2, .int 0), (3, .int (nI N))]) hx hb ms_dJ1_indexOfChar_4cfef_5 hl (by decide) rfl (fun ls hl => ?_)
  rw [← ex]
  have loop : ∀ (f k : Nat) (ls : Array Slot), k + f = N → lv_has ls 6 [(5, .int (nI k)), (4, .int x), (0, .ref t), (1, .int cv), (2, .int 0), (3, .int (nI N))] → ms_sr b x f k = ms_sr b x N 0 → W p l e (mi_rm 0 0 0) s m #[.ref t, .int cv, .int 0, .int (nI N)] below meth c s.heap [] 0 0 (MQ below (vp_Si (fun r => r = ms_sr b x N 0)) #[.ref t, .int cv, .int 0, .int (nI N)] s 0 0 (fun _ => False)) (F0 m 7 ls []) := by
    intro f
    induction f with
    | zero =>
      intro k ls hk hl he
      refine lv_iload hx hb ms_dJ1_indexOfChar_4cfef_7 (lv_at hl 0 rfl) ?_
      refine lv_iload_n hx hb ms_dJ1_indexOfChar_4cfef_9 rfl (lv_at hl 5 rfl) ?_
      refine lv_icmp_ge (tgt := 31) hx hb ms_dJ1_indexOfChar_4cfef_10 (by decide) (fun c1 => ?_) (fun c1 => absurd (nI_le (by omega) (by omega)) c1)
      refine lv_iconst (v := -1) hx hb ms_dJ1_indexOfChar_4cfef_31 (by decide) ?_
      exact W.iret (v := -1) hx hb hr (fun t ht _ => ⟨_, rfl, he, ht⟩) (fun q h => by cases h) ms_dJ1_indexOfChar_4cfef_32
    | succ f ih =>
      intro k ls hk hl he
      refine lv_iload hx hb ms_dJ1_indexOfChar_4cfef_7 (lv_at hl 0 rfl) ?_
      refine lv_iload_n hx hb ms_dJ1_indexOfChar_4cfef_9 rfl (lv_at hl 5 rfl) ?_
      refine lv_icmp_ge (tgt := 31) hx hb ms_dJ1_indexOfChar_4cfef_10 (by decide) (fun c1 => absurd c1 (nI_ge (by omega) (by omega))) (fun c1 => ?_)
      refine lv_aload_n hx hb ms_dJ1_indexOfChar_4cfef_13 rfl (lv_at hl 2 rfl) ?_
      refine lv_iload hx hb ms_dJ1_indexOfChar_4cfef_14 (lv_at hl 0 rfl) ?_
      refine va_tb hx hb hT va_S.rf (vp_in_nI (n := k) (by omega) (by omega)) (v := .int (b k)) (by rw [nI_clamp (by omega)]) ms_dJ1_indexOfChar_4cfef_16 ?_
      refine lv_iload hx hb ms_dJ1_indexOfChar_4cfef_17 (lv_at hl 1 rfl) ?_
      refine lv_icmp_ne (tgt := 25) hx hb ms_dJ1_indexOfChar_4cfef_19 (by decide) (fun c2 => ?_) (fun c2 => ?_)
      · refine lv_iinc (v := nI (k + 1)) (lv' := [(5, .int (nI (k + 1))), (4, .int x), (0, .ref t), (1, .int cv), (2, .int 0), (3, .int (nI N))]) hx hb ms_dJ1_indexOfChar_4cfef_25 hl (k := 0) rfl (nI_1 k) (by decide) rfl (fun ls hl => ?_)
        refine lv_goto (tgt := 7) hx hb ms_dJ1_indexOfChar_4cfef_28 (by decide) ?_
        refine ih (k + 1) ls (by omega) hl ?_
        rw [← he, ms_sr, if_neg c2]
      · refine lv_iload hx hb ms_dJ1_indexOfChar_4cfef_22 (lv_at hl 0 rfl) ?_
        refine W.iret (v := nI k) hx hb hr (fun t ht _ => ⟨_, rfl, ?_, ht⟩) (fun q h => by cases h) ms_dJ1_indexOfChar_4cfef_24
        rw [← he, ms_sr, if_pos c2]
  exact loop N 0 ls (by omega) (by rw [nI_0]; exact hl) rfl
set_option maxHeartbeats 4000000 in
/-- StringLatin1.indexOf -/
theorem ms_ix1 (l : Launch) {t N : Nat} {b : Nat → Int32} {A : Nat → Prop} (hN : N ≤ 100) (cv : Int32) : Met l yJ1_indexOf_4cfef (ms_w yJ1_indexOf_4cfef cJ1_indexOf_4cfef 4 (some .int)) (mi_rm 1 0 0) (va_Pc [.ref t, .int cv, .int 0, .int (nI N)] (fun U => va_T .byte t N (fun j => .int (b j)) A U U.heap)) (vp_Si (fun r => r = if cv < 0 ∨ 255 < cv then -1 else ms_sr b cv.toInt8.toInt32 N 0)) 0 0 (fun _ => False) := by
  refine Met.ofW (cc := cJ1_indexOf_4cfef) (maxL := 4) (ret := some .int) (by decide +kernel) rfl ?_
  intro p e s m args below meth c s₁ B hml hv
  obtain ⟨rfl, hT⟩ := hv
  have hx := B.exec
  have hb := B.bytes
  have hr := B.returns
  have hts0 := atoms_spec (ws := ms_w yJ1_indexOf_4cfef cJ1_indexOf_4cfef 4 (some .int)) B.pre
  have hts : ∀ w ∈ mi_all, w.before _ s = true := fun w hw => hts0 w (List.mem_cons_of_mem _ hw)
  have hin : ∀ w, w ∈ lw_tbl → goodWord w = true → w.before _ s = true := fun w a b => hts w (mi_all_of a b)
  have hown := findClass_of_methodNamed B.named
  have hlocks := B.notSynchronized
  have hl := lv_entry ([.ref t, .int cv, .int 0, .int (nI N)]) (n := 4) (Nat.le_of_ble_eq_true rfl)
  rw [lg_entry_eq]
  generalize (lg_sl ([.ref t, .int cv, .int 0, .int (nI N)]) ++ List.replicate (4 - (lg_sl ([.ref t, .int cv, .int 0, .int (nI N)])).length) Slot.unset).toArray = ls at hl ⊢
  have hl : lv_has ls 4 [(0, .ref t), (1, .int cv), (2, .int 0), (3, .int (nI N))] := hl
  refine lv_iload_n hx hb ms_dJ1_indexOf_4cfef_0 rfl (lv_at hl 1 rfl) ?_
  refine vp_callSi (va_Run.run (va_runS (As := [.int cv]) (rest := []) ⟨hx, hb, hml, hown, hts⟩ (ms_can l cv) (va_cwS 1 hts (ms_gS (own := RJ1) (idx := 88) (b := cJ1_canEncode_9a6ad) (L := 1) (ret := some .boolean) (mi_at_mem ms_ws.2.2.2.2.2.2.2.2.2.2.2.2.2.2.1) (mi_at_mem ms_ws.2.2.2.2.2.2.2.2.2.2.2.2.2.2.2.1) (mi_at_mem ms_ws.2.2.2.2.2.2.2.2.2.2.2.2.2.2.2.2.2.2.2.2.2.2.2.2) (mi_at_mem ms_codes.2.2.2.2.2.2.1)) rfl rfl rfl ⟨by decide +kernel, by decide +kernel, by decide +kernel⟩ ⟨Nat.le_of_ble_eq_true rfl, Nat.le_of_ble_eq_true rfl⟩) ⟨fun _ _ _ _ z => z, fun U hU hW => ⟨rfl, trivial⟩⟩ rfl rfl hl.1 rfl (lv_room (Nat.le_of_ble_eq_true rfl)) ms_dJ1_indexOf_4cfef_1 ⟨Nat.le_refl _, Nat.le_refl _⟩)) (fun r9 hr9 => ?_)
  by_cases hc : cv < 0 ∨ 255 < cv
  · rw [if_pos hc] at hr9
    subst hr9
    refine lv_if_ne (tgt := 9) hx hb ms_dJ1_indexOf_4cfef_4 (by decide) (fun c1 => absurd rfl c1) (fun _ => ?_)
    refine lv_iconst (v := -1) hx hb ms_dJ1_indexOf_4cfef_7 (by decide) ?_
    exact W.iret (v := -1) hx hb hr (fun t ht _ => ⟨_, rfl, by rw [if_pos hc], ht⟩) (fun q h => by cases h) ms_dJ1_indexOf_4cfef_8
  rw [if_neg hc] at hr9
  subst hr9
  refine lv_if_ne (tgt := 9) hx hb ms_dJ1_indexOf_4cfef_4 (by decide) (fun _ => ?_) (fun c1 => absurd c1 (by decide))
  refine lv_iload_n hx hb ms_dJ1_indexOf_4cfef_9 rfl (lv_at hl 2 rfl) ?_
  refine lv_iconst (v := 0) hx hb ms_dJ1_indexOf_4cfef_10 (by decide) ?_
  refine va_mmax hx hb (hml.trans hl.1.symm) hown (hin _ (mi_at_mem ms_ws.2.2.2.2.2.2.2.2.2.2.2.2.2.2.2.2.1) rfl) (hin _ (mi_at_mem mi_w_mx.1) rfl) (hin _ (mi_at_mem mi_w_mx.2.1) rfl) (hin _ (mi_at_mem mi_w_mx.2.2) rfl) (Nat.le_of_ble_eq_true rfl) (Nat.le_of_ble_eq_true rfl) (Nat.le_refl _) (Nat.le_refl _) ms_dJ1_indexOf_4cfef_11 ?_
  rw [show (if (0 : Int32) < 0 then (0 : Int32) else 0) = 0 from rfl]
  refine lv_istore_n (lv' := [(2, .int 0), (0, .ref t), (1, .int cv), (3, .int (nI N))]) hx hb ms_dJ1_indexOf_4cfef_14 rfl hl (by decide) rfl (fun ls hl => ?_)
  refine lv_iload_n hx hb ms_dJ1_indexOf_4cfef_15 rfl (lv_at hl 3 rfl) ?_
  refine lv_aload_n hx hb ms_dJ1_indexOf_4cfef_16 rfl (lv_at hl 1 rfl) ?_
  refine va_tlen (v := nI N) hx hb hT va_S.rf rfl ms_dJ1_indexOf_4cfef_17 ?_
  refine va_mmin hx hb (hml.trans hl.1.symm) hown (hin _ (mi_at_mem ms_ws.2.2.2.2.2.2.2.2.2.2.2.2.2.2.2.2.2.1) rfl) (hin _ (mi_at_mem mi_w_mn.1) rfl) (hin _ (mi_at_mem mi_w_mx.2.1) rfl) (hin _ (mi_at_mem mi_w_mn.2) rfl) (Nat.le_of_ble_eq_true rfl) (Nat.le_of_ble_eq_true rfl) (Nat.le_refl _) (Nat.le_refl _) ms_dJ1_indexOf_4cfef_18 ?_
  rw [ite_self]
  refine lv_istore_n (lv' := [(3, .int (nI N)), (2, .int 0), (0, .ref t), (1, .int cv)]) hx hb ms_dJ1_indexOf_4cfef_21 rfl hl (by decide) rfl (fun ls hl => ?_)
  refine lv_iload_n hx hb ms_dJ1_indexOf_4cfef_22 rfl (lv_at hl 1 rfl) ?_
  refine lv_iload_n hx hb ms_dJ1_indexOf_4cfef_23 rfl (lv_at hl 0 rfl) ?_
  refine lv_icmp_lt (tgt := 29) hx hb ms_dJ1_indexOf_4cfef_24 (by decide) (fun c1 => ?_) (fun c1 => ?_)
  · refine lv_aload_n hx hb ms_dJ1_indexOf_4cfef_29 rfl (lv_at hl 2 rfl) ?_
    refine lv_iload_n hx hb ms_dJ1_indexOf_4cfef_30 rfl (lv_at hl 3 rfl) ?_
    refine lv_iload_n hx hb ms_dJ1_indexOf_4cfef_31 rfl (lv_at hl 1 rfl) ?_
    refine lv_iload_n hx hb ms_dJ1_indexOf_4cfef_32 rfl (lv_at hl 0 rfl) ?_
    refine vp_callSi (va_Run.run (va_runS (As := [.ref t, .int cv, .int 0, .int (nI N)]) (rest := []) ⟨hx, hb, hml, hown, hts⟩ (ms_ioc l hN cv (A := A) (t := t) (b := b)) (va_cwS 4 hts (ms_gS (own := RJ1) (idx := 95) (b := cJ1_indexOfChar_4cfef) (L := 6) (ret := some .int) (mi_at_mem ms_ws.2.2.2.2.2.2.2.2.2.2.2.2.2.2.2.2.2.2.1) (mi_at_mem ms_ws.2.2.2.2.2.2.2.2.2.2.2.2.2.2.2.2.2.2.2.1) (mi_at_mem ms_ws.2.2.2.2.2.2.2.2.2.2.2.2.2.2.2.2.2.2.2.2.2.2.2.2) (mi_at_mem ms_codes.2.2.2.2.2.2.2)) rfl rfl rfl ⟨by decide +kernel, by decide +kernel, by decide +kernel⟩ ⟨Nat.le_of_ble_eq_true rfl, Nat.le_of_ble_eq_true rfl⟩) ⟨fun _ _ _ _ z => z, fun U hU hW => ⟨rfl, by show va_T _ _ _ _ _ U U.heap; rw [hU]; exact hT.moved hW.alike⟩⟩ rfl rfl hl.1 rfl (lv_room (Nat.le_of_ble_eq_true rfl)) ms_dJ1_indexOf_4cfef_33 ⟨Nat.le_refl _, Nat.le_refl _⟩)) (fun r9 hr9 => ?_)
    exact W.iret (v := r9) hx hb hr (fun t ht _ => ⟨_, rfl, by rw [if_neg hc]; exact hr9, ht⟩) (fun q h => by cases h) ms_dJ1_indexOf_4cfef_36
  · have hN0 : N = 0 := by
      rcases Nat.eq_zero_or_pos N with h | h
      · exact h
      · exact absurd (by rw [← nI_0]; exact nI_lt h (by omega)) c1
    subst hN0
    refine lv_iconst (v := -1) hx hb ms_dJ1_indexOf_4cfef_27 (by decide) ?_
    exact W.iret (v := -1) hx hb hr (fun t ht _ => ⟨_, rfl, by rw [if_neg hc]; rfl, ht⟩) (fun q h => by cases h) ms_dJ1_indexOf_4cfef_28
set_option maxHeartbeats 4000000 in
/-- indexOf of two -/
theorem ms_ix2 (l : Launch) {adK adV : Nat → Nat} {A : Nat → Prop} {i : Nat} (hi : i < 3) (cv : Int32) : Met l yJ0_indexOf_7cf53 (ms_w yJ0_indexOf_7cf53 cJ0_indexOf_7cf53 3 (some .int)) (mi_rm 2 0 0) (va_Pc [.ref (adK i), .int cv, .int 0] (fun U => vk_S 3 [0, 3, 3] [[], [108, 110, 98], [108, 107, 116]] adK adV A U U.heap ∧ va_Z "java/lang/String" "COMPACT_STRINGS" "Z" (.int 1) A U U.heap)) (vp_Si (fun r => r = if cv < 0 ∨ 255 < cv then -1 else ms_sr (fun j => (([[], [108, 110, 98], [108, 107, 116]] : List (List Int32)).getD i []).getD j 0) cv.toInt8.toInt32 ([0, 3, 3].getD i 0) 0)) 0 0 (fun _ => False) := by
  refine Met.ofW (cc := cJ0_indexOf_7cf53) (maxL := 3) (ret := some .int) (by decide +kernel) rfl ?_
  intro p e s m args below meth c s₁ B hml hv
  obtain ⟨rfl, hE, hZ⟩ := hv
  have hx := B.exec
  have hb := B.bytes
  have hr := B.returns
  have hts0 := atoms_spec (ws := ms_w yJ0_indexOf_7cf53 cJ0_indexOf_7cf53 3 (some .int)) B.pre
  have hts : ∀ w ∈ mi_all, w.before _ s = true := fun w hw => hts0 w (List.mem_cons_of_mem _ hw)
  have hin : ∀ w, w ∈ lw_tbl → goodWord w = true → w.before _ s = true := fun w a b => hts w (mi_all_of a b)
  have hown := findClass_of_methodNamed B.named
  have hlocks := B.notSynchronized
  have hl := lv_entry ([.ref (adK i), .int cv, .int 0]) (n := 3) (Nat.le_of_ble_eq_true rfl)
  rw [lg_entry_eq]
  generalize (lg_sl ([.ref (adK i), .int cv, .int 0]) ++ List.replicate (3 - (lg_sl ([.ref (adK i), .int cv, .int 0])).length) Slot.unset).toArray = ls at hl ⊢
  have hl : lv_has ls 3 [(0, .ref (adK i)), (1, .int cv), (2, .int 0)] := hl
  refine lv_aload_n hx hb ms_dJ0_indexOf_7cf53_0 rfl (lv_at hl 0 rfl) ?_
  refine vp_callSi (va_Run.run (va_runV (C := RJ0) (As := []) (rest := []) ⟨hx, hb, hml, hown, hts⟩ (ms_lat l hi) (cwV 0 hts (ms_gV (own := RJ0) (idx := 492) (C := RJ0) (b := cJ0_isLatin1_aae02) (L := 1) (ret := some .boolean) (mi_at_mem ms_ws.2.2.2.1) (mi_at_mem ms_ws.2.2.2.2.1) (mi_at_mem ms_ws.2.2.2.2.2.1) (mi_at_mem ms_ws.2.2.2.2.2.2.2.2.2.2.2.2.2.2.2.2.2.2.2.2.2.2.2.1) (mi_at_mem ms_codes.2.2.1)) rfl rfl rfl ⟨rfl, by decide +kernel, by decide +kernel, by decide +kernel⟩ ⟨Nat.le_of_ble_eq_true rfl, Nat.le_of_ble_eq_true rfl⟩) ⟨fun _ _ _ _ z => z, vk_recv hE hi va_S.rf, fun U hU hW => ⟨rfl, by rw [hU]; exact hE.moved hW.alike, by rw [hU]; exact hZ.moved hW.alike⟩⟩ rfl rfl hl.1 rfl (lv_room (Nat.le_of_ble_eq_true rfl)) ms_dJ0_indexOf_7cf53_1 ⟨Nat.le_refl _, Nat.le_refl _⟩)) (fun r9 hr9 => ?_)
  subst hr9
  refine lv_if_eq (tgt := 23) hx hb ms_dJ0_indexOf_7cf53_4 (by decide) (fun c1 => absurd c1 (by decide)) (fun _ => ?_)
  refine lv_aload_n hx hb ms_dJ0_indexOf_7cf53_7 rfl (lv_at hl 0 rfl) ?_
  refine vk_getf (ref := "java/lang/String") hx hb (hE.1 i hi).2.2.1 va_S.rf hown (hin _ (mi_at_mem ms_ws.2.2.2.2.2.2.2.2.2.2.2.2.2.2.2.2.2.2.2.2.2.2.1) rfl) (fun _ h => h) ms_dJ0_indexOf_7cf53_8 ?_
  refine lv_iload_n hx hb ms_dJ0_indexOf_7cf53_11 rfl (lv_at hl 1 rfl) ?_
  refine lv_iload_n hx hb ms_dJ0_indexOf_7cf53_12 rfl (lv_at hl 2 rfl) ?_
  refine lv_aload_n hx hb ms_dJ0_indexOf_7cf53_13 rfl (lv_at hl 0 rfl) ?_
  refine vp_callSi (va_Run.run (va_runV (C := RJ0) (As := []) (rest := [.int 0, .int cv, .ref (adV i)]) ⟨hx, hb, hml, hown, hts⟩ (ms_len l hi) (cwV 0 hts (ms_gV (own := RJ0) (idx := 505) (C := RJ0) (b := cJ0_length_8abf5) (L := 1) (ret := some .int) (mi_at_mem ms_ws.2.2.2.2.2.2.1) (mi_at_mem ms_ws.2.2.2.2.2.2.2.1) (mi_at_mem ms_ws.2.2.2.2.2.2.2.2.1) (mi_at_mem ms_ws.2.2.2.2.2.2.2.2.2.2.2.2.2.2.2.2.2.2.2.2.2.2.2.1) (mi_at_mem ms_codes.2.2.2.1)) rfl rfl rfl ⟨rfl, by decide +kernel, by decide +kernel, by decide +kernel⟩ ⟨Nat.le_of_ble_eq_true rfl, Nat.le_of_ble_eq_true rfl⟩) ⟨fun _ _ _ _ z => z, vk_recv hE hi va_S.rf, fun U hU hW => ⟨rfl, by rw [hU]; exact hE.moved hW.alike, by rw [hU]; exact hZ.moved hW.alike⟩⟩ rfl rfl hl.1 rfl (lv_room (Nat.le_of_ble_eq_true rfl)) ms_dJ0_indexOf_7cf53_14 ⟨Nat.le_refl _, Nat.le_refl _⟩)) (fun r9 hr9 => ?_)
  subst hr9
  refine vp_callSi (va_Run.run (va_runS (As := [.ref (adV i), .int cv, .int 0, .int (nI ([0, 3, 3].getD i 0))]) (rest := []) ⟨hx, hb, hml, hown, hts⟩ (ms_ix1 l (t := adV i) (N := [0, 3, 3].getD i 0) (b := fun j => (([[], [108, 110, 98], [108, 107, 116]] : List (List Int32)).getD i []).getD j 0) (A := A) (by rcases (by omega : i = 0 ∨ i = 1 ∨ i = 2) with rfl | rfl | rfl <;> decide) cv) (va_cwS 4 hts (ms_gS (own := RJ0) (idx := 637) (b := cJ1_indexOf_4cfef) (L := 4) (ret := some .int) (mi_at_mem ms_ws.2.2.2.2.2.2.2.2.2.2.2.2.1) (mi_at_mem ms_ws.2.2.2.2.2.2.2.2.2.2.2.2.2.1) (mi_at_mem ms_ws.2.2.2.2.2.2.2.2.2.2.2.2.2.2.2.2.2.2.2.2.2.2.2.2) (mi_at_mem ms_codes.2.2.2.2.2.1)) rfl rfl rfl ⟨by decide +kernel, by decide +kernel, by decide +kernel⟩ ⟨Nat.le_of_ble_eq_true rfl, Nat.le_of_ble_eq_true rfl⟩) ⟨fun _ _ _ _ z => z, fun U hU hW => ⟨rfl, by show va_T _ _ _ _ _ U U.heap; rw [hU]; exact (hE.1 i hi).2.2.2.moved hW.alike⟩⟩ rfl rfl hl.1 rfl (lv_room (Nat.le_of_ble_eq_true rfl)) ms_dJ0_indexOf_7cf53_17 ⟨Nat.le_refl _, Nat.le_refl _⟩)) (fun r9 hr9 => ?_)
  refine lv_goto (tgt := 36) hx hb ms_dJ0_indexOf_7cf53_20 (by decide) ?_
  exact W.iret (v := r9) hx hb hr (fun t ht _ => ⟨_, rfl, hr9, ht⟩) (fun q h => by cases h) ms_dJ0_indexOf_7cf53_36
set_option maxHeartbeats 4000000 in
/-- indexOf -/
theorem ms_ix3 (l : Launch) {adK adV : Nat → Nat} {A : Nat → Prop} {i : Nat} (hi : i < 3) (cv : Int32) : Met l yJ0_indexOf_0f7a4 (ms_w yJ0_indexOf_0f7a4 cJ0_indexOf_0f7a4 2 (some .int)) (mi_rm 3 0 0) (va_Pc [.ref (adK i), .int cv] (fun U => vk_S 3 [0, 3, 3] [[], [108, 110, 98], [108, 107, 116]] adK adV A U U.heap ∧ va_Z "java/lang/String" "COMPACT_STRINGS" "Z" (.int 1) A U U.heap)) (vp_Si (fun r => r = if cv < 0 ∨ 255 < cv then -1 else ms_sr (fun j => (([[], [108, 110, 98], [108, 107, 116]] : List (List Int32)).getD i []).getD j 0) cv.toInt8.toInt32 ([0, 3, 3].getD i 0) 0)) 0 0 (fun _ => False) := by
  refine Met.ofW (cc := cJ0_indexOf_0f7a4) (maxL := 2) (ret := some .int) (by decide +kernel) rfl ?_
  intro p e s m args below meth c s₁ B hml hv
  obtain ⟨rfl, hE, hZ⟩ := hv
  have hx := B.exec
  have hb := B.bytes
  have hr := B.returns
  have hts0 := atoms_spec (ws := ms_w yJ0_indexOf_0f7a4 cJ0_indexOf_0f7a4 2 (some .int)) B.pre
  have hts : ∀ w ∈ mi_all, w.before _ s = true := fun w hw => hts0 w (List.mem_cons_of_mem _ hw)
  have hin : ∀ w, w ∈ lw_tbl → goodWord w = true → w.before _ s = true := fun w a b => hts w (mi_all_of a b)
  have hown := findClass_of_methodNamed B.named
  have hlocks := B.notSynchronized
  have hl := lv_entry ([.ref (adK i), .int cv]) (n := 2) (Nat.le_of_ble_eq_true rfl)
  rw [lg_entry_eq]
  generalize (lg_sl ([.ref (adK i), .int cv]) ++ List.replicate (2 - (lg_sl ([.ref (adK i), .int cv])).length) Slot.unset).toArray = ls at hl ⊢
  have hl : lv_has ls 2 [(0, .ref (adK i)), (1, .int cv)] := hl
  refine lv_aload_n hx hb ms_dJ0_indexOf_0f7a4_0 rfl (lv_at hl 0 rfl) ?_
  refine lv_iload_n hx hb ms_dJ0_indexOf_0f7a4_1 rfl (lv_at hl 1 rfl) ?_
  refine lv_iconst (v := 0) hx hb ms_dJ0_indexOf_0f7a4_2 (by decide) ?_
  refine vp_callSi (va_Run.run (va_runV (C := RJ0) (As := [.int cv, .int 0]) (rest := []) ⟨hx, hb, hml, hown, hts⟩ (ms_ix2 l hi cv) (cwV 2 hts (ms_gV (own := RJ0) (idx := 633) (C := RJ0) (b := cJ0_indexOf_7cf53) (L := 3) (ret := some .int) (mi_at_mem ms_ws.1) (mi_at_mem ms_ws.2.1) (mi_at_mem ms_ws.2.2.1) (mi_at_mem ms_ws.2.2.2.2.2.2.2.2.2.2.2.2.2.2.2.2.2.2.2.2.2.2.2.1) (mi_at_mem ms_codes.2.1)) rfl rfl rfl ⟨rfl, by decide +kernel, by decide +kernel, by decide +kernel⟩ ⟨Nat.le_of_ble_eq_true rfl, Nat.le_of_ble_eq_true rfl⟩) ⟨fun _ _ _ _ z => z, vk_recv hE hi va_S.rf, fun U hU hW => ⟨rfl, by rw [hU]; exact hE.moved hW.alike, by rw [hU]; exact hZ.moved hW.alike⟩⟩ rfl rfl hl.1 rfl (lv_room (Nat.le_of_ble_eq_true rfl)) ms_dJ0_indexOf_0f7a4_3 ⟨Nat.le_refl _, Nat.le_refl _⟩)) (fun r9 hr9 => ?_)
  exact W.iret (v := r9) hx hb hr (fun t ht _ => ⟨_, rfl, hr9, ht⟩) (fun q h => by cases h) ms_dJ0_indexOf_0f7a4_6
theorem ms_small : ∀ i, i < 3 → ∀ n, n < 256 → ms_sr (fun j => (([[], [108, 110, 98], [108, 107, 116]] : List (List Int32)).getD i []).getD j 0) (nI n).toInt8.toInt32 ([0, 3, 3].getD i 0) 0 = mi_ixo (nI n) (mi_txt i) 0 := by decide +kernel
theorem ms_far {c : Int32} (h : c < 0 ∨ 255 < c) : ∀ i, i < 3 → mi_ixo c (mi_txt i) 0 = -1 := by
  have hk : ∀ k : Int32, ¬ k < 0 → ¬ 255 < k → ¬ k = c := by
    intro k h1 h2 h3
    subst h3
    exact h.elim h1 h2
  intro i hi
  rcases (by omega : i = 0 ∨ i = 1 ∨ i = 2) with rfl | rfl | rfl
  · rfl
  · show mi_ixo c [.int 108, .int 110, .int 98] 0 = -1
    rw [mi_ixo, if_neg (hk _ (by decide) (by decide)), mi_ixo, if_neg (hk _ (by decide) (by decide)), mi_ixo, if_neg (hk _ (by decide) (by decide)), mi_ixo]
  · show mi_ixo c [.int 108, .int 107, .int 116] 0 = -1
    rw [mi_ixo, if_neg (hk _ (by decide) (by decide)), mi_ixo, if_neg (hk _ (by decide) (by decide)), mi_ixo, if_neg (hk _ (by decide) (by decide)), mi_ixo]
theorem ms_eq {c : Int32} {i : Nat} (hi : i < 3) : (if c < 0 ∨ 255 < c then -1 else ms_sr (fun j => (([[], [108, 110, 98], [108, 107, 116]] : List (List Int32)).getD i []).getD j 0) c.toInt8.toInt32 ([0, 3, 3].getD i 0) 0) = mi_ixo c (mi_txt i) 0 := by
  split
  next h => exact (ms_far h i hi).symm
  next h =>
    obtain ⟨n, hn, rfl⟩ := nI_of2 (M := 255) (n := 255) (by decide) (fun z => h (Or.inl z)) (Int32.not_lt.mp (fun z => h (Or.inr z)))
    exact ms_small i hi n (by omega)
theorem mi_str (l : Launch) (ad : Nat → Nat) (n0 : Nat) : mi_StrOk l ad n0 := by
  intro i c hi p e ha hc hk s m args below hf happ hP hK
  obtain ⟨hargs, ⟨adV, hE⟩, hZ⟩ := hP
  obtain ⟨n, o, h1, h2, h3, ⟨r, h4, h5, h6⟩, h7⟩ := ms_ix3 l (adK := fun i => ad (i + 1)) (adV := adV) (A := fun q : Nat => n0 ≤ q) hi c p e ha hc hk s m args below hf happ ⟨hargs, hE, hZ⟩ hK
  exact ⟨n, o, h1, h2, h3, ⟨r, h4, h5.trans (ms_eq hi), h6⟩, h7⟩
end
section
/-! THE CLAIM OUT OF ONE WALK OF THE LAW'S BODY. Your part is whole_start (and what it stands on); all else here is the same for every law, but numbers. -/
def R_law : String := "NineLedgesLaw"
def lw_P (b : Addr) (xs : List Int32) (args : Array Value) (s : State) : Prop := args = #[.ref b] ∧ s.IntsAt b xs ∧ xs.length ≤ 3072 ∧ (Jvm.Cond.and given_1 narrow_1).before args s = true
def lw_Q (_ : Array Value) (s : State) (o : Outcome) (t : State) : Prop := o = .returned (some (.int 1)) ∧ Framed s o t [] 600000 7302250
def lw_Z (below : List Frame) (a : Array Value) (s : State) : State → Prop := fun t => ∃ o, t.status = .running ∧ Ended t below o ∧ lw_Q a s o t
/-- the law's own end, with 1 on the stack, nothing written that was there before, its room as the claim has it -/
theorem lw_ret {p : Program} {l : Launch} {e : Env} {s : State} {m : MethodId} {below : List Frame} {meth : Method} {c : Code} {b : Nat} (hx : p.tables.exec = Jvm.exec) (hb : c.code = code) (hr : meth.sig.returnType = ret) (hlocks : meth.locks = false) {pc : Nat} {H : Heap} {ls : Array Slot} (hdg : decode code pc = .ok (.ireturn, 1)) : W p l e room_1 s m #[Value.ref b] below meth c H [] 600000 7302250 (lw_Z below #[Value.ref b] s) (F0 m pc ls [.int 1]) := by
  intro T hT X
  obtain ⟨fs, hret, hrun, hended, hW, hframe⟩ := X.leave (v := some (.int 1)) (hlocks := hlocks) (fun h => by rw [hr] at h; cases h)
  have hmeth' : T.vm.method? m = some meth := X.method'
  refine ⟨T.setFrames fs, ?_, .returned (some (.int 1)), hrun, hended, rfl, ⟨_, rfl⟩, hW, hframe⟩
  jvm_step X.here [X.here.top, hx, hb, hdg, hmeth', hr, ret, narrow_b1]
  (try refine ⟨rfl, ?_⟩); (try refine ⟨rfl, ?_⟩)
  first | (intro acts; rw [hret _ acts rfl rfl rfl]) | rw [hret _ _ rfl rfl rfl]
  exact Steps.refl _
/-- what holds at the law's entry: the machine, the code, the tables' words (any of lw_tbl by 'hts w (by decide +kernel)'), the script of L ints xs at the cell b, what the Statement gives of the start (any of its parts by flat_of_before) -/
def lw_At (p : Program) (s : State) (m : MethodId) (meth : Method) (c : Code) (b L : Nat) (xs : Nat → Int32) : Prop :=
  p.tables.exec = Jvm.exec ∧ c.code = code ∧ meth.sig.returnType = ret ∧ c.maxLocals = 4 ∧ s.vm.findClass R_law = some m.cls ∧ (∀ w ∈ lw_tbl, w.before #[Value.ref b] s = true) ∧ va_X b L xs s s.heap ∧ b < s.heap.size ∧ meth.locks = false ∧ (Jvm.Cond.and given_1 narrow_1).before #[Value.ref b] s = true

/-! the law's start, as MINI has it -/
def mi_sc (L : Nat) (xs : Nat → Int32) : List Value := (List.range L).map (fun j => .int (xs j))
/-- what is left to show: MINI's run of the law on the script comes to 1, in the room -/
def mi_pure (L : Nat) (xs : Nat → Int32) : Prop := ∃ (N : Nat) (mem' : mi_M), mi_go (mi_run N 1000) 13 false true mi_k231 N 0 (mi_ent [.ref 0] 4) [] (mi_spec (mi_sc L xs)) = some (some (.int 1), mem') ∧ mem'.length ≤ 1000 ∧ mi_sl mem' ≤ 1000000
def mi_tm (i : Nat) : Term := match i with
  | 0 => .string "NineLedges$Text" 33
  | 1 => .string "NineLedges" 172
  | _ => .string "NineLedges" 174
def mi_flat : List Jvm.Cond := flatC (Jvm.Cond.and given_1 narrow_1)
theorem mi_fl1 : Jvm.Cond.arrayOf (.static "NineLedges" "ABOVE" "[I") .int ∈ mi_flat ∧ Jvm.Cond.eq (.length (.static "NineLedges" "ABOVE" "[I")) (.int 7) ∈ mi_flat ∧
  (∀ j, j < 7 → Jvm.Cond.eq (.elem (.static "NineLedges" "ABOVE" "[I") (.int (Int32.ofNat j))) (.int ([(-1 : Int32), 0, 0, 0, 1, 2, 3].getD j 0)) ∈ mi_flat) ∧ Jvm.Cond.eq (.static "java/lang/String" "COMPACT_STRINGS" "Z") (.int 1) ∈ mi_flat := by decide +kernel
theorem mi_fl2 : ∀ i, i < 3 → Jvm.Cond.exactly (mi_tm i) "java/lang/String" ∈ mi_flat ∧ Jvm.Cond.eq (.field (mi_tm i) "java/lang/String" "coder" "B") (.int 0) ∈ mi_flat ∧ Jvm.Cond.arrayOf (.field (mi_tm i) "java/lang/String" "value" "[B") .byte ∈ mi_flat ∧ Jvm.Cond.eq (.length (.field (mi_tm i) "java/lang/String" "value" "[B")) (.int (Int32.ofNat ([0, 3, 3].getD i 0))) ∈ mi_flat ∧
  ∀ j, j < [0, 3, 3].getD i 0 → Jvm.Cond.eq (.elem (.field (mi_tm i) "java/lang/String" "value" "[B") (.int (Int32.ofNat j))) (.int ((([[], [108, 110, 98], [108, 107, 116]] : List (List Int32)).getD i []).getD j 0)) ∈ mi_flat := by decide +kernel
theorem mi_fl3 : ∀ i, i < 3 → ∀ j, j < 3 → i ≠ j → Jvm.Cond.not (.eq (mi_tm i) (mi_tm j)) ∈ mi_flat ∨ Jvm.Cond.not (.eq (mi_tm j) (mi_tm i)) ∈ mi_flat := by decide +kernel
theorem mi_ls : Jvm.Cond.laysStatic "NineLedges" "ABOVE" "[I" ∈ lw_tbl ∧ Jvm.Cond.laysStatic "java/lang/String" "COMPACT_STRINGS" "Z" ∈ lw_tbl ∧ Jvm.Cond.stringRef "NineLedges$Text" 33 "" ∈ lw_tbl ∧ Jvm.Cond.stringRef "NineLedges" 172 "lnb" ∈ lw_tbl ∧ Jvm.Cond.stringRef "NineLedges" 174 "lkt" ∈ lw_tbl ∧ Jvm.Cond.arrayClass .int ∈ lw_tbl ∧ Jvm.Cond.initialized "NineLedges" ∈ lw_tbl ∧ (∀ k, 0 < k → k < 5 → Jvm.Cond.arrayOver (.object (mi_an k)) ∈ lw_tbl) := by
  refine ⟨mi_at_mem (pl := 580) (by decide +kernel), mi_at_mem (pl := 627) (by decide +kernel), mi_at_mem (pl := 266) (by decide +kernel), mi_at_mem (pl := 604) (by decide +kernel), mi_at_mem (pl := 605) (by decide +kernel), mi_at_mem (pl := 236) (by decide +kernel), mi_at_mem (pl := 71) (by decide +kernel), fun k h0 h5 => ?_⟩
  rcases (by omega : k = 1 ∨ k = 2 ∨ k = 3 ∨ k = 4) with rfl | rfl | rfl | rfl
  · exact mi_at_mem (pl := 156) (by decide +kernel)
  · exact mi_at_mem (pl := 256) (by decide +kernel)
  · exact mi_at_mem (pl := 347) (by decide +kernel)
  · exact mi_at_mem (pl := 100) (by decide +kernel)
theorem mi_law_at : mi_mt[231]? = some (yL_law, cL_law, 4, some .boolean, 13, 99999, mi_k231) := by
  unfold mi_mt
  rfl
theorem mi_bt_law : mi_bt (yL_law, cL_law, 4, some .boolean, 13, 99999, mi_k231) = code := by
  unfold mi_bt
  rw [show mi_cw 99999 = none from mi_cw_law]
theorem mi_ii_law : mi_ii.contains 231 = false := by decide +kernel
set_option maxHeartbeats 4000000 in
theorem mi_start {p : Program} {e : Env} {s : State} {m : MethodId} {below : List Frame} {meth : Method} {c : Code} (l : Launch) {b L : Nat} {xs : Nat → Int32} (C0 : lw_At p s m meth c b L xs) (hp : mi_pure L xs) : W p l e room_1 s m #[Value.ref b] below meth c s.heap [] 0 0 (lw_Z below #[Value.ref b] s) (entryFrame m ([Value.ref b] : List Value).toArray 4) := by
  obtain ⟨hx, hb, hr, hml, hown, hts, hX, hbl, hlocks, hgv⟩ := C0
  have hs : ∀ w ∈ mi_flat, w.before #[Value.ref b] s = true := flat_of_before _ hgv
  generalize hn0 : s.heap.size = n0 at hbl
  have hA : ∀ a : Nat, a < s.heap.size → ¬ (fun q : Nat => n0 ≤ q) a := fun a ha => by rw [hn0] at ha; exact Nat.not_le.mpr ha
  obtain ⟨f1, f2, f3, f4⟩ := mi_fl1
  obtain ⟨w1, w2, w3, w4, w5, w6, w7, w8⟩ := mi_ls
  -- ABOVE
  obtain ⟨tA, hA1, hA2⟩ := va_Tof (args := #[Value.ref b]) (s := s) (tm := .static "NineLedges" "ABOVE" "[I") (N := 7) (f := fun j => [Value.int (-1), .int 0, .int 0, .int 0, .int 1, .int 2, .int 3].getD j .null) (A := fun q : Nat => n0 ≤ q) (by decide) (hs _ f1) (va_eqt (hs _ f2)) (fun j hj => by
    have h1 := va_eqt (hs _ (f3 j hj))
    rcases (by omega : j = 0 ∨ j = 1 ∨ j = 2 ∨ j = 3 ∨ j = 4 ∨ j = 5 ∨ j = 6) with rfl | rfl | rfl | rfl | rfl | rfl | rfl <;> exact h1) hA
  have hZA := va_Zref (A := fun q : Nat => n0 ≤ q) (hts _ w1) (hts _ w7) hA1 hA
  have hZC := va_Zof (A := fun q : Nat => n0 ≤ q) (hts _ w2) (hts _ (mi_at_mem (pl := 85) (by decide +kernel))) (va_eqi (hs _ f4)) hA
  -- the texts
  obtain ⟨adK, adV, hK1, hK2⟩ := vk_Sof (args := #[Value.ref b]) (s := s) (N := 3) (tm := mi_tm) (len := [0, 3, 3]) (byt := [[], [108, 110, 98], [108, 107, 116]]) (A := fun q : Nat => n0 ≤ q) (by decide) (fun i hi => hs _ (mi_fl2 i hi).1) (fun i hi => hs _ (mi_fl2 i hi).2.1) (fun i hi => hs _ (mi_fl2 i hi).2.2.1) (fun i hi => hs _ (mi_fl2 i hi).2.2.2.1) (fun i hi j hj => hs _ ((mi_fl2 i hi).2.2.2.2 j hj)) (fun i j hi hj hij => (mi_fl3 i hi j hj hij).imp (hs _) (hs _)) hA
  generalize hsA : (fun a : Nat => if a = 0 then b else if a = 4 then tA else adK (a - 1)) = sA
  have a0 : mi_ad sA n0 0 = b := by rw [← hsA]; rfl
  have a4 : mi_ad sA n0 4 = tA := by rw [← hsA]; rfl
  have aK : ∀ i, i < 3 → mi_ad sA n0 (i + 1) = adK i := by
    intro i hi
    rw [← hsA]
    rcases (by omega : i = 0 ∨ i = 1 ∨ i = 2) with rfl | rfl | rfl <;> rfl
  -- the classes
  obtain ⟨dC, hdC⟩ : ∃ dC : Nat → ClassId × (Nat → Nat), ∀ (k : Nat) (q : vw_C), mi_cl[k]? = some q → u_Kn s q.1 q.2.1 q.2.2 (dC k).1 (dC k).2 := by
    have h0 : ∀ k : Nat, ∃ z : ClassId × (Nat → Nat), ∀ q : vw_C, mi_cl[k]? = some q → u_Kn s q.1 q.2.1 q.2.2 z.1 z.2 := by
      intro k
      cases hk : mi_cl[k]? with
      | none => exact ⟨(0, fun _ => 0), fun q h => by cases h⟩
      | some q =>
        obtain ⟨-, hin, -, -, -, -, hinst, -⟩ := mi_cl_inv hk
        obtain ⟨cC, iS, h⟩ := u_known (args := #[Value.ref b]) (ws := lw_tbl) hts (fun w hw => (List.mem_filter.mp (hin w hw)).1) (hts _ hinst)
        exact ⟨(cC, iS), fun q' h' => by cases h'; exact h⟩
    exact ⟨fun k => Classical.choose (h0 k), fun k => Classical.choose_spec (h0 k)⟩
  obtain ⟨aT, haT⟩ : ∃ aT : Nat → ClassId, ∀ (k : Nat) (q : ClassId × FieldType), (mi_tys aT)[k]? = some q → ArrOfT s q.1 q.2 ∧ va_RA s q.1 q.2 := by
    obtain ⟨c0, k0, comp0, g1, g2, g3⟩ := Cond.arrayClass_spec (show (Jvm.Cond.arrayClass .int).holds #[Value.ref b] s none s [] = true from hts _ w6)
    have h0 : ∀ k : Nat, ∃ z : ClassId, 0 < k → k < 5 → ArrOfT s z (.object (mi_an k)) ∧ va_RA s z (.object (mi_an k)) := by
      intro k
      by_cases hk : 0 < k ∧ k < 5
      · obtain ⟨comp, c, kk, h1, h2, h3, h4, h5⟩ := Cond.arrayOver_spec (show (Jvm.Cond.arrayOver (.object (mi_an k))).holds #[Value.ref b] s none s [] = true from hts _ (w8 k hk.1 hk.2))
        exact ⟨c, fun _ _ => ⟨fun N z => ⟨(fun k h => by cases h), kk, h3, comp, h4⟩, kk, comp, h3, h4, h1, h5⟩⟩
      · exact ⟨0, fun a b => absurd ⟨a, b⟩ hk⟩
    refine ⟨fun k => if k = 0 then c0 else Classical.choose (h0 k), fun k q hq => ?_⟩
    rcases (by have := (List.getElem?_eq_some_iff.mp hq).1; simp only [mi_tys, List.length_cons, List.length_nil] at this; omega : k = 0 ∨ k = 1 ∨ k = 2 ∨ k = 3 ∨ k = 4) with rfl | rfl | rfl | rfl | rfl
    · cases hq
      exact ⟨fun N z => ⟨(fun k h => by cases h), k0, g2, comp0, g3⟩, g1⟩
    all_goals (cases hq; exact Classical.choose_spec (h0 _) (by decide) (by decide))
  have hK : va_K (fun k => (dC k).1, fun k => (dC k).2) mi_cl (mi_tys aT) s := ⟨hdC, haT⟩
  -- what lies outside
  have hsc : (mi_sc L xs).length = L := by simp [mi_sc]
  have hout : mi_out (mi_ad sA n0) n0 (mi_sc L xs) s s.heap := by
    refine ⟨⟨?_, by rw [a0]; exact hbl⟩, by rw [a4]; exact hZA, by rw [a4]; exact hA2, ?_, ?_, ?_, ⟨adV, ?_⟩, hZC⟩
    · rw [a0, hsc]
      obtain ⟨scr, g1, g2, g3, g4, g5⟩ := hX
      refine ⟨scr, g1, g2, g3, g4, fun j hj => ?_⟩
      rw [g5 j hj]
      have e : (mi_sc L xs).getD j .null = .int (xs j) := by
        unfold mi_sc
        rw [List.getD_eq_getElem?_getD, List.getElem?_map, List.getElem?_range hj]
        rfl
      show some (Value.int (xs j)) = some (Value.int (mi_I ((mi_sc L xs).getD j .null)))
      rw [e]
      rfl
    · rw [aK 0 (by decide)]
      exact vk_R.of (hts _ w3) (hK2 0 (by decide))
    · rw [aK 1 (by decide)]
      exact vk_R.of (hts _ w4) (hK2 1 (by decide))
    · rw [aK 2 (by decide)]
      exact vk_R.of (hts _ w5) (hK2 2 (by decide))
    · refine ⟨fun i hi => ?_, fun i j hi hj h => hK1.2 i j hi hj (by rw [← aK i hi, ← aK j hj]; exact h)⟩
      have h := hK1.1 i hi
      rw [← aK i hi] at h
      exact h
  obtain ⟨N, mem', hgo, hr1, hr2⟩ := hp
  have hin5 : mi_inv (mi_sc L xs) (mi_spec (mi_sc L xs)) := ⟨rfl, fun a c h5 hc => by rw [List.getElem?_eq_none (by show 5 ≤ a; exact h5)] at hc; cases hc⟩
  have hbadw : ∀ w ∈ mi_bad, va_Nw w s := by
    intro w hw
    obtain ⟨h1, h2⟩ := List.mem_filter.mp hw
    have h3 := hts w h1
    unfold mi_bw at h2
    split at h2
    · exact va_Nw.of rfl h3
    · exact va_Nw.of rfl h3
    · exact va_Nw.of rfl h3
    · exact h3
    · cases h2
  have C : mi_cx p s m #[Value.ref b] meth c 231 (yL_law, cL_law, 4, some .boolean, 13, 99999, mi_k231) sA n0 (mi_sc L xs) (fun k => (dC k).1, fun k => (dC k).2) aT :=
    ⟨mi_law_at, hx, by rw [hb, mi_bt_law], hml, hown, fun w hw => hts w (List.mem_filter.mp hw).1, hbadw, hK, by rw [hn0]; exact Nat.le_refl _, hlocks, fun h => absurd h (by decide +kernel), by rw [hr]; rfl, hout⟩
  have hh : mi_hd sA n0 (mi_sc L xs) (fun k => (dC k).1, fun k => (dC k).2) aT s (mi_spec (mi_sc L xs)) s.heap [] := ⟨fun k q h => by simp [mi_w, mi_spec] at h, va_S.rf, hin5⟩
  have hrun := mi_run_ok (l := l) (sA := sA) (n0 := n0) (sc := mi_sc L xs) (D := (fun k => (dC k).1, fun k => (dC k).2)) (aT := aT) (mi_str l _ _) N 1000
  have hsl0 : mi_sl (mi_spec (mi_sc L xs)) = L + 13 := by simp [mi_sl, mi_spec, hsc]
  have hg := mi_go_gr hrun _ _ _ _ _ _ hin5 hgo
  rw [lg_entry_eq]
  have hent : mi_has (mi_ad sA n0) 4 ((lg_sl [Value.ref b] ++ List.replicate (4 - (lg_sl [Value.ref b]).length) Slot.unset).toArray) (mi_ent [.ref 0] 4) := by
    have h := mi_entry (ad := mi_ad sA n0) (as := [.ref 0]) (n := 4) (by decide)
    rw [show ([Value.ref 0].map (mi_v (mi_ad sA n0))) = [Value.ref b] by rw [← a0]; rfl] at h
    exact h
  have hend := mi_go_sound (R := room_1) (l := l) (e := e) (below := below) (Q := lw_Z below #[Value.ref b] s) (m0 := 5) (s0 := L + 13) (d := 1000) (r := some (.int 1)) (mem' := mem') (rz := true) C ⟨Nat.le_refl _, by rw [hn0]; rfl⟩ hrun (fun _ => by decide) (mi_str l _ _) ⟨Nat.le_of_ble_eq_true rfl, Nat.le_of_ble_eq_true rfl⟩ ⟨Nat.le_trans (Nat.sub_le _ _) (Nat.le_trans hr1 (Nat.le_of_ble_eq_true rfl)), Nat.le_trans (Nat.sub_le _ _) (Nat.le_trans hr2 (Nat.le_of_ble_eq_true rfl))⟩ (by
    intro H locs la pc i st hrr hi hd hh'
    unfold mi_ret at hrr
    split at hrr
    · split at hrr
      next v =>
        split at hrr
        next hz =>
          cases hrr
          refine W.widen (k := 600000) (n := 7302250) (Nat.le_trans (Nat.sub_le _ _) (Nat.le_trans hr1 (Nat.le_of_ble_eq_true rfl))) (Nat.le_trans (Nat.sub_le _ _) (Nat.le_trans hr2 (Nat.le_of_ble_eq_true rfl))) ?_
          refine va_forget (fun q hq => by rw [hn0]; exact hh'.2.1.2.2 q hq) ?_
          exact lw_ret hx hb hr hlocks (by rw [mi_bt_law] at hd; exact hd)
        · cases hrr
      · cases hrr
    · split at hrr
      · cases hrr
      · cases hrr
    · cases hrr) N 0 (mi_ent [.ref 0] 4) [] (mi_spec (mi_sc L xs)) s.heap [] _ (by rw [mi_ii_law]; exact hgo) hent hh ⟨Nat.le_refl _, by rw [hsl0]; exact Nat.le_refl _⟩
  rw [hsl0, Nat.sub_self] at hend
  exact hend
end
section
/-! the cells after the two constructors: kind, size, references; and what changes: ints I (cell, place), and nm, the text that the draft has as its names -/
abbrev mf_S : Type := Nat × Nat × List (Nat × Nat)
def mf_sh : List mf_S := [(11, 10, [(0, 6), (1, 14), (2, 44), (3, 74), (5, 104), (6, 111), (7, 113), (8, 122), (9, 123)]), (24, 7, [(0, 7), (1, 8), (2, 9), (3, 10), (4, 11), (5, 12), (6, 13)]), (9, 0, []), (2, 0, []), (3, 0, []), (10, 0, []), (7, 0, []), (5, 0, []), (0, 0, []), (1, 10, [(0, 15), (1, 16), (7, 25), (8, 27), (9, 29)]), (20, 24, []), (21, 8, [(0, 17), (1, 18), (2, 19), (3, 20), (4, 21), (5, 22), (6, 23), (7, 24)]), (4, 16, []), (4, 16, []), (4, 16, []), (4, 16, []), (4, 16, []), (4, 16, []), (4, 16, []), (4, 16, []), (6, 2, [(0, 26)]), (20, 50, []), (6, 2, [(0, 28)]), (20, 20, []), (22, 2, [(0, 30), (1, 37)]), (8, 9, [(2, 31), (3, 33), (4, 35), (5, 1)]), (6, 2, [(0, 32)]), (20, 50, []), (6, 2, [(0, 34)]), (20, 50, []), (6, 2, [(0, 36)]), (20, 50, []), (8, 9, [(2, 38), (3, 40), (4, 42), (5, 1)]), (6, 2, [(0, 39)]), (20, 50, []), (6, 2, [(0, 41)]), (20, 50, []), (6, 2, [(0, 43)]), (20, 50, []), (1, 10, [(0, 45), (1, 46), (7, 55), (8, 57), (9, 59)]), (20, 24, []), (21, 8, [(0, 47), (1, 48), (2, 49), (3, 50), (4, 51), (5, 52), (6, 53), (7, 54)]), (4, 16, []), (4, 16, []), (4, 16, []), (4, 16, []), (4, 16, []), (4, 16, []), (4, 16, []), (4, 16, []), (6, 2, [(0, 56)]), (20, 50, []), (6, 2, [(0, 58)]), (20, 20, []), (22, 2, [(0, 60), (1, 67)]), (8, 9, [(2, 61), (3, 63), (4, 65), (5, 1)]), (6, 2, [(0, 62)]), (20, 50, []), (6, 2, [(0, 64)]), (20, 50, []), (6, 2, [(0, 66)]), (20, 50, []), (8, 9, [(2, 68), (3, 70), (4, 72), (5, 1)]), (6, 2, [(0, 69)]), (20, 50, []), (6, 2, [(0, 71)]), (20, 50, []), (6, 2, [(0, 73)]), (20, 50, []), (1, 10, [(0, 75), (1, 76), (7, 85), (8, 87), (9, 89)]), (20, 24, []), (21, 8, [(0, 77), (1, 78), (2, 79), (3, 80), (4, 81), (5, 82), (6, 83), (7, 84)]), (4, 16, []), (4, 16, []), (4, 16, []), (4, 16, []), (4, 16, []), (4, 16, []), (4, 16, []), (4, 16, []), (6, 2, [(0, 86)]), (20, 50, []), (6, 2, [(0, 88)]), (20, 20, []), (22, 2, [(0, 90), (1, 97)]), (8, 9, [(2, 91), (3, 93), (4, 95), (5, 1)]), (6, 2, [(0, 92)]), (20, 50, []), (6, 2, [(0, 94)]), (20, 50, []), (6, 2, [(0, 96)]), (20, 50, []), (8, 9, [(2, 98), (3, 100), (4, 102), (5, 1)]), (6, 2, [(0, 99)]), (20, 50, []), (6, 2, [(0, 101)]), (20, 50, []), (6, 2, [(0, 103)]), (20, 50, []), (8, 9, [(2, 105), (3, 107), (4, 109)]), (6, 2, [(0, 106)]), (20, 50, []), (6, 2, [(0, 108)]), (20, 50, []), (6, 2, [(0, 110)]), (20, 50, []), (6, 2, [(0, 112)]), (20, 40, []), (23, 4, [(0, 114), (1, 116), (2, 118), (3, 120)]), (6, 2, [(0, 115)]), (20, 40, []), (6, 2, [(0, 117)]), (20, 40, []), (6, 2, [(0, 119)]), (20, 40, []), (6, 2, [(0, 121)]), (20, 40, []), (20, 4, []), (20, 6, []), (12, 25, [(0, 125), (1, 126), (2, 127), (4, 128), (11, 129), (14, 130), (18, 131), (21, 132), (22, 133), (23, 134), (24, 135)]), (20, 286, []), (20, 286, []), (20, 114, []), (20, 6, []), (20, 3, []), (20, 32, []), (20, 40, []), (20, 4, []), (20, 4, []), (20, 160, []), (20, 40, [])]
def mf_hd (a : Nat) : Nat := (mf_sh.getD (a - 5) (0, 0, [])).1
def mf_sz (a : Nat) : Nat := (mf_sh.getD (a - 5) (0, 0, [])).2.1
def mf_rf (a j : Nat) : Option Nat := (mf_sh.getD (a - 5) (0, 0, [])).2.2.lookup j
/-- a cell's place: a reference of the shape, the draft's names, or an int -/
def mf_v (I : Nat → Nat → Int32) (nm a j : Nat) : Value := match mf_rf a j with
  | some b => .ref b
  | none => if a = 104 ∧ j = 5 then .ref nm else .int (I a j)
def mf_c (I : Nat → Nat → Int32) (nm a : Nat) : Nat × List Value := (mf_hd a, (List.range (mf_sz a)).map (mf_v I nm a))
def mf_M (I : Nat → Nat → Int32) (nm : Nat) (sc : List Value) : mi_M := mi_spec sc ++ (List.range 131).map (fun k => mf_c I nm (k + 5))
def mf_up (I : Nat → Nat → Int32) (a j : Nat) (v : Int32) : Nat → Nat → Int32 := fun b k => if b = a ∧ k = j then v else I b k
def mf_in : List (List (Nat × Int32)) := [[], [], [], [], [], [], [], [], [], [(6, 1)], [(0, 1), (1, 1), (2, 1), (3, 1), (4, 1), (5, 1), (6, 1), (7, 1), (8, 1), (9, 1), (10, 1), (11, 1), (12, 1), (13, 1), (14, 1), (15, 1), (16, 1), (17, 1), (18, 1), (19, 1), (20, 1), (21, 1), (22, 1), (23, 1)], [], [(0, 0), (7, -1)], [(0, 1), (7, -1)], [(0, 2), (7, -1)], [(0, 3), (7, -1)], [(0, 4), (7, -1)], [(0, 5), (7, -1)], [(0, 6), (7, -1)], [(0, 7), (7, -1)], [], [], [], [], [], [(0, -2147483648), (1, 2147483647)], [(1, 1)], [(0, -1)], [], [], [], [], [(0, -99), (1, 99)], [(1, 1)], [(0, -1)], [], [], [], [], [(6, 1)], [(0, 1), (1, 1), (2, 1), (3, 1), (4, 1), (5, 1), (6, 1), (7, 1), (8, 1), (9, 1), (10, 1), (11, 1), (12, 1), (13, 1), (14, 1), (15, 1), (16, 1), (17, 1), (18, 1), (19, 1), (20, 1), (21, 1), (22, 1), (23, 1)], [], [(0, 0), (7, -1)], [(0, 1), (7, -1)], [(0, 2), (7, -1)], [(0, 3), (7, -1)], [(0, 4), (7, -1)], [(0, 5), (7, -1)], [(0, 6), (7, -1)], [(0, 7), (7, -1)], [], [], [], [], [], [(0, -2147483648), (1, 2147483647)], [(1, 1)], [(0, -1)], [], [], [], [], [(0, -99), (1, 99)], [(1, 1)], [(0, -1)], [], [], [], [], [(6, 1)], [(0, 1), (1, 1), (2, 1), (3, 1), (4, 1), (5, 1), (6, 1), (7, 1), (8, 1), (9, 1), (10, 1), (11, 1), (12, 1), (13, 1), (14, 1), (15, 1), (16, 1), (17, 1), (18, 1), (19, 1), (20, 1), (21, 1), (22, 1), (23, 1)], [], [(0, 0), (7, -1)], [(0, 1), (7, -1)], [(0, 2), (7, -1)], [(0, 3), (7, -1)], [(0, 4), (7, -1)], [(0, 5), (7, -1)], [(0, 6), (7, -1)], [(0, 7), (7, -1)], [], [], [], [], [], [(0, -2147483648), (1, 2147483647)], [(1, 1)], [(0, -1)], [], [], [], [], [(0, -99), (1, 99)], [(1, 1)], [(0, -1)], [], [], [], [], [(0, -2147483648), (1, 2147483647)], [(1, 1)], [(0, -1)], [], [], [], [], [], [], [], [], [], [], [], [], [], [], [], [], [], [], [(4, 1), (10, 1), (11, 1), (12, 1), (13, 1), (14, 1), (15, 1), (16, 1), (17, 1), (18, 1), (19, 1), (20, 1), (21, 1), (22, 1), (23, 1), (24, 1), (25, 1), (26, 1), (27, 1), (28, 1), (29, 1), (30, 1), (31, 1), (32, 1), (33, 1)], [], [], [], [], [], [], [], [], [], []]
def mf_0 : Nat → Nat → Int32 := fun a j => ((mf_in.getD (a - 5) []).lookup j).getD 0
/-- the law's run from its entry to its loop, over a script that nobody asks -/
def mf_dm : mi_M := (40, []) :: (mi_spec []).drop 1
/-- so many steps of MINI's -/
def mi_st (f : mi_F) (own : Nat) (ini rz : Bool) (code : List (Nat × Instr)) : Nat → Nat → List Value → List Value → mi_M → Option (Nat × List Value × List Value × mi_M)
  | 0, pc, ls, st, mem => some (pc, ls, st, mem)
  | n + 1, pc, ls, st, mem => (code.lookup pc).bind fun i => match mi_ret rz i st with
    | some _ => none
    | none => (mi_one f own ini i pc ls st mem).bind fun q => mi_st f own ini rz code n q.1 q.2.1 q.2.2.1 q.2.2.2
theorem mi_st_go {f : mi_F} {own : Nat} {ini rz : Bool} {code : List (Nat × Instr)} : ∀ (k n pc : Nat) (ls st : List Value) (mem : mi_M) (q : Nat × List Value × List Value × mi_M), mi_st f own ini rz code k pc ls st mem = some q → mi_go f own ini rz code (n + k) pc ls st mem = mi_go f own ini rz code n q.1 q.2.1 q.2.2.1 q.2.2.2 := by
  intro k
  induction k with
  | zero => intro n pc ls st mem q h; cases h; rfl
  | succ k ih =>
    intro n pc ls st mem q h
    unfold mi_st at h
    obtain ⟨i, hi, h2⟩ := Option.bind_eq_some_iff.mp h
    rw [show n + (k + 1) = (n + k) + 1 from rfl]
    rw [mi_go, hi, Option.bind_some]
    split at h2
    · cases h2
    next hr =>
      rw [hr]
      obtain ⟨x, hx, h3⟩ := Option.bind_eq_some_iff.mp h2
      rw [hx, Option.bind_some]
      exact ih n _ _ _ _ q h3
theorem mf_init : mi_st (mi_run 400 8) 13 false true mi_k231 10 0 (mi_ent [.ref 0] 4) [] mf_dm = some (18, [.ref 0, .ref 5, .ref 124, .int 0], [], (40, []) :: (mf_M mf_0 1 []).drop 1) := by decide +kernel
end
section
/-! a run that never asks cell 0 goes alike whatever lies there -/
def mz_0 (mem : mi_M) : Prop := mem[0]? = some (40, [])
theorem mz_get {mem : mi_M} {a : Nat} {c x : Nat × List Value} (h0 : mz_0 mem) (h : mem[a]? = some x) (hk : x.1 ≠ 40) : (mem.set 0 c)[a]? = some x ∧ a ≠ 0 := by
  have ha : a ≠ 0 := by
    intro e
    subst e
    have h1 : mem[0]? = some (40, []) := h0
    rw [h] at h1
    cases h1
    exact hk rfl
  exact ⟨by rw [List.getElem?_set_ne (fun z => ha z.symm)]; exact h, ha⟩
theorem mz_set {mem : mi_M} {a : Nat} {c x : Nat × List Value} (ha : a ≠ 0) : (mem.set a x).set 0 c = (mem.set 0 c).set a x := List.set_comm _ _ ha
theorem mz_set0 {mem : mi_M} {a : Nat} {x : Nat × List Value} (h0 : mz_0 mem) (ha : a ≠ 0) : mz_0 (mem.set a x) := by
  unfold mz_0
  rw [List.getElem?_set_ne ha]
  exact h0
theorem mz_pos {mem : mi_M} (h0 : mz_0 mem) : 0 < mem.length := (List.getElem?_eq_some_iff.mp h0).1
theorem mz_app {mem : mi_M} {c x : Nat × List Value} (h0 : mz_0 mem) : (mem ++ [x]).set 0 c = mem.set 0 c ++ [x] := by
  rw [List.set_append_left _ _ (mz_pos h0)]
theorem mz_app0 {mem : mi_M} {x : Nat × List Value} (h0 : mz_0 mem) : mz_0 (mem ++ [x]) := by
  unfold mz_0
  rw [List.getElem?_append_left (mz_pos h0)]
  exact h0
theorem mz_gf {own k : Nat} {g : Nat × Nat} (hg : mi_gf own k = some g) : g.1 < 13 := by
  unfold mi_gf at hg
  split at hg
  next x hx => cases hg; exact of_decide_eq_true (List.all_eq_true.mp (show mi_fl.all (fun q => decide (q.2.1 < 13)) = true by decide +kernel) _ (mi_look hx))
  next =>
    obtain ⟨x, hx, rfl⟩ := Option.map_eq_some_iff.mp hg
    exact of_decide_eq_true (List.all_eq_true.mp (show mi_fn.all (fun q => decide (q.2.1 < 13)) = true by decide +kernel) _ (mi_look hx))
theorem mz_ld {mem : mi_M} {a h : Nat} {c : Nat × List Value} {fs : List Value} (h0 : mz_0 mem) (hl : mem[a]? = some (h, fs)) (hk : h ≠ 40) : mi_ld (mem.set 0 c) a h = some fs := by
  unfold mi_ld
  rw [(mz_get h0 hl hk).1, Option.bind_some, if_pos rfl]
theorem mz_Y {own : Nat} {ini : Bool} {i : Instr} {st : List Value} {mem : mi_M} {q : List Value × mi_M} (c : Nat × List Value) (h0 : mz_0 mem) (h : mi_Y own ini i st mem = some q) : mi_Y own ini i st (mem.set 0 c) = some (q.1, q.2.set 0 c) ∧ mz_0 q.2 := by
  unfold mi_Y at h ⊢
  split at h
  · obtain ⟨a, r, g, fs, v, rfl, hg, hfs, hv, rfl⟩ := mi_getf_inv h
    have h13 := mz_gf hg
    refine ⟨?_, h0⟩
    show mi_getf own _ (.ref a :: r) _ = _
    simp only [mi_getf, hg, Option.bind_some, mz_ld h0 hfs (by omega), hv, Option.map_some]
  · obtain ⟨v, a, r, g, fs, rfl, hg, hfs, h1, h2, h3, rfl⟩ := mi_putf_inv h
    have h13 := mz_gf hg
    have ha := (mz_get (c := c) h0 hfs (by show g.1 ≠ 40; omega)).2
    refine ⟨?_, mz_set0 h0 ha⟩
    show mi_putf own ini _ (v :: .ref a :: r) _ = _
    simp only [mi_putf, hg, Option.bind_some, mz_ld h0 hfs (by omega)]
    rw [if_pos ⟨h1, h2, h3⟩, mz_set ha]
  · unfold mi_gets at h
    obtain ⟨x, hx, rfl⟩ := Option.map_eq_some_iff.mp h
    refine ⟨?_, h0⟩
    show mi_gets own _ st _ = _
    simp only [mi_gets, hx, Option.map_some]
  · obtain ⟨i, a, r, x, v, rfl, hc, hk, hix, hv, rfl⟩ := mi_ial_inv h
    refine ⟨?_, h0⟩
    show mi_ial (.int i :: .ref a :: r) _ = _
    simp only [mi_ial, (mz_get h0 hc (by rcases hk with hk | hk | hk <;> (rw [hk]; decide))).1, Option.bind_some]
    rw [if_pos ⟨hk, hix⟩, hv]
  · obtain ⟨x, i, a, r, cs, rfl, hc, hix, rfl⟩ := mi_ias_inv h
    have ha := (mz_get (c := c) h0 hc (show (20 : Nat) ≠ 40 by decide)).2
    refine ⟨?_, mz_set0 h0 ha⟩
    show mi_ias (.int x :: .int i :: .ref a :: r) _ = _
    simp only [mi_ias, Option.bind_some, mz_ld h0 hc (by decide)]
    rw [if_pos hix, mz_set ha]
  · obtain ⟨i, a, r, x, b, rfl, hc, hk, hix, hv, rfl⟩ := mi_aal_inv h
    refine ⟨?_, h0⟩
    show mi_aal (.int i :: .ref a :: r) _ = _
    simp only [mi_aal, (mz_get h0 hc (by omega)).1, Option.bind_some]
    rw [if_pos ⟨hk, hix⟩, hv]
  · obtain ⟨b, i, a, r, x, y, rfl, hc, hd, hcan, hix, rfl⟩ := mi_aas_inv h
    have h1 : x.1 ≠ 40 ∧ y.1 ≠ 40 := by rcases mi_can_lt hcan with h | h | h | h <;> omega
    have ha := (mz_get (c := c) h0 hc h1.1).2
    refine ⟨?_, mz_set0 h0 ha⟩
    show mi_aas (.ref b :: .int i :: .ref a :: r) _ = _
    simp only [mi_aas, Option.bind_some, (mz_get (c := c) h0 hc h1.1).1, (mz_get (c := c) h0 hd h1.2).1]
    rw [if_pos ⟨hcan, hix⟩, mz_set ha]
  · obtain ⟨a, r, x, rfl, hc, hk, rfl⟩ := mi_aln_inv h
    refine ⟨?_, h0⟩
    show mi_aln (.ref a :: r) _ = _
    simp only [mi_aln, (mz_get h0 hc (by omega)).1, Option.bind_some]
    rw [if_pos hk]
  · obtain ⟨n, r, rfl, h1, h2, rfl⟩ := mi_nwa_inv h
    refine ⟨?_, mz_app0 h0⟩
    show mi_nwa (.int n :: r) _ = _
    simp only [mi_nwa, List.length_set]
    rw [if_pos ⟨h1, h2⟩, mz_app h0]
  · obtain ⟨n, r, g, rfl, hg, h1, h2, rfl⟩ := mi_nwq_inv h
    refine ⟨?_, mz_app0 h0⟩
    show mi_nwq own _ (.int n :: r) _ = _
    simp only [mi_nwq, hg, Option.bind_some, List.length_set]
    rw [if_pos ⟨h1, h2⟩, mz_app h0]
  · obtain ⟨g, fs, hg, hfs, rfl⟩ := mi_nw_inv h
    refine ⟨?_, mz_app0 h0⟩
    show mi_nw own _ st _ = _
    simp only [mi_nw, hg, Option.bind_some, hfs, Option.map_some, List.length_set]
    rw [mz_app h0]
  · unfold mi_ldk at h ⊢
    split at h
    · cases h; exact ⟨rfl, h0⟩
    · obtain ⟨x, hx, rfl⟩ := Option.map_eq_some_iff.mp h
      exact ⟨by rw [hx]; rfl, h0⟩
  · unfold mi_ldk2 at h ⊢
    obtain ⟨x, hx, rfl⟩ := Option.map_eq_some_iff.mp h
    exact ⟨by rw [hx]; rfl, h0⟩
  · cases h
def mz_F (f : mi_F) : Prop := ∀ (t : Nat) (as : List Value) (mem : mi_M) (q : Option Value × mi_M) (c : Nat × List Value), mz_0 mem → f t as mem = some q → f t as (mem.set 0 c) = some (q.1, q.2.set 0 c) ∧ mz_0 q.2
theorem mz_cat {f : mi_F} (hf : mz_F f) {t n : Nat} {st : List Value} {mem : mi_M} {q : List Value × mi_M} (c : Nat × List Value) (h0 : mz_0 mem) (h : mi_cat f t n st mem = some q) : mi_cat f t n st (mem.set 0 c) = some (q.1, q.2.set 0 c) ∧ mz_0 q.2 := by
  unfold mi_cat at h ⊢
  split at h
  · split at h
    next hc =>
      rw [if_pos hc]
      obtain ⟨x, hx, rfl⟩ := Option.map_eq_some_iff.mp h
      have h1 := hf _ _ _ _ c h0 hx
      rw [h1.1]
      exact ⟨rfl, h1.2⟩
    · cases h
  · cases h
theorem mz_sat {f : mi_F} (hf : mz_F f) {t n : Nat} {st : List Value} {mem : mi_M} {q : List Value × mi_M} (c : Nat × List Value) (h0 : mz_0 mem) (h : mi_sat f t n st mem = some q) : mi_sat f t n st (mem.set 0 c) = some (q.1, q.2.set 0 c) ∧ mz_0 q.2 := by
  unfold mi_sat at h ⊢
  split at h
  next hc =>
    rw [if_pos hc]
    obtain ⟨x, hx, rfl⟩ := Option.map_eq_some_iff.mp h
    have h1 := hf _ _ _ _ c h0 hx
    rw [h1.1]
    exact ⟨rfl, h1.2⟩
  · cases h
theorem mz_vt {own k h t : Nat} (hv : mi_vt own k h = some t) : h ≠ 40 := by
  unfold mi_vt at hv
  split at hv
  next x hx => exact fun e => absurd (of_decide_eq_true (List.all_eq_true.mp (show mi_cv.all (fun q => decide (q.1.2.2 < 13)) = true by decide +kernel) _ (mi_look hx))) (by rw [e]; show ¬ (40 : Nat) < 13; decide)
  next =>
    obtain ⟨x, hx, rfl⟩ := Option.map_eq_some_iff.mp hv
    exact fun e => absurd (of_decide_eq_true (List.all_eq_true.mp (show mi_cu.all (fun q => decide (q.1.2.2 < 13)) = true by decide +kernel) _ (mi_look hx))) (by rw [e]; show ¬ (40 : Nat) < 13; decide)
theorem mz_Z {f : mi_F} (hf : mz_F f) {own : Nat} {i : Instr} {st : List Value} {mem : mi_M} {q : List Value × mi_M} (c : Nat × List Value) (h0 : mz_0 mem) (h : mi_Z f own i st mem = some q) : mi_Z f own i st (mem.set 0 c) = some (q.1, q.2.set 0 c) ∧ mz_0 q.2 := by
  unfold mi_Z at h ⊢
  split at h
  · unfold mi_Zv at h ⊢
    split at h
    · split at h
      next h5 =>
        rw [if_pos h5]
        unfold mi_sio at h ⊢
        split at h
        · obtain ⟨cs, hcs, h2⟩ := Option.bind_eq_some_iff.mp h
          rw [mz_ld h0 (mi_ld_inv hcs) (by decide), Option.bind_some]
          split at h2
          next hl => cases h2; rw [if_pos hl]; exact ⟨rfl, h0⟩
          · cases h2
        · cases h
      · cases h
    · obtain ⟨n, hn, h2⟩ := Option.bind_eq_some_iff.mp h
      rw [hn, Option.bind_some]
      unfold mi_cvt at h2 ⊢
      split at h2
      · obtain ⟨cc, hcc, h3⟩ := Option.bind_eq_some_iff.mp h2
        obtain ⟨t, ht, h4⟩ := Option.bind_eq_some_iff.mp h3
        rw [(mz_get h0 hcc (mz_vt ht)).1, Option.bind_some, ht, Option.bind_some]
        exact mz_cat hf c h0 h4
      · cases h2
  · unfold mi_Zs at h ⊢
    split at h
    · split at h
      next h1 =>
        rw [if_pos h1]
        unfold mi_mx at h ⊢
        split at h
        · split at h
          next hl => cases h; rw [if_pos hl]; exact ⟨rfl, h0⟩
          · cases h
        · cases h
      next h1 =>
        rw [if_neg h1]
        split at h
        next h2 =>
          rw [if_pos h2]
          unfold mi_mn at h ⊢
          split at h
          · split at h
            next hl => cases h; rw [if_pos hl]; exact ⟨rfl, h0⟩
            · cases h
          · cases h
        next h2 =>
          rw [if_neg h2]
          split at h
          next h3 =>
            rw [if_pos h3]
            obtain ⟨n, dp, a, sp, a0, r, f', g, rfl, hf', hg, hh, rfl⟩ := mi_acp_inv h
            have ha := (mz_get (c := c) h0 hg (show (20 : Nat) ≠ 40 by decide)).2
            refine ⟨?_, mz_set0 h0 ha⟩
            simp only [mi_acp, Option.bind_some, mz_ld h0 hf' (show (20 : Nat) ≠ 40 by decide), mz_ld h0 hg (show (20 : Nat) ≠ 40 by decide)]
            rw [if_pos hh, mz_set ha]
          · cases h
    · split at h
      · exact mz_sat hf c h0 h
      · obtain ⟨x, hx, h2⟩ := Option.bind_eq_some_iff.mp h
        rw [hx, Option.bind_some]
        exact mz_sat hf c h0 h2
  · unfold mi_Zp at h ⊢
    split at h
    · split at h
      next h4 =>
        rw [if_pos h4]
        unfold mi_oi at h ⊢
        split at h
        · split at h
          next hl => cases h; rw [if_pos hl]; exact ⟨rfl, h0⟩
          · cases h
        · cases h
      · cases h
    · split at h
      · exact mz_cat hf c h0 h
      · split at h
        · exact mz_cat hf c h0 h
        · obtain ⟨x, hx, h2⟩ := Option.bind_eq_some_iff.mp h
          rw [hx, Option.bind_some]
          unfold mi_csu at h2 ⊢
          split at h2
          · obtain ⟨cc, hcc, h3⟩ := Option.bind_eq_some_iff.mp h2
            split at h3
            next h13 =>
              rw [(mz_get h0 hcc (by omega)).1, Option.bind_some, if_pos h13]
              exact mz_cat hf c h0 h3
            · cases h3
          · cases h2
  · cases h
theorem mz_one {f : mi_F} (hf : mz_F f) {own pc : Nat} {ini : Bool} {i : Instr} {ls st : List Value} {mem : mi_M} {q : Nat × List Value × List Value × mi_M} (c : Nat × List Value) (h0 : mz_0 mem) (h : mi_one f own ini i pc ls st mem = some q) : mi_one f own ini i pc ls st (mem.set 0 c) = some (q.1, q.2.1, q.2.2.1, q.2.2.2.set 0 c) ∧ mz_0 q.2.2.2 := by
  unfold mi_one at h ⊢
  split at h
  · cases h; exact ⟨rfl, h0⟩
  · split at h
    · cases h; exact ⟨rfl, h0⟩
    · split at h
      · cases h; exact ⟨rfl, h0⟩
      next hL =>
        split at h
        next x hx =>
          cases h
          have h1 := mz_Y c h0 hx
          rw [h1.1]
          exact ⟨rfl, h1.2⟩
        next hY =>
          obtain ⟨x, hx, rfl⟩ := Option.map_eq_some_iff.mp h
          have h1 := mz_Z hf c h0 hx
          have hYn : mi_Y own ini i st (mem.set 0 c) = none := by
            unfold mi_Z at hx
            split at hx
            · rfl
            · rfl
            · rfl
            · cases hx
          rw [hYn, h1.1]
          exact ⟨rfl, h1.2⟩
theorem mz_go {f : mi_F} (hf : mz_F f) {own : Nat} {ini rz : Bool} {code : List (Nat × Instr)} : ∀ (n pc : Nat) (ls st : List Value) (mem : mi_M) (q : Option Value × mi_M) (c : Nat × List Value), mz_0 mem → mi_go f own ini rz code n pc ls st mem = some q → mi_go f own ini rz code n pc ls st (mem.set 0 c) = some (q.1, q.2.set 0 c) ∧ mz_0 q.2 := by
  intro n
  induction n with
  | zero => intro pc ls st mem q c _ h; cases h
  | succ n ih =>
    intro pc ls st mem q c h0 h
    unfold mi_go at h ⊢
    obtain ⟨i, hi, h2⟩ := Option.bind_eq_some_iff.mp h
    rw [hi, Option.bind_some]
    split at h2
    · cases h2; exact ⟨rfl, h0⟩
    next hr =>
      obtain ⟨x, hx, h3⟩ := Option.bind_eq_some_iff.mp h2
      have h1 := mz_one hf c h0 hx
      rw [h1.1, Option.bind_some]
      exact ih _ _ _ _ _ c h1.2 h3
theorem mz_run (N : Nat) : ∀ d, mz_F (mi_run N d) := by
  intro d
  induction d with
  | zero => intro t as mem q c _ h; cases h
  | succ d ih =>
    intro t as mem q c h0 h
    simp only [mi_run] at h ⊢
    split at h
    next ht =>
      rw [if_pos ht]
      split at h
      next h4 => cases h; rw [if_pos h4]; exact ⟨rfl, h0⟩
      · cases h
    next ht =>
      rw [if_neg ht]
      obtain ⟨x, hx, h2⟩ := Option.bind_eq_some_iff.mp h
      rw [hx, Option.bind_some]
      split at h2
      · cases h2
      next h3 =>
        rw [if_neg h3]
        exact mz_go ih _ _ _ _ _ _ c h0 h2
theorem mz_st {f : mi_F} (hf : mz_F f) {own : Nat} {ini rz : Bool} {code : List (Nat × Instr)} : ∀ (n pc : Nat) (ls st : List Value) (mem : mi_M) (q : Nat × List Value × List Value × mi_M) (c : Nat × List Value), mz_0 mem → mi_st f own ini rz code n pc ls st mem = some q → mi_st f own ini rz code n pc ls st (mem.set 0 c) = some (q.1, q.2.1, q.2.2.1, q.2.2.2.set 0 c) := by
  intro n
  induction n with
  | zero => intro pc ls st mem q c _ h; cases h; rfl
  | succ n ih =>
    intro pc ls st mem q c h0 h
    unfold mi_st at h ⊢
    obtain ⟨i, hi, h2⟩ := Option.bind_eq_some_iff.mp h
    rw [hi, Option.bind_some]
    split at h2
    · cases h2
    next hr =>
      obtain ⟨x, hx, h3⟩ := Option.bind_eq_some_iff.mp h2
      have h1 := mz_one hf c h0 hx
      rw [h1.1, Option.bind_some]
      exact ih _ _ _ _ _ c h1.2 h3
/-- the law's run to its loop -/
theorem mf_begin (sc : List Value) : mi_st (mi_run 400 8) 13 false true mi_k231 10 0 (mi_ent [.ref 0] 4) [] (mi_spec sc) = some (18, [.ref 0, .ref 5, .ref 124, .int 0], [], mf_M mf_0 1 sc) := by
  have h := mz_st (mz_run 400 8) _ _ _ _ _ _ (30, sc) (show mz_0 mf_dm from rfl) mf_init
  exact h
end
section
/-! walking MINI's code over the shape: GG: from here the method ends with Q; SP: the whole method -/
abbrev mg_I : Type := Nat → Nat → Int32
def GG (sc : List Value) (own : Nat) (ini rz : Bool) (code : List (Nat × Instr)) (d pc : Nat) (ls st : List Value) (I : mg_I) (nm : Nat) (Q : Option Value → mg_I → Nat → Prop) : Prop :=
  ∃ (N n : Nat) (r : Option Value) (I' : mg_I) (nm' : Nat), mi_go (mi_run N d) own ini rz code n pc ls st (mf_M I nm sc) = some (r, mf_M I' nm' sc) ∧ Q r I' nm'
def SP (sc : List Value) (h t : Nat) (as : List Value) (I : mg_I) (nm : Nat) (Q : Option Value → mg_I → Nat → Prop) : Prop :=
  ∀ d, h ≤ d → ∃ (N : Nat) (r : Option Value) (I' : mg_I) (nm' : Nat), mi_run N d t as (mf_M I nm sc) = some (r, mf_M I' nm' sc) ∧ Q r I' nm'
/-- an answer v, and nothing changed -/
def qE (v : Int32) (I : mg_I) (nm : Nat) : Option Value → mg_I → Nat → Prop := fun r I' nm' => r = some (.int v) ∧ I' = I ∧ nm' = nm
/-- an answer with P -/
def qI (P : Int32 → mg_I → Nat → Prop) : Option Value → mg_I → Nat → Prop := fun r I' nm' => ∃ v, r = some (.int v) ∧ P v I' nm'
/-- no answer -/
def qV (P : mg_I → Nat → Prop) : Option Value → mg_I → Nat → Prop := fun r I' nm' => r = none ∧ P I' nm'
theorem SP.mono {sc : List Value} {h t : Nat} {as : List Value} {I : mg_I} {nm : Nat} {Q Q' : Option Value → mg_I → Nat → Prop} (hs : SP sc h t as I nm Q) (hq : ∀ r I' nm', Q r I' nm' → Q' r I' nm') : SP sc h t as I nm Q' := by
  intro d hd
  obtain ⟨N, r, I', nm', h1, h2⟩ := hs d hd
  exact ⟨N, r, I', nm', h1, hq _ _ _ h2⟩
theorem GG.mono {sc : List Value} {own : Nat} {ini rz : Bool} {code : List (Nat × Instr)} {d pc : Nat} {ls st : List Value} {I : mg_I} {nm : Nat} {Q Q' : Option Value → mg_I → Nat → Prop} (hs : GG sc own ini rz code d pc ls st I nm Q) (hq : ∀ r I' nm', Q r I' nm' → Q' r I' nm') : GG sc own ini rz code d pc ls st I nm Q' := by
  obtain ⟨N, n, r, I', nm', h1, h2⟩ := hs
  exact ⟨N, n, r, I', nm', h1, hq _ _ _ h2⟩
theorem SP.of {sc : List Value} {h t : Nat} {as : List Value} {I : mg_I} {nm : Nat} {Q : Option Value → mg_I → Nat → Prop} {q : mi_Mt} (hm : mi_mt[t]? = some q) (ht : t ≠ 1000) (hf : ¬ q.2.2.1 < (mi_args as).length)
    (k : ∀ d, h ≤ d → GG sc q.2.2.2.2.1 (mi_ii.contains t) (decide (q.2.2.2.1 = some .boolean)) q.2.2.2.2.2.2 d 0 (mi_ent as q.2.2.1) [] I nm Q) : SP sc (h + 1) t as I nm Q := by
  intro d hd
  obtain ⟨d, rfl⟩ : ∃ k, d = k + 1 := ⟨d - 1, by omega⟩
  obtain ⟨N, n, r, I', nm', h1, h2⟩ := k d (by omega)
  refine ⟨N + n, r, I', nm', ?_, h2⟩
  simp only [mi_run]
  rw [if_neg ht, hm, Option.bind_some, if_neg hf]
  exact mi_go_le (mi_run_le (by omega) d d (Nat.le_refl d)) _ _ _ _ _ _ _ (by omega) h1
/-! the shape -/
theorem mf_len {I : mg_I} {nm : Nat} {sc : List Value} : (mf_M I nm sc).length = 136 := by simp [mf_M, mi_spec]
theorem mf_get {I : mg_I} {nm : Nat} {sc : List Value} {a : Nat} (h5 : 5 ≤ a) (h : a < 136) : (mf_M I nm sc)[a]? = some (mf_c I nm a) := by
  unfold mf_M
  rw [List.getElem?_append_right (by show 5 ≤ a; exact h5), List.getElem?_map, show (mi_spec sc).length = 5 from rfl, List.getElem?_range (by omega), Option.map_some, show a - 5 + 5 = a by omega]
theorem mf_get4 {I : mg_I} {nm : Nat} {sc : List Value} {a : Nat} (h : a < 5) : (mf_M I nm sc)[a]? = (mi_spec sc)[a]? := by
  unfold mf_M
  rw [List.getElem?_append_left (by show a < 5; exact h)]
theorem mf_slot {I : mg_I} {nm a j : Nat} (h : j < mf_sz a) : (mf_c I nm a).2[j]? = some (mf_v I nm a j) := by
  unfold mf_c
  rw [List.getElem?_map, List.getElem?_range h, Option.map_some]
theorem mf_clen {I : mg_I} {nm a : Nat} : (mf_c I nm a).2.length = mf_sz a := by simp [mf_c]
theorem mf_sum {I I' : mg_I} {nm nm' a : Nat} (h : ∀ b, b ≠ a → ∀ j, mf_v I' nm' b j = mf_v I nm b j) {sc : List Value} (h5 : 5 ≤ a) (ha : a < 136) : (mf_M I nm sc).set a (mf_c I' nm' a) = mf_M I' nm' sc := by
  apply List.ext_getElem?
  intro b
  by_cases hb : b = a
  · subst hb
    rw [List.getElem?_set_self (by rw [mf_len]; exact ha), mf_get h5 ha]
  · rw [List.getElem?_set_ne (fun z => hb z.symm)]
    by_cases h5b : b < 5
    · rw [mf_get4 h5b, mf_get4 h5b]
    · by_cases hb2 : b < 136
      · rw [mf_get (by omega) hb2, mf_get (by omega) hb2]
        refine congrArg some ?_
        unfold mf_c
        refine congrArg (fun l => (mf_hd b, l)) (List.map_congr_left fun j _ => ?_)
        exact (h b hb j).symm
      · rw [List.getElem?_eq_none (by rw [mf_len]; omega), List.getElem?_eq_none (by rw [mf_len]; omega)]
/-- an int's place -/
def mf_int (a j : Nat) : Prop := 5 ≤ a ∧ a < 136 ∧ j < mf_sz a ∧ mf_rf a j = none ∧ ¬ (a = 104 ∧ j = 5)
theorem mf_v_int {I : mg_I} {nm a j : Nat} (h : mf_int a j) : mf_v I nm a j = .int (I a j) := by
  unfold mf_v
  rw [h.2.2.2.1]
  exact if_neg h.2.2.2.2
theorem mf_up_set {I : mg_I} {nm a j : Nat} {v : Int32} (h : mf_int a j) : ((mf_c I nm a).1, (mf_c I nm a).2.set j (.int v)) = mf_c (mf_up I a j v) nm a := by
  unfold mf_c
  refine congrArg (fun l => (mf_hd a, l)) (List.ext_getElem? fun k => ?_)
  by_cases hk : k = j
  · subst hk
    rw [List.getElem?_set_self (by simpa using h.2.2.1), List.getElem?_map, List.getElem?_range h.2.2.1, Option.map_some, mf_v_int h]
    simp [mf_up]
  · rw [List.getElem?_set_ne (fun z => hk z.symm), List.getElem?_map, List.getElem?_map]
    by_cases hk2 : k < mf_sz a
    · rw [List.getElem?_range hk2, Option.map_some, Option.map_some]
      refine congrArg some ?_
      unfold mf_v mf_up
      simp [hk]
    · rw [List.getElem?_eq_none (by simpa using hk2)]
      rfl
theorem mf_up_M {I : mg_I} {nm a j : Nat} {v : Int32} {sc : List Value} (h : mf_int a j) : (mf_M I nm sc).set a (mf_hd a, (mf_c I nm a).2.set j (.int v)) = mf_M (mf_up I a j v) nm sc := by
  have e := mf_up_set (I := I) (nm := nm) (v := v) h
  rw [show (mf_hd a, (mf_c I nm a).2.set j (.int v)) = ((mf_c I nm a).1, (mf_c I nm a).2.set j (.int v)) from rfl, e]
  refine mf_sum (fun b hb k => ?_) h.1 h.2.1
  unfold mf_v mf_up
  simp [hb]
end
section
/-! a row an instruction -/
/-- the instruction at a place, and the next place -/
def mg_f (code : List (Nat × Instr)) (pc : Nat) : Option (Instr × Nat) := (code.lookup pc).map fun i => (i, pc + mi_len i)
section GR
variable {sc : List Value} {own : Nat} {ini rz : Bool} {code : List (Nat × Instr)} {d pc n : Nat} {ls : List Value} {I : mg_I} {nm : Nat} {Q : Option Value → mg_I → Nat → Prop}
theorem g_step {i : Instr} {n' : Nat} {ls' st st' : List Value} {I' : mg_I} {nm' : Nat} (h : mg_f code pc = some (i, n)) (hr : mi_ret rz i st = none) (h1 : ∀ f : mi_F, mi_one f own ini i pc ls st (mf_M I nm sc) = some (n', ls', st', mf_M I' nm' sc)) (k : GG sc own ini rz code d n' ls' st' I' nm' Q) : GG sc own ini rz code d pc ls st I nm Q := by
  obtain ⟨N, m, r, I2, nm2, h2, h3⟩ := k
  refine ⟨N, m + 1, r, I2, nm2, ?_, h3⟩
  obtain ⟨i', hi, he⟩ := Option.map_eq_some_iff.mp h
  cases he
  rw [mi_go, hi, Option.bind_some, hr, h1, Option.bind_some]
  exact h2
theorem g_next {i : Instr} (h : mg_f code pc = some (i, n)) : pc + mi_len i = n := by
  obtain ⟨i', hi, he⟩ := Option.map_eq_some_iff.mp h
  cases he
  rfl
theorem g_iconst {r : List Value} {z : Int} {v : Int32} (h : mg_f code pc = some (.iconst z, n)) (hv : Int32.ofInt z = v) (k : GG sc own ini rz code d n ls (.int v :: r) I nm Q) : GG sc own ini rz code d pc ls r I nm Q := by
  obtain rfl := g_next h
  subst hv
  exact g_step h rfl (fun _ => rfl) k
theorem g_bipush {r : List Value} {z : Int} {v : Int32} (h : mg_f code pc = some (.bipush z, n)) (hv : (Int8.ofInt z).toInt32 = v) (k : GG sc own ini rz code d n ls (.int v :: r) I nm Q) : GG sc own ini rz code d pc ls r I nm Q := by
  obtain rfl := g_next h
  subst hv
  exact g_step h rfl (fun _ => rfl) k
theorem g_sipush {r : List Value} {z : Int} {v : Int32} (h : mg_f code pc = some (.sipush z, n)) (hv : (Int16.ofInt z).toInt32 = v) (k : GG sc own ini rz code d n ls (.int v :: r) I nm Q) : GG sc own ini rz code d pc ls r I nm Q := by
  obtain rfl := g_next h
  subst hv
  exact g_step h rfl (fun _ => rfl) k
theorem g_lconst {r : List Value} {z : Fin 2} {v : Int64} (h : mg_f code pc = some (.lconst z, n)) (hv : Int64.ofNat (z : Nat) = v) (k : GG sc own ini rz code d n ls (.long v :: r) I nm Q) : GG sc own ini rz code d pc ls r I nm Q := by
  obtain rfl := g_next h
  subst hv
  exact g_step h rfl (fun _ => rfl) k
theorem g_iadd {r : List Value} {x y : Int32} (h : mg_f code pc = some (.iadd, n))  (k : GG sc own ini rz code d n ls (.int (x + y) :: r) I nm Q) : GG sc own ini rz code d pc ls (.int y :: .int x :: r) I nm Q := by
  obtain rfl := g_next h
  exact g_step h rfl (fun _ => rfl) k
theorem g_isub {r : List Value} {x y : Int32} (h : mg_f code pc = some (.isub, n))  (k : GG sc own ini rz code d n ls (.int (x - y) :: r) I nm Q) : GG sc own ini rz code d pc ls (.int y :: .int x :: r) I nm Q := by
  obtain rfl := g_next h
  exact g_step h rfl (fun _ => rfl) k
theorem g_imul {r : List Value} {x y : Int32} (h : mg_f code pc = some (.imul, n))  (k : GG sc own ini rz code d n ls (.int (x * y) :: r) I nm Q) : GG sc own ini rz code d pc ls (.int y :: .int x :: r) I nm Q := by
  obtain rfl := g_next h
  exact g_step h rfl (fun _ => rfl) k
theorem g_iand {r : List Value} {x y : Int32} (h : mg_f code pc = some (.iand, n))  (k : GG sc own ini rz code d n ls (.int (x &&& y) :: r) I nm Q) : GG sc own ini rz code d pc ls (.int y :: .int x :: r) I nm Q := by
  obtain rfl := g_next h
  exact g_step h rfl (fun _ => rfl) k
theorem g_ior {r : List Value} {x y : Int32} (h : mg_f code pc = some (.ior, n))  (k : GG sc own ini rz code d n ls (.int (x ||| y) :: r) I nm Q) : GG sc own ini rz code d pc ls (.int y :: .int x :: r) I nm Q := by
  obtain rfl := g_next h
  exact g_step h rfl (fun _ => rfl) k
theorem g_ixor {r : List Value} {x y : Int32} (h : mg_f code pc = some (.ixor, n))  (k : GG sc own ini rz code d n ls (.int (x ^^^ y) :: r) I nm Q) : GG sc own ini rz code d pc ls (.int y :: .int x :: r) I nm Q := by
  obtain rfl := g_next h
  exact g_step h rfl (fun _ => rfl) k
theorem g_ishl {r : List Value} {x y : Int32} (h : mg_f code pc = some (.ishl, n))  (k : GG sc own ini rz code d n ls (.int (x <<< (y &&& 31)) :: r) I nm Q) : GG sc own ini rz code d pc ls (.int y :: .int x :: r) I nm Q := by
  obtain rfl := g_next h
  exact g_step h rfl (fun _ => rfl) k
theorem g_iushr {r : List Value} {x y : Int32} (h : mg_f code pc = some (.iushr, n))  (k : GG sc own ini rz code d n ls (.int ((x.toUInt32 >>> (y.toUInt32 &&& Int32.toUInt32 31)).toInt32) :: r) I nm Q) : GG sc own ini rz code d pc ls (.int y :: .int x :: r) I nm Q := by
  obtain rfl := g_next h
  exact g_step h rfl (fun _ => rfl) k
theorem g_idiv {r : List Value} {x y : Int32} (h : mg_f code pc = some (.idiv, n)) (hy : ¬ y = 0) (k : GG sc own ini rz code d n ls (.int (x / y) :: r) I nm Q) : GG sc own ini rz code d pc ls (.int y :: .int x :: r) I nm Q := by
  obtain rfl := g_next h
  exact g_step h rfl (fun _ => by simp [mi_one, mi_A, mi_cd, hy]) k
theorem g_irem {r : List Value} {x y : Int32} (h : mg_f code pc = some (.irem, n)) (hy : ¬ y = 0) (k : GG sc own ini rz code d n ls (.int (x - x / y * y) :: r) I nm Q) : GG sc own ini rz code d pc ls (.int y :: .int x :: r) I nm Q := by
  obtain rfl := g_next h
  exact g_step h rfl (fun _ => by simp [mi_one, mi_A, mi_cd, hy]) k
theorem g_ineg {r : List Value} {x : Int32} (h : mg_f code pc = some (.ineg, n))  (k : GG sc own ini rz code d n ls (.int (-x) :: r) I nm Q) : GG sc own ini rz code d pc ls (.int x :: r) I nm Q := by
  obtain rfl := g_next h
  exact g_step h rfl (fun _ => rfl) k
theorem g_i2l {r : List Value} {x : Int32} (h : mg_f code pc = some (.i2l, n))  (k : GG sc own ini rz code d n ls (.long x.toInt64 :: r) I nm Q) : GG sc own ini rz code d pc ls (.int x :: r) I nm Q := by
  obtain rfl := g_next h
  exact g_step h rfl (fun _ => rfl) k
theorem g_i2b {r : List Value} {x : Int32} (h : mg_f code pc = some (.i2b, n))  (k : GG sc own ini rz code d n ls (.int x.toInt8.toInt32 :: r) I nm Q) : GG sc own ini rz code d pc ls (.int x :: r) I nm Q := by
  obtain rfl := g_next h
  exact g_step h rfl (fun _ => rfl) k
theorem g_i2s {r : List Value} {x : Int32} (h : mg_f code pc = some (.i2s, n))  (k : GG sc own ini rz code d n ls (.int x.toInt16.toInt32 :: r) I nm Q) : GG sc own ini rz code d pc ls (.int x :: r) I nm Q := by
  obtain rfl := g_next h
  exact g_step h rfl (fun _ => rfl) k
theorem g_i2c {r : List Value} {x : Int32} (h : mg_f code pc = some (.i2c, n))  (k : GG sc own ini rz code d n ls (.int (x.toUInt32 % 65536).toInt32 :: r) I nm Q) : GG sc own ini rz code d pc ls (.int x :: r) I nm Q := by
  obtain rfl := g_next h
  exact g_step h rfl (fun _ => rfl) k
theorem g_l2i {r : List Value} {x : Int64} (h : mg_f code pc = some (.l2i, n))  (k : GG sc own ini rz code d n ls (.int x.toInt32 :: r) I nm Q) : GG sc own ini rz code d pc ls (.long x :: r) I nm Q := by
  obtain rfl := g_next h
  exact g_step h rfl (fun _ => rfl) k
theorem g_land {r : List Value} {x y : Int64} (h : mg_f code pc = some (.land, n))  (k : GG sc own ini rz code d n ls (.long (x &&& y) :: r) I nm Q) : GG sc own ini rz code d pc ls (.long y :: .long x :: r) I nm Q := by
  obtain rfl := g_next h
  exact g_step h rfl (fun _ => rfl) k
theorem g_lor {r : List Value} {x y : Int64} (h : mg_f code pc = some (.lor, n))  (k : GG sc own ini rz code d n ls (.long (x ||| y) :: r) I nm Q) : GG sc own ini rz code d pc ls (.long y :: .long x :: r) I nm Q := by
  obtain rfl := g_next h
  exact g_step h rfl (fun _ => rfl) k
theorem g_lcmp {r : List Value} {x y : Int64} (h : mg_f code pc = some (.lcmp, n))  (k : GG sc own ini rz code d n ls (.int (lg_cmp x y) :: r) I nm Q) : GG sc own ini rz code d pc ls (.long y :: .long x :: r) I nm Q := by
  obtain rfl := g_next h
  exact g_step h rfl (fun _ => rfl) k
theorem g_lshl {r : List Value} {x : Int64} {y : Int32} (h : mg_f code pc = some (.lshl, n))  (k : GG sc own ini rz code d n ls (.long (x <<< (y.toInt64 &&& 63)) :: r) I nm Q) : GG sc own ini rz code d pc ls (.int y :: .long x :: r) I nm Q := by
  obtain rfl := g_next h
  exact g_step h rfl (fun _ => rfl) k
theorem g_lshr {r : List Value} {x : Int64} {y : Int32} (h : mg_f code pc = some (.lshr, n))  (k : GG sc own ini rz code d n ls (.long (x >>> (y.toInt64 &&& 63)) :: r) I nm Q) : GG sc own ini rz code d pc ls (.int y :: .long x :: r) I nm Q := by
  obtain rfl := g_next h
  exact g_step h rfl (fun _ => rfl) k
theorem g_lushr {r : List Value} {x : Int64} {y : Int32} (h : mg_f code pc = some (.lushr, n))  (k : GG sc own ini rz code d n ls (.long ((x.toUInt64 >>> (y.toInt64.toUInt64 &&& Int64.toUInt64 63)).toInt64) :: r) I nm Q) : GG sc own ini rz code d pc ls (.int y :: .long x :: r) I nm Q := by
  obtain rfl := g_next h
  exact g_step h rfl (fun _ => rfl) k
theorem g_dupi {r : List Value} {x : Int32} (h : mg_f code pc = some (.dup, n))  (k : GG sc own ini rz code d n ls (.int x :: .int x :: r) I nm Q) : GG sc own ini rz code d pc ls (.int x :: r) I nm Q := by
  obtain rfl := g_next h
  exact g_step h rfl (fun _ => rfl) k
theorem g_dupa {r : List Value} {x : Nat} (h : mg_f code pc = some (.dup, n))  (k : GG sc own ini rz code d n ls (.ref x :: .ref x :: r) I nm Q) : GG sc own ini rz code d pc ls (.ref x :: r) I nm Q := by
  obtain rfl := g_next h
  exact g_step h rfl (fun _ => rfl) k
theorem g_popi {r : List Value} {x : Int32} (h : mg_f code pc = some (.pop, n))  (k : GG sc own ini rz code d n ls r I nm Q) : GG sc own ini rz code d pc ls (.int x :: r) I nm Q := by
  obtain rfl := g_next h
  exact g_step h rfl (fun _ => rfl) k
theorem g_popa {r : List Value} {x : Nat} (h : mg_f code pc = some (.pop, n))  (k : GG sc own ini rz code d n ls r I nm Q) : GG sc own ini rz code d pc ls (.ref x :: r) I nm Q := by
  obtain rfl := g_next h
  exact g_step h rfl (fun _ => rfl) k
theorem g_dup2 {r : List Value} {x : Nat} {y : Int32} (h : mg_f code pc = some (.dup2, n))  (k : GG sc own ini rz code d n ls (.int y :: .ref x :: .int y :: .ref x :: r) I nm Q) : GG sc own ini rz code d pc ls (.int y :: .ref x :: r) I nm Q := by
  obtain rfl := g_next h
  exact g_step h rfl (fun _ => rfl) k
theorem g_iload {r : List Value} {j : Nat} {x : Int32} (h : mg_f code pc = some (.iload j, n)) (hl : ls[(j : Nat)]? = some (.int x)) (k : GG sc own ini rz code d n ls (.int x :: r) I nm Q) : GG sc own ini rz code d pc ls r I nm Q := by
  obtain rfl := g_next h
  exact g_step h rfl (fun _ => by simp [mi_one, mi_A, mi_B, mi_L, mi_ldi, hl]) k
theorem g_iload_n {r : List Value} {j : Fin 4} {x : Int32} (h : mg_f code pc = some (.iload_n j, n)) (hl : ls[(j : Nat)]? = some (.int x)) (k : GG sc own ini rz code d n ls (.int x :: r) I nm Q) : GG sc own ini rz code d pc ls r I nm Q := by
  obtain rfl := g_next h
  exact g_step h rfl (fun _ => by simp [mi_one, mi_A, mi_B, mi_L, mi_ldi, hl]) k
theorem g_lload {r : List Value} {j : Nat} {x : Int64} (h : mg_f code pc = some (.lload j, n)) (hl : ls[(j : Nat)]? = some (.long x)) (k : GG sc own ini rz code d n ls (.long x :: r) I nm Q) : GG sc own ini rz code d pc ls r I nm Q := by
  obtain rfl := g_next h
  exact g_step h rfl (fun _ => by simp [mi_one, mi_A, mi_B, mi_L, mi_ldl, hl]) k
theorem g_lload_n {r : List Value} {j : Fin 4} {x : Int64} (h : mg_f code pc = some (.lload_n j, n)) (hl : ls[(j : Nat)]? = some (.long x)) (k : GG sc own ini rz code d n ls (.long x :: r) I nm Q) : GG sc own ini rz code d pc ls r I nm Q := by
  obtain rfl := g_next h
  exact g_step h rfl (fun _ => by simp [mi_one, mi_A, mi_B, mi_L, mi_ldl, hl]) k
theorem g_aload {r : List Value} {j : Nat} {x : Nat} (h : mg_f code pc = some (.aload j, n)) (hl : ls[(j : Nat)]? = some (.ref x)) (k : GG sc own ini rz code d n ls (.ref x :: r) I nm Q) : GG sc own ini rz code d pc ls r I nm Q := by
  obtain rfl := g_next h
  exact g_step h rfl (fun _ => by simp [mi_one, mi_A, mi_B, mi_L, mi_lda, hl]) k
theorem g_aload_n {r : List Value} {j : Fin 4} {x : Nat} (h : mg_f code pc = some (.aload_n j, n)) (hl : ls[(j : Nat)]? = some (.ref x)) (k : GG sc own ini rz code d n ls (.ref x :: r) I nm Q) : GG sc own ini rz code d pc ls r I nm Q := by
  obtain rfl := g_next h
  exact g_step h rfl (fun _ => by simp [mi_one, mi_A, mi_B, mi_L, mi_lda, hl]) k
theorem g_istore0 {r : List Value} { z : Value} {t : List Value} {x : Int32} (h : mg_f code pc = some (.istore 0, n))  (k : GG sc own ini rz code d n (.int x :: t) r I nm Q) : GG sc own ini rz code d pc (z :: t) (.int x :: r) I nm Q := by
  obtain rfl := g_next h
  refine g_step h rfl (fun _ => ?_) k
  simp [mi_one, mi_A, mi_B, mi_L, mi_sti, mi_st1]
theorem g_istore1 {r : List Value} {v0 z : Value} {t : List Value} {x : Int32} (h : mg_f code pc = some (.istore 1, n)) (hp : v0.category = 1) (k : GG sc own ini rz code d n (v0 :: .int x :: t) r I nm Q) : GG sc own ini rz code d pc (v0 :: z :: t) (.int x :: r) I nm Q := by
  obtain rfl := g_next h
  refine g_step h rfl (fun _ => ?_) k
  simp [mi_one, mi_A, mi_B, mi_L, mi_sti, mi_st1, hp]
theorem g_istore2 {r : List Value} {v0 v1 z : Value} {t : List Value} {x : Int32} (h : mg_f code pc = some (.istore 2, n)) (hp : v1.category = 1) (k : GG sc own ini rz code d n (v0 :: v1 :: .int x :: t) r I nm Q) : GG sc own ini rz code d pc (v0 :: v1 :: z :: t) (.int x :: r) I nm Q := by
  obtain rfl := g_next h
  refine g_step h rfl (fun _ => ?_) k
  simp [mi_one, mi_A, mi_B, mi_L, mi_sti, mi_st1, hp]
theorem g_istore3 {r : List Value} {v0 v1 v2 z : Value} {t : List Value} {x : Int32} (h : mg_f code pc = some (.istore 3, n)) (hp : v2.category = 1) (k : GG sc own ini rz code d n (v0 :: v1 :: v2 :: .int x :: t) r I nm Q) : GG sc own ini rz code d pc (v0 :: v1 :: v2 :: z :: t) (.int x :: r) I nm Q := by
  obtain rfl := g_next h
  refine g_step h rfl (fun _ => ?_) k
  simp [mi_one, mi_A, mi_B, mi_L, mi_sti, mi_st1, hp]
theorem g_istore4 {r : List Value} {v0 v1 v2 v3 z : Value} {t : List Value} {x : Int32} (h : mg_f code pc = some (.istore 4, n)) (hp : v3.category = 1) (k : GG sc own ini rz code d n (v0 :: v1 :: v2 :: v3 :: .int x :: t) r I nm Q) : GG sc own ini rz code d pc (v0 :: v1 :: v2 :: v3 :: z :: t) (.int x :: r) I nm Q := by
  obtain rfl := g_next h
  refine g_step h rfl (fun _ => ?_) k
  simp [mi_one, mi_A, mi_B, mi_L, mi_sti, mi_st1, hp]
theorem g_istore5 {r : List Value} {v0 v1 v2 v3 v4 z : Value} {t : List Value} {x : Int32} (h : mg_f code pc = some (.istore 5, n)) (hp : v4.category = 1) (k : GG sc own ini rz code d n (v0 :: v1 :: v2 :: v3 :: v4 :: .int x :: t) r I nm Q) : GG sc own ini rz code d pc (v0 :: v1 :: v2 :: v3 :: v4 :: z :: t) (.int x :: r) I nm Q := by
  obtain rfl := g_next h
  refine g_step h rfl (fun _ => ?_) k
  simp [mi_one, mi_A, mi_B, mi_L, mi_sti, mi_st1, hp]
theorem g_istore6 {r : List Value} {v0 v1 v2 v3 v4 v5 z : Value} {t : List Value} {x : Int32} (h : mg_f code pc = some (.istore 6, n)) (hp : v5.category = 1) (k : GG sc own ini rz code d n (v0 :: v1 :: v2 :: v3 :: v4 :: v5 :: .int x :: t) r I nm Q) : GG sc own ini rz code d pc (v0 :: v1 :: v2 :: v3 :: v4 :: v5 :: z :: t) (.int x :: r) I nm Q := by
  obtain rfl := g_next h
  refine g_step h rfl (fun _ => ?_) k
  simp [mi_one, mi_A, mi_B, mi_L, mi_sti, mi_st1, hp]
theorem g_istore7 {r : List Value} {v0 v1 v2 v3 v4 v5 v6 z : Value} {t : List Value} {x : Int32} (h : mg_f code pc = some (.istore 7, n)) (hp : v6.category = 1) (k : GG sc own ini rz code d n (v0 :: v1 :: v2 :: v3 :: v4 :: v5 :: v6 :: .int x :: t) r I nm Q) : GG sc own ini rz code d pc (v0 :: v1 :: v2 :: v3 :: v4 :: v5 :: v6 :: z :: t) (.int x :: r) I nm Q := by
  obtain rfl := g_next h
  refine g_step h rfl (fun _ => ?_) k
  simp [mi_one, mi_A, mi_B, mi_L, mi_sti, mi_st1, hp]
theorem g_istore_n0 {r : List Value} { z : Value} {t : List Value} {x : Int32} (h : mg_f code pc = some (.istore_n 0, n))  (k : GG sc own ini rz code d n (.int x :: t) r I nm Q) : GG sc own ini rz code d pc (z :: t) (.int x :: r) I nm Q := by
  obtain rfl := g_next h
  refine g_step h rfl (fun _ => ?_) k
  simp [mi_one, mi_A, mi_B, mi_L, mi_sti, mi_st1]
theorem g_istore_n1 {r : List Value} {v0 z : Value} {t : List Value} {x : Int32} (h : mg_f code pc = some (.istore_n 1, n)) (hp : v0.category = 1) (k : GG sc own ini rz code d n (v0 :: .int x :: t) r I nm Q) : GG sc own ini rz code d pc (v0 :: z :: t) (.int x :: r) I nm Q := by
  obtain rfl := g_next h
  refine g_step h rfl (fun _ => ?_) k
  simp [mi_one, mi_A, mi_B, mi_L, mi_sti, mi_st1, hp]
theorem g_istore_n2 {r : List Value} {v0 v1 z : Value} {t : List Value} {x : Int32} (h : mg_f code pc = some (.istore_n 2, n)) (hp : v1.category = 1) (k : GG sc own ini rz code d n (v0 :: v1 :: .int x :: t) r I nm Q) : GG sc own ini rz code d pc (v0 :: v1 :: z :: t) (.int x :: r) I nm Q := by
  obtain rfl := g_next h
  refine g_step h rfl (fun _ => ?_) k
  simp [mi_one, mi_A, mi_B, mi_L, mi_sti, mi_st1, hp]
theorem g_istore_n3 {r : List Value} {v0 v1 v2 z : Value} {t : List Value} {x : Int32} (h : mg_f code pc = some (.istore_n 3, n)) (hp : v2.category = 1) (k : GG sc own ini rz code d n (v0 :: v1 :: v2 :: .int x :: t) r I nm Q) : GG sc own ini rz code d pc (v0 :: v1 :: v2 :: z :: t) (.int x :: r) I nm Q := by
  obtain rfl := g_next h
  refine g_step h rfl (fun _ => ?_) k
  simp [mi_one, mi_A, mi_B, mi_L, mi_sti, mi_st1, hp, show ((3 : Fin 4) : Nat) = 3 from rfl]
theorem g_astore0 {r : List Value} { z : Value} {t : List Value} {x : Nat} (h : mg_f code pc = some (.astore 0, n))  (k : GG sc own ini rz code d n (.ref x :: t) r I nm Q) : GG sc own ini rz code d pc (z :: t) (.ref x :: r) I nm Q := by
  obtain rfl := g_next h
  refine g_step h rfl (fun _ => ?_) k
  simp [mi_one, mi_A, mi_B, mi_L, mi_sta, mi_st1]
theorem g_astore1 {r : List Value} {v0 z : Value} {t : List Value} {x : Nat} (h : mg_f code pc = some (.astore 1, n)) (hp : v0.category = 1) (k : GG sc own ini rz code d n (v0 :: .ref x :: t) r I nm Q) : GG sc own ini rz code d pc (v0 :: z :: t) (.ref x :: r) I nm Q := by
  obtain rfl := g_next h
  refine g_step h rfl (fun _ => ?_) k
  simp [mi_one, mi_A, mi_B, mi_L, mi_sta, mi_st1, hp]
theorem g_astore2 {r : List Value} {v0 v1 z : Value} {t : List Value} {x : Nat} (h : mg_f code pc = some (.astore 2, n)) (hp : v1.category = 1) (k : GG sc own ini rz code d n (v0 :: v1 :: .ref x :: t) r I nm Q) : GG sc own ini rz code d pc (v0 :: v1 :: z :: t) (.ref x :: r) I nm Q := by
  obtain rfl := g_next h
  refine g_step h rfl (fun _ => ?_) k
  simp [mi_one, mi_A, mi_B, mi_L, mi_sta, mi_st1, hp]
theorem g_astore3 {r : List Value} {v0 v1 v2 z : Value} {t : List Value} {x : Nat} (h : mg_f code pc = some (.astore 3, n)) (hp : v2.category = 1) (k : GG sc own ini rz code d n (v0 :: v1 :: v2 :: .ref x :: t) r I nm Q) : GG sc own ini rz code d pc (v0 :: v1 :: v2 :: z :: t) (.ref x :: r) I nm Q := by
  obtain rfl := g_next h
  refine g_step h rfl (fun _ => ?_) k
  simp [mi_one, mi_A, mi_B, mi_L, mi_sta, mi_st1, hp]
theorem g_astore4 {r : List Value} {v0 v1 v2 v3 z : Value} {t : List Value} {x : Nat} (h : mg_f code pc = some (.astore 4, n)) (hp : v3.category = 1) (k : GG sc own ini rz code d n (v0 :: v1 :: v2 :: v3 :: .ref x :: t) r I nm Q) : GG sc own ini rz code d pc (v0 :: v1 :: v2 :: v3 :: z :: t) (.ref x :: r) I nm Q := by
  obtain rfl := g_next h
  refine g_step h rfl (fun _ => ?_) k
  simp [mi_one, mi_A, mi_B, mi_L, mi_sta, mi_st1, hp]
theorem g_astore5 {r : List Value} {v0 v1 v2 v3 v4 z : Value} {t : List Value} {x : Nat} (h : mg_f code pc = some (.astore 5, n)) (hp : v4.category = 1) (k : GG sc own ini rz code d n (v0 :: v1 :: v2 :: v3 :: v4 :: .ref x :: t) r I nm Q) : GG sc own ini rz code d pc (v0 :: v1 :: v2 :: v3 :: v4 :: z :: t) (.ref x :: r) I nm Q := by
  obtain rfl := g_next h
  refine g_step h rfl (fun _ => ?_) k
  simp [mi_one, mi_A, mi_B, mi_L, mi_sta, mi_st1, hp]
theorem g_astore6 {r : List Value} {v0 v1 v2 v3 v4 v5 z : Value} {t : List Value} {x : Nat} (h : mg_f code pc = some (.astore 6, n)) (hp : v5.category = 1) (k : GG sc own ini rz code d n (v0 :: v1 :: v2 :: v3 :: v4 :: v5 :: .ref x :: t) r I nm Q) : GG sc own ini rz code d pc (v0 :: v1 :: v2 :: v3 :: v4 :: v5 :: z :: t) (.ref x :: r) I nm Q := by
  obtain rfl := g_next h
  refine g_step h rfl (fun _ => ?_) k
  simp [mi_one, mi_A, mi_B, mi_L, mi_sta, mi_st1, hp]
theorem g_astore7 {r : List Value} {v0 v1 v2 v3 v4 v5 v6 z : Value} {t : List Value} {x : Nat} (h : mg_f code pc = some (.astore 7, n)) (hp : v6.category = 1) (k : GG sc own ini rz code d n (v0 :: v1 :: v2 :: v3 :: v4 :: v5 :: v6 :: .ref x :: t) r I nm Q) : GG sc own ini rz code d pc (v0 :: v1 :: v2 :: v3 :: v4 :: v5 :: v6 :: z :: t) (.ref x :: r) I nm Q := by
  obtain rfl := g_next h
  refine g_step h rfl (fun _ => ?_) k
  simp [mi_one, mi_A, mi_B, mi_L, mi_sta, mi_st1, hp]
theorem g_astore_n0 {r : List Value} { z : Value} {t : List Value} {x : Nat} (h : mg_f code pc = some (.astore_n 0, n))  (k : GG sc own ini rz code d n (.ref x :: t) r I nm Q) : GG sc own ini rz code d pc (z :: t) (.ref x :: r) I nm Q := by
  obtain rfl := g_next h
  refine g_step h rfl (fun _ => ?_) k
  simp [mi_one, mi_A, mi_B, mi_L, mi_sta, mi_st1]
theorem g_astore_n1 {r : List Value} {v0 z : Value} {t : List Value} {x : Nat} (h : mg_f code pc = some (.astore_n 1, n)) (hp : v0.category = 1) (k : GG sc own ini rz code d n (v0 :: .ref x :: t) r I nm Q) : GG sc own ini rz code d pc (v0 :: z :: t) (.ref x :: r) I nm Q := by
  obtain rfl := g_next h
  refine g_step h rfl (fun _ => ?_) k
  simp [mi_one, mi_A, mi_B, mi_L, mi_sta, mi_st1, hp]
theorem g_astore_n2 {r : List Value} {v0 v1 z : Value} {t : List Value} {x : Nat} (h : mg_f code pc = some (.astore_n 2, n)) (hp : v1.category = 1) (k : GG sc own ini rz code d n (v0 :: v1 :: .ref x :: t) r I nm Q) : GG sc own ini rz code d pc (v0 :: v1 :: z :: t) (.ref x :: r) I nm Q := by
  obtain rfl := g_next h
  refine g_step h rfl (fun _ => ?_) k
  simp [mi_one, mi_A, mi_B, mi_L, mi_sta, mi_st1, hp]
theorem g_astore_n3 {r : List Value} {v0 v1 v2 z : Value} {t : List Value} {x : Nat} (h : mg_f code pc = some (.astore_n 3, n)) (hp : v2.category = 1) (k : GG sc own ini rz code d n (v0 :: v1 :: v2 :: .ref x :: t) r I nm Q) : GG sc own ini rz code d pc (v0 :: v1 :: v2 :: z :: t) (.ref x :: r) I nm Q := by
  obtain rfl := g_next h
  refine g_step h rfl (fun _ => ?_) k
  simp [mi_one, mi_A, mi_B, mi_L, mi_sta, mi_st1, hp, show ((3 : Fin 4) : Nat) = 3 from rfl]
theorem g_iinc0 {r : List Value} {t : List Value} {x y : Int32} {z : Int} (h : mg_f code pc = some (.iinc 0 z, n))  (hv : x + Int32.ofInt z = y) (k : GG sc own ini rz code d n (.int y :: t) r I nm Q) : GG sc own ini rz code d pc (.int x :: t) r I nm Q := by
  obtain rfl := g_next h
  subst hv
  refine g_step h rfl (fun _ => ?_) k
  simp [mi_one, mi_A, mi_B, mi_L, mi_inc, mi_st1]
theorem g_iinc1 {r : List Value} {v0 : Value} {t : List Value} {x y : Int32} {z : Int} (h : mg_f code pc = some (.iinc 1 z, n)) (hp : v0.category = 1) (hv : x + Int32.ofInt z = y) (k : GG sc own ini rz code d n (v0 :: .int y :: t) r I nm Q) : GG sc own ini rz code d pc (v0 :: .int x :: t) r I nm Q := by
  obtain rfl := g_next h
  subst hv
  refine g_step h rfl (fun _ => ?_) k
  simp [mi_one, mi_A, mi_B, mi_L, mi_inc, mi_st1, hp]
theorem g_iinc2 {r : List Value} {v0 v1 : Value} {t : List Value} {x y : Int32} {z : Int} (h : mg_f code pc = some (.iinc 2 z, n)) (hp : v1.category = 1) (hv : x + Int32.ofInt z = y) (k : GG sc own ini rz code d n (v0 :: v1 :: .int y :: t) r I nm Q) : GG sc own ini rz code d pc (v0 :: v1 :: .int x :: t) r I nm Q := by
  obtain rfl := g_next h
  subst hv
  refine g_step h rfl (fun _ => ?_) k
  simp [mi_one, mi_A, mi_B, mi_L, mi_inc, mi_st1, hp]
theorem g_iinc3 {r : List Value} {v0 v1 v2 : Value} {t : List Value} {x y : Int32} {z : Int} (h : mg_f code pc = some (.iinc 3 z, n)) (hp : v2.category = 1) (hv : x + Int32.ofInt z = y) (k : GG sc own ini rz code d n (v0 :: v1 :: v2 :: .int y :: t) r I nm Q) : GG sc own ini rz code d pc (v0 :: v1 :: v2 :: .int x :: t) r I nm Q := by
  obtain rfl := g_next h
  subst hv
  refine g_step h rfl (fun _ => ?_) k
  simp [mi_one, mi_A, mi_B, mi_L, mi_inc, mi_st1, hp]
theorem g_iinc4 {r : List Value} {v0 v1 v2 v3 : Value} {t : List Value} {x y : Int32} {z : Int} (h : mg_f code pc = some (.iinc 4 z, n)) (hp : v3.category = 1) (hv : x + Int32.ofInt z = y) (k : GG sc own ini rz code d n (v0 :: v1 :: v2 :: v3 :: .int y :: t) r I nm Q) : GG sc own ini rz code d pc (v0 :: v1 :: v2 :: v3 :: .int x :: t) r I nm Q := by
  obtain rfl := g_next h
  subst hv
  refine g_step h rfl (fun _ => ?_) k
  simp [mi_one, mi_A, mi_B, mi_L, mi_inc, mi_st1, hp]
theorem g_iinc5 {r : List Value} {v0 v1 v2 v3 v4 : Value} {t : List Value} {x y : Int32} {z : Int} (h : mg_f code pc = some (.iinc 5 z, n)) (hp : v4.category = 1) (hv : x + Int32.ofInt z = y) (k : GG sc own ini rz code d n (v0 :: v1 :: v2 :: v3 :: v4 :: .int y :: t) r I nm Q) : GG sc own ini rz code d pc (v0 :: v1 :: v2 :: v3 :: v4 :: .int x :: t) r I nm Q := by
  obtain rfl := g_next h
  subst hv
  refine g_step h rfl (fun _ => ?_) k
  simp [mi_one, mi_A, mi_B, mi_L, mi_inc, mi_st1, hp]
theorem g_iinc6 {r : List Value} {v0 v1 v2 v3 v4 v5 : Value} {t : List Value} {x y : Int32} {z : Int} (h : mg_f code pc = some (.iinc 6 z, n)) (hp : v5.category = 1) (hv : x + Int32.ofInt z = y) (k : GG sc own ini rz code d n (v0 :: v1 :: v2 :: v3 :: v4 :: v5 :: .int y :: t) r I nm Q) : GG sc own ini rz code d pc (v0 :: v1 :: v2 :: v3 :: v4 :: v5 :: .int x :: t) r I nm Q := by
  obtain rfl := g_next h
  subst hv
  refine g_step h rfl (fun _ => ?_) k
  simp [mi_one, mi_A, mi_B, mi_L, mi_inc, mi_st1, hp]
theorem g_iinc7 {r : List Value} {v0 v1 v2 v3 v4 v5 v6 : Value} {t : List Value} {x y : Int32} {z : Int} (h : mg_f code pc = some (.iinc 7 z, n)) (hp : v6.category = 1) (hv : x + Int32.ofInt z = y) (k : GG sc own ini rz code d n (v0 :: v1 :: v2 :: v3 :: v4 :: v5 :: v6 :: .int y :: t) r I nm Q) : GG sc own ini rz code d pc (v0 :: v1 :: v2 :: v3 :: v4 :: v5 :: v6 :: .int x :: t) r I nm Q := by
  obtain rfl := g_next h
  subst hv
  refine g_step h rfl (fun _ => ?_) k
  simp [mi_one, mi_A, mi_B, mi_L, mi_inc, mi_st1, hp]
theorem g_ifeq {r : List Value} {x : Int32} {off : Int} (m : Nat) (h : mg_f code pc = some (.ifCond .eq off, n)) (ht : (pc : Int) + off = (m : Int)) (kt : (x = 0) → GG sc own ini rz code d m ls r I nm Q) (kf : ¬ (x = 0) → GG sc own ini rz code d n ls r I nm Q) : GG sc own ini rz code d pc ls (.int x :: r) I nm Q := by
  obtain rfl := g_next h
  have h1 : mi_ok pc off = true := decide_eq_true (by omega)
  have h2 : mi_tgt pc off = m := by unfold mi_tgt; omega
  by_cases hc : (x = 0)
  · exact g_step (n' := m) h rfl (fun _ => by simp [mi_one, mi_A, mi_B, mi_i1, mi_i2, mi_br, h1, h2, hc]) (kt hc)
  · exact g_step (n' := pc + 3) h rfl (fun _ => by simp [mi_one, mi_A, mi_B, mi_i1, mi_i2, mi_br, h1, h2, hc]) (kf hc)
theorem g_iceq {r : List Value} {x y : Int32} {off : Int} (m : Nat) (h : mg_f code pc = some (.if_icmp .eq off, n)) (ht : (pc : Int) + off = (m : Int)) (kt : (x = y) → GG sc own ini rz code d m ls r I nm Q) (kf : ¬ (x = y) → GG sc own ini rz code d n ls r I nm Q) : GG sc own ini rz code d pc ls (.int y :: .int x :: r) I nm Q := by
  obtain rfl := g_next h
  have h1 : mi_ok pc off = true := decide_eq_true (by omega)
  have h2 : mi_tgt pc off = m := by unfold mi_tgt; omega
  by_cases hc : (x = y)
  · exact g_step (n' := m) h rfl (fun _ => by simp [mi_one, mi_A, mi_B, mi_i1, mi_i2, mi_br, h1, h2, hc]) (kt hc)
  · exact g_step (n' := pc + 3) h rfl (fun _ => by simp [mi_one, mi_A, mi_B, mi_i1, mi_i2, mi_br, h1, h2, hc]) (kf hc)
theorem g_iflt {r : List Value} {x : Int32} {off : Int} (m : Nat) (h : mg_f code pc = some (.ifCond .lt off, n)) (ht : (pc : Int) + off = (m : Int)) (kt : (x < 0) → GG sc own ini rz code d m ls r I nm Q) (kf : ¬ (x < 0) → GG sc own ini rz code d n ls r I nm Q) : GG sc own ini rz code d pc ls (.int x :: r) I nm Q := by
  obtain rfl := g_next h
  have h1 : mi_ok pc off = true := decide_eq_true (by omega)
  have h2 : mi_tgt pc off = m := by unfold mi_tgt; omega
  by_cases hc : (x < 0)
  · exact g_step (n' := m) h rfl (fun _ => by simp [mi_one, mi_A, mi_B, mi_i1, mi_i2, mi_br, h1, h2, hc]) (kt hc)
  · exact g_step (n' := pc + 3) h rfl (fun _ => by simp [mi_one, mi_A, mi_B, mi_i1, mi_i2, mi_br, h1, h2, hc]) (kf hc)
theorem g_iclt {r : List Value} {x y : Int32} {off : Int} (m : Nat) (h : mg_f code pc = some (.if_icmp .lt off, n)) (ht : (pc : Int) + off = (m : Int)) (kt : (x < y) → GG sc own ini rz code d m ls r I nm Q) (kf : ¬ (x < y) → GG sc own ini rz code d n ls r I nm Q) : GG sc own ini rz code d pc ls (.int y :: .int x :: r) I nm Q := by
  obtain rfl := g_next h
  have h1 : mi_ok pc off = true := decide_eq_true (by omega)
  have h2 : mi_tgt pc off = m := by unfold mi_tgt; omega
  by_cases hc : (x < y)
  · exact g_step (n' := m) h rfl (fun _ => by simp [mi_one, mi_A, mi_B, mi_i1, mi_i2, mi_br, h1, h2, hc]) (kt hc)
  · exact g_step (n' := pc + 3) h rfl (fun _ => by simp [mi_one, mi_A, mi_B, mi_i1, mi_i2, mi_br, h1, h2, hc]) (kf hc)
theorem g_ifge {r : List Value} {x : Int32} {off : Int} (m : Nat) (h : mg_f code pc = some (.ifCond .ge off, n)) (ht : (pc : Int) + off = (m : Int)) (kt : (0 ≤ x) → GG sc own ini rz code d m ls r I nm Q) (kf : ¬ (0 ≤ x) → GG sc own ini rz code d n ls r I nm Q) : GG sc own ini rz code d pc ls (.int x :: r) I nm Q := by
  obtain rfl := g_next h
  have h1 : mi_ok pc off = true := decide_eq_true (by omega)
  have h2 : mi_tgt pc off = m := by unfold mi_tgt; omega
  by_cases hc : (0 ≤ x)
  · exact g_step (n' := m) h rfl (fun _ => by simp [mi_one, mi_A, mi_B, mi_i1, mi_i2, mi_br, h1, h2, hc]) (kt hc)
  · exact g_step (n' := pc + 3) h rfl (fun _ => by simp [mi_one, mi_A, mi_B, mi_i1, mi_i2, mi_br, h1, h2, hc]) (kf hc)
theorem g_icge {r : List Value} {x y : Int32} {off : Int} (m : Nat) (h : mg_f code pc = some (.if_icmp .ge off, n)) (ht : (pc : Int) + off = (m : Int)) (kt : (y ≤ x) → GG sc own ini rz code d m ls r I nm Q) (kf : ¬ (y ≤ x) → GG sc own ini rz code d n ls r I nm Q) : GG sc own ini rz code d pc ls (.int y :: .int x :: r) I nm Q := by
  obtain rfl := g_next h
  have h1 : mi_ok pc off = true := decide_eq_true (by omega)
  have h2 : mi_tgt pc off = m := by unfold mi_tgt; omega
  by_cases hc : (y ≤ x)
  · exact g_step (n' := m) h rfl (fun _ => by simp [mi_one, mi_A, mi_B, mi_i1, mi_i2, mi_br, h1, h2, hc]) (kt hc)
  · exact g_step (n' := pc + 3) h rfl (fun _ => by simp [mi_one, mi_A, mi_B, mi_i1, mi_i2, mi_br, h1, h2, hc]) (kf hc)
theorem g_ifgt {r : List Value} {x : Int32} {off : Int} (m : Nat) (h : mg_f code pc = some (.ifCond .gt off, n)) (ht : (pc : Int) + off = (m : Int)) (kt : (0 < x) → GG sc own ini rz code d m ls r I nm Q) (kf : ¬ (0 < x) → GG sc own ini rz code d n ls r I nm Q) : GG sc own ini rz code d pc ls (.int x :: r) I nm Q := by
  obtain rfl := g_next h
  have h1 : mi_ok pc off = true := decide_eq_true (by omega)
  have h2 : mi_tgt pc off = m := by unfold mi_tgt; omega
  by_cases hc : (0 < x)
  · exact g_step (n' := m) h rfl (fun _ => by simp [mi_one, mi_A, mi_B, mi_i1, mi_i2, mi_br, h1, h2, hc]) (kt hc)
  · exact g_step (n' := pc + 3) h rfl (fun _ => by simp [mi_one, mi_A, mi_B, mi_i1, mi_i2, mi_br, h1, h2, hc]) (kf hc)
theorem g_icgt {r : List Value} {x y : Int32} {off : Int} (m : Nat) (h : mg_f code pc = some (.if_icmp .gt off, n)) (ht : (pc : Int) + off = (m : Int)) (kt : (y < x) → GG sc own ini rz code d m ls r I nm Q) (kf : ¬ (y < x) → GG sc own ini rz code d n ls r I nm Q) : GG sc own ini rz code d pc ls (.int y :: .int x :: r) I nm Q := by
  obtain rfl := g_next h
  have h1 : mi_ok pc off = true := decide_eq_true (by omega)
  have h2 : mi_tgt pc off = m := by unfold mi_tgt; omega
  by_cases hc : (y < x)
  · exact g_step (n' := m) h rfl (fun _ => by simp [mi_one, mi_A, mi_B, mi_i1, mi_i2, mi_br, h1, h2, hc]) (kt hc)
  · exact g_step (n' := pc + 3) h rfl (fun _ => by simp [mi_one, mi_A, mi_B, mi_i1, mi_i2, mi_br, h1, h2, hc]) (kf hc)
theorem g_ifle {r : List Value} {x : Int32} {off : Int} (m : Nat) (h : mg_f code pc = some (.ifCond .le off, n)) (ht : (pc : Int) + off = (m : Int)) (kt : (x ≤ 0) → GG sc own ini rz code d m ls r I nm Q) (kf : ¬ (x ≤ 0) → GG sc own ini rz code d n ls r I nm Q) : GG sc own ini rz code d pc ls (.int x :: r) I nm Q := by
  obtain rfl := g_next h
  have h1 : mi_ok pc off = true := decide_eq_true (by omega)
  have h2 : mi_tgt pc off = m := by unfold mi_tgt; omega
  by_cases hc : (x ≤ 0)
  · exact g_step (n' := m) h rfl (fun _ => by simp [mi_one, mi_A, mi_B, mi_i1, mi_i2, mi_br, h1, h2, hc]) (kt hc)
  · exact g_step (n' := pc + 3) h rfl (fun _ => by simp [mi_one, mi_A, mi_B, mi_i1, mi_i2, mi_br, h1, h2, hc]) (kf hc)
theorem g_icle {r : List Value} {x y : Int32} {off : Int} (m : Nat) (h : mg_f code pc = some (.if_icmp .le off, n)) (ht : (pc : Int) + off = (m : Int)) (kt : (x ≤ y) → GG sc own ini rz code d m ls r I nm Q) (kf : ¬ (x ≤ y) → GG sc own ini rz code d n ls r I nm Q) : GG sc own ini rz code d pc ls (.int y :: .int x :: r) I nm Q := by
  obtain rfl := g_next h
  have h1 : mi_ok pc off = true := decide_eq_true (by omega)
  have h2 : mi_tgt pc off = m := by unfold mi_tgt; omega
  by_cases hc : (x ≤ y)
  · exact g_step (n' := m) h rfl (fun _ => by simp [mi_one, mi_A, mi_B, mi_i1, mi_i2, mi_br, h1, h2, hc]) (kt hc)
  · exact g_step (n' := pc + 3) h rfl (fun _ => by simp [mi_one, mi_A, mi_B, mi_i1, mi_i2, mi_br, h1, h2, hc]) (kf hc)
theorem g_ifne {r : List Value} {x : Int32} {off : Int} (m : Nat) (h : mg_f code pc = some (.ifCond .ne off, n)) (ht : (pc : Int) + off = (m : Int)) (kt : ¬ (x = 0) → GG sc own ini rz code d m ls r I nm Q) (kf : (x = 0) → GG sc own ini rz code d n ls r I nm Q) : GG sc own ini rz code d pc ls (.int x :: r) I nm Q := by
  obtain rfl := g_next h
  have h1 : mi_ok pc off = true := decide_eq_true (by omega)
  have h2 : mi_tgt pc off = m := by unfold mi_tgt; omega
  by_cases hc : (x = 0)
  · exact g_step (n' := pc + 3) h rfl (fun _ => by simp [mi_one, mi_A, mi_B, mi_i1, mi_i2, mi_br, h1, h2, hc]) (kf hc)
  · exact g_step (n' := m) h rfl (fun _ => by simp [mi_one, mi_A, mi_B, mi_i1, mi_i2, mi_br, h1, h2, hc]) (kt hc)
theorem g_icne {r : List Value} {x y : Int32} {off : Int} (m : Nat) (h : mg_f code pc = some (.if_icmp .ne off, n)) (ht : (pc : Int) + off = (m : Int)) (kt : ¬ (x = y) → GG sc own ini rz code d m ls r I nm Q) (kf : (x = y) → GG sc own ini rz code d n ls r I nm Q) : GG sc own ini rz code d pc ls (.int y :: .int x :: r) I nm Q := by
  obtain rfl := g_next h
  have h1 : mi_ok pc off = true := decide_eq_true (by omega)
  have h2 : mi_tgt pc off = m := by unfold mi_tgt; omega
  by_cases hc : (x = y)
  · exact g_step (n' := pc + 3) h rfl (fun _ => by simp [mi_one, mi_A, mi_B, mi_i1, mi_i2, mi_br, h1, h2, hc]) (kf hc)
  · exact g_step (n' := m) h rfl (fun _ => by simp [mi_one, mi_A, mi_B, mi_i1, mi_i2, mi_br, h1, h2, hc]) (kt hc)
theorem g_goto {r : List Value} {off : Int} (m : Nat) (h : mg_f code pc = some (.goto off, n)) (ht : (pc : Int) + off = (m : Int)) (k : GG sc own ini rz code d m ls r I nm Q) : GG sc own ini rz code d pc ls r I nm Q := by
  have h1 : mi_ok pc off = true := decide_eq_true (by omega)
  have h2 : mi_tgt pc off = m := by unfold mi_tgt; omega
  exact g_step h rfl (fun _ => by simp [mi_one, mi_A, mi_B, mi_to, h1, h2]) k
theorem g_tab {r : List Value} {x : Int32} {df lo hi off : Int} {offs : Array Int} (m : Nat) (h : mg_f code pc = some (.tableswitch df lo hi offs, n)) (h1 : ¬ x.toInt < lo) (h2 : ¬ hi < x.toInt) (ho : offs[(x.toInt - lo).toNat]? = some off) (ht : (pc : Int) + off = (m : Int)) (k : GG sc own ini rz code d m ls r I nm Q) : GG sc own ini rz code d pc ls (.int x :: r) I nm Q := by
  have h3 : mi_ok pc off = true := decide_eq_true (by omega)
  have h4 : mi_tgt pc off = m := by unfold mi_tgt; omega
  refine g_step h rfl (fun _ => ?_) k
  have e : ¬ (x.toInt < lo ∨ hi < x.toInt) := fun z => z.elim h1 h2
  simp only [mi_one, mi_A, mi_B]
  rw [if_neg e, ho]
  simp [mi_to, h3, h4]
theorem g_tabo {r : List Value} {x : Int32} {df lo hi : Int} {offs : Array Int} (m : Nat) (h : mg_f code pc = some (.tableswitch df lo hi offs, n)) (h1 : x.toInt < lo ∨ hi < x.toInt) (ht : (pc : Int) + df = (m : Int)) (k : GG sc own ini rz code d m ls r I nm Q) : GG sc own ini rz code d pc ls (.int x :: r) I nm Q := by
  have h3 : mi_ok pc df = true := decide_eq_true (by omega)
  have h4 : mi_tgt pc df = m := by unfold mi_tgt; omega
  refine g_step h rfl (fun _ => ?_) k
  simp only [mi_one, mi_A, mi_B]
  rw [if_pos h1]
  simp [mi_to, h3, h4]
theorem g_look {r : List Value} {x : Int32} {df off : Int} {ps : Array (Int × Int)} (m : Nat) (h : mg_f code pc = some (.lookupswitch df ps, n)) (hp : (ps.toList.zip (ps.toList.drop 1)).all (fun (a, next) => a.1 < next.1) = true) (ho : Op.lookupswitch.offset ps.toList df x.toInt = off) (ht : (pc : Int) + off = (m : Int)) (k : GG sc own ini rz code d m ls r I nm Q) : GG sc own ini rz code d pc ls (.int x :: r) I nm Q := by
  have h3 : mi_ok pc off = true := decide_eq_true (by omega)
  have h4 : mi_tgt pc off = m := by unfold mi_tgt; omega
  refine g_step h rfl (fun _ => ?_) k
  simp only [mi_one, mi_A, mi_B]
  rw [if_pos hp, ho]
  simp [mi_to, h3, h4]
theorem g_iret {v : Int32} (h : mg_f code pc = some (.ireturn, n)) (hz : rz = true → v = 0 ∨ v = 1) (k : Q (some (.int v)) I nm) : GG sc own ini rz code d pc ls [.int v] I nm Q := by
  refine ⟨0, 1, some (.int v), I, nm, ?_, k⟩
  obtain ⟨i', hi, he⟩ := Option.map_eq_some_iff.mp h
  cases he
  rw [mi_go, hi, Option.bind_some]
  simp only [mi_ret]
  rw [if_pos hz]
theorem g_vret (h : mg_f code pc = some (.return_, n)) (k : Q none I nm) : GG sc own ini rz code d pc ls [] I nm Q := by
  refine ⟨0, 1, none, I, nm, ?_, k⟩
  obtain ⟨i', hi, he⟩ := Option.map_eq_some_iff.mp h
  cases he
  rw [mi_go, hi, Option.bind_some]
  rfl
theorem mf_ld {a h : Nat} (h5 : 5 ≤ a) (ha : a < 136) (hk : mf_hd a = h) : mi_ld (mf_M I nm sc) a h = some (mf_c I nm a).2 := by
  unfold mi_ld
  rw [mf_get h5 ha, Option.bind_some]
  exact if_pos hk
/-- fields: which are ints -/
def mg_int (ci j : Nat) : Bool := match ci with
  | 1 => decide (2 ≤ j ∧ j ≤ 6)
  | 4 => decide (j < 16)
  | 6 => decide (j = 1)
  | 8 => decide (j < 2 ∨ (6 ≤ j ∧ j < 9))
  | 11 => decide (j = 4)
  | 12 => decide (j = 3 ∨ (5 ≤ j ∧ j ≤ 10) ∨ j = 12 ∨ j = 13 ∨ (15 ≤ j ∧ j ≤ 17) ∨ j = 19 ∨ j = 20)
  | 20 => decide (j < 400)
  | _ => false
theorem mg_dom : ∀ a, a < 136 → ∀ j, j < 25 → (a < 5 ∨ mf_hd a = 20 ∨ mg_int (mf_hd a) j = false ∨ (j < mf_sz a ∧ mf_rf a j = none ∧ ¬ (a = 104 ∧ j = 5))) := by decide +kernel
theorem mg_big {a : Nat} (h : 136 ≤ a) : mf_hd a = 0 := by
  unfold mf_hd
  rw [List.getD_eq_getElem?_getD, List.getElem?_eq_none (by show 131 ≤ a - 5; omega)]
  rfl
theorem mg_low : ∀ a, a < 5 → mf_hd a = 11 := by decide +kernel
theorem mg_arr : ∀ a, a < 136 → (mf_hd a = 20 → mf_sz a ≤ 300 ∧ (mf_sh.getD (a - 5) (0, 0, [])).2.2 = [] ∧ a ≠ 104) := by decide +kernel
theorem mg_i {a ci j : Nat} (h5 : 5 ≤ a) (hk : mf_hd a = ci) (hi : mg_int ci j = true) (hc : ci ≠ 20) : mf_int a j := by
  have ha : a < 136 := Nat.not_le.mp fun z => by
    rw [mg_big z] at hk
    subst hk
    cases hi
  have hj : j < 25 := by
    unfold mg_int at hi
    split at hi <;> first | (have := of_decide_eq_true hi; omega) | cases hi
  rcases mg_dom a ha j hj with h | h | h | h
  · omega
  · exact absurd (hk.symm.trans h) hc
  · rw [hk, hi] at h; cases h
  · exact ⟨h5, ha, h⟩
theorem mg_a {a k : Nat} (h5 : 5 ≤ a) (hk : mf_hd a = 20) (hj : k < mf_sz a) : mf_int a k := by
  have ha : a < 136 := Nat.not_le.mp fun z => by
    rw [mg_big z] at hk
    cases hk
  obtain ⟨-, h2, h3⟩ := mg_arr a ha hk
  exact ⟨h5, ha, hj, by unfold mf_rf; rw [h2]; rfl, fun z => h3 z.1⟩
theorem g_geti {r : List Value} {a fk ci j : Nat} (h : mg_f code pc = some (.getfield fk, n)) (hg : mi_gf own fk = some (ci, j)) (hi : mg_int ci j = true) (hc : ci ≠ 20) (hk : 5 ≤ a ∧ mf_hd a = ci) (k : GG sc own ini rz code d n ls (.int (I a j) :: r) I nm Q) : GG sc own ini rz code d pc ls (.ref a :: r) I nm Q := by
  obtain rfl := g_next h
  have hint := mg_i hk.1 hk.2 hi hc
  refine g_step h rfl (fun _ => ?_) k
  have e : mi_getf own fk (.ref a :: r) (mf_M I nm sc) = some (.int (I a j) :: r, mf_M I nm sc) := by
    simp only [mi_getf, hg, Option.bind_some, mf_ld hint.1 hint.2.1 hk.2, mf_slot hint.2.2.1, Option.map_some, mf_v_int hint]
  simp only [mi_one, mi_A, mi_B, mi_L, mi_Y, e]
theorem g_getr {r : List Value} {a fk ci j b : Nat} (h : mg_f code pc = some (.getfield fk, n)) (hg : mi_gf own fk = some (ci, j)) (hk : 5 ≤ a ∧ mf_hd a = ci) (ha : a < 136 ∧ j < mf_sz a) (hr : mf_rf a j = some b) (k : GG sc own ini rz code d n ls (.ref b :: r) I nm Q) : GG sc own ini rz code d pc ls (.ref a :: r) I nm Q := by
  obtain rfl := g_next h
  refine g_step h rfl (fun _ => ?_) k
  have hv : mf_v I nm a j = .ref b := by unfold mf_v; rw [hr]
  have e : mi_getf own fk (.ref a :: r) (mf_M I nm sc) = some (.ref b :: r, mf_M I nm sc) := by
    simp only [mi_getf, hg, Option.bind_some, mf_ld hk.1 ha.1 hk.2, mf_slot ha.2, Option.map_some, hv]
  simp only [mi_one, mi_A, mi_B, mi_L, mi_Y, e]
theorem g_puti {r : List Value} {a fk ci j : Nat} {v : Int32} (h : mg_f code pc = some (.putfield fk, n)) (hg : mi_gf own fk = some (ci, j)) (hi : mg_int ci j = true) (hc : ci ≠ 20) (hk : 5 ≤ a ∧ mf_hd a = ci) (hf : mi_fin ci j = false) (hfit : mi_fit (mi_ty ci j) (.int v) = true) (k : GG sc own ini rz code d n ls r (mf_up I a j v) nm Q) : GG sc own ini rz code d pc ls (.int v :: .ref a :: r) I nm Q := by
  obtain rfl := g_next h
  have hint := mg_i hk.1 hk.2 hi hc
  refine g_step h rfl (fun _ => ?_) k
  have e : mi_putf own ini fk (.int v :: .ref a :: r) (mf_M I nm sc) = some (r, mf_M (mf_up I a j v) nm sc) := by
    simp only [mi_putf, hg, Option.bind_some, mf_ld hint.1 hint.2.1 hk.2]
    rw [if_pos ⟨by rw [mf_clen]; exact hint.2.2.1, hfit, Or.inl hf⟩]
    rw [← hk.2, mf_up_M hint]
  simp only [mi_one, mi_A, mi_B, mi_L, mi_Y, e]
theorem mg_ix {a x : Nat} {i : Int32} (hi : i = nI x) (hk : x < a) (ha : a ≤ 4000) : mi_ix i a = true ∧ i.toNatClampNeg = x := by
  subst hi
  have h1 := nI_toInt (n := x) (by omega)
  refine ⟨?_, nI_clamp (by omega)⟩
  simp only [mi_ix, h1, Bool.and_eq_true, decide_eq_true_eq]
  omega
theorem g_iald {r : List Value} {a : Nat} {i : Int32} (x : Nat) (h : mg_f code pc = some (.iaload, n)) (hk : 5 ≤ a ∧ mf_hd a = 20) (hi : i = nI x) (hx : x < mf_sz a) (k : GG sc own ini rz code d n ls (.int (I a x) :: r) I nm Q) : GG sc own ini rz code d pc ls (.int i :: .ref a :: r) I nm Q := by
  obtain rfl := g_next h
  have hint := mg_a hk.1 hk.2 hx
  have hle := (mg_arr a hint.2.1 hk.2).1
  obtain ⟨h1, h2⟩ := mg_ix hi hx (by omega)
  refine g_step h rfl (fun _ => ?_) k
  have e : mi_ial (.int i :: .ref a :: r) (mf_M I nm sc) = some (.int (I a x) :: r, mf_M I nm sc) := by
    simp only [mi_ial, mf_get hint.1 hint.2.1, Option.bind_some]
    rw [if_pos ⟨Or.inl hk.2, by rw [mf_clen]; exact h1⟩, h2, mf_slot hx, mf_v_int hint]
  simp only [mi_one, mi_A, mi_B, mi_L, mi_Y, e]
theorem g_iast {r : List Value} {a : Nat} {i v : Int32} (x : Nat) (h : mg_f code pc = some (.iastore, n)) (hk : 5 ≤ a ∧ mf_hd a = 20) (hi : i = nI x) (hx : x < mf_sz a) (k : GG sc own ini rz code d n ls r (mf_up I a x v) nm Q) : GG sc own ini rz code d pc ls (.int v :: .int i :: .ref a :: r) I nm Q := by
  obtain rfl := g_next h
  have hint := mg_a hk.1 hk.2 hx
  have hle := (mg_arr a hint.2.1 hk.2).1
  obtain ⟨h1, h2⟩ := mg_ix hi hx (by omega)
  refine g_step h rfl (fun _ => ?_) k
  have e : mi_ias (.int v :: .int i :: .ref a :: r) (mf_M I nm sc) = some (r, mf_M (mf_up I a x v) nm sc) := by
    simp only [mi_ias, mf_ld hint.1 hint.2.1 hk.2, Option.bind_some]
    rw [if_pos (by rw [mf_clen]; exact h1), h2, ← hk.2, mf_up_M hint]
  simp only [mi_one, mi_A, mi_B, mi_L, mi_Y, e]
theorem g_aald {r : List Value} {a b : Nat} {i : Int32} (x : Nat) (h : mg_f code pc = some (.aaload, n)) (hk : 5 ≤ a ∧ a < 136) (hk2 : 20 < mf_hd a ∧ mf_hd a < 25) (hi : i = nI x) (hx : x < mf_sz a ∧ mf_sz a ≤ 4000) (hr : mf_rf a x = some b) (k : GG sc own ini rz code d n ls (.ref b :: r) I nm Q) : GG sc own ini rz code d pc ls (.int i :: .ref a :: r) I nm Q := by
  obtain rfl := g_next h
  obtain ⟨h1, h2⟩ := mg_ix hi hx.1 hx.2
  have hv : mf_v I nm a x = .ref b := by unfold mf_v; rw [hr]
  refine g_step h rfl (fun _ => ?_) k
  have e : mi_aal (.int i :: .ref a :: r) (mf_M I nm sc) = some (.ref b :: r, mf_M I nm sc) := by
    simp only [mi_aal, mf_get hk.1 hk.2, Option.bind_some]
    rw [if_pos ⟨hk2, by rw [mf_clen]; exact h1⟩, h2, mf_slot hx.1, hv]
  simp only [mi_one, mi_A, mi_B, mi_L, mi_Y, e]
theorem g_alen {r : List Value} {a : Nat} {v : Int32} (h : mg_f code pc = some (.arraylength, n)) (hk : 5 ≤ a ∧ mf_hd a = 20) (hv : nI (mf_sz a) = v) (k : GG sc own ini rz code d n ls (.int v :: r) I nm Q) : GG sc own ini rz code d pc ls (.ref a :: r) I nm Q := by
  obtain rfl := g_next h
  have ha : a < 136 := Nat.not_le.mp fun z => by
    have := hk.2
    rw [mg_big z] at this
    cases this
  refine g_step h rfl (fun _ => ?_) k
  have e : mi_aln (.ref a :: r) (mf_M I nm sc) = some (.int v :: r, mf_M I nm sc) := by
    simp only [mi_aln, mf_get hk.1 ha, Option.bind_some]
    rw [if_pos (Or.inl (by show 20 ≤ mf_hd a ∧ mf_hd a < 25; rw [hk.2]; decide)), mf_clen, ← hv]
    rfl
  simp only [mi_one, mi_A, mi_B, mi_L, mi_Y, e]
theorem g_ldc {r : List Value} {fk pl : Nat} {v : Int32} (h : mg_f code pc = some (.ldc fk, n)) (hg : mi_kc.lookup (own, fk) = some (v, pl)) (k : GG sc own ini rz code d n ls (.int v :: r) I nm Q) : GG sc own ini rz code d pc ls r I nm Q := by
  obtain rfl := g_next h
  refine g_step h rfl (fun _ => ?_) k
  simp only [mi_one, mi_A, mi_B, mi_L, mi_Y, mi_ldk, hg]
theorem g_ldcs {r : List Value} {fk v : Nat} (h : mg_f code pc = some (.ldc fk, n)) (hg0 : mi_kc.lookup (own, fk) = none) (hg : mi_ks.lookup (own, fk) = some v) (k : GG sc own ini rz code d n ls (.ref v :: r) I nm Q) : GG sc own ini rz code d pc ls r I nm Q := by
  obtain rfl := g_next h
  refine g_step h rfl (fun _ => ?_) k
  simp only [mi_one, mi_A, mi_B, mi_L, mi_Y, mi_ldk, hg0, hg, Option.map_some]
theorem g_ldc2 {r : List Value} {fk pl : Nat} {v : Int64} (h : mg_f code pc = some (.ldc2_w fk, n)) (hg : mi_kl.lookup (own, fk) = some (v, pl)) (k : GG sc own ini rz code d n ls (.long v :: r) I nm Q) : GG sc own ini rz code d pc ls r I nm Q := by
  obtain rfl := g_next h
  refine g_step h rfl (fun _ => ?_) k
  simp only [mi_one, mi_A, mi_B, mi_L, mi_Y, mi_ldk2, hg, Option.map_some]
/-- a call, by what MINI's table says of it -/
theorem g_call {i : Instr} {t hh : Nat} {as st rest : List Value} {Qc : Option Value → mg_I → Nat → Prop} (h : mg_f code pc = some (i, n)) (hl : mi_len i = 3) (hr : mi_ret rz i st = none) (hA : mi_A i st = none) (hB : mi_B i pc st = none) (hL : mi_L i ls st = none) (hY : ∀ mem : mi_M, mi_Y own ini i st mem = none)
    (hZ : ∀ f : mi_F, mi_Z f own i st (mf_M I nm sc) = (f t as (mf_M I nm sc)).map fun q => (q.1.toList ++ rest, q.2)) (hs : SP sc hh t as I nm Qc) (hd : hh ≤ d) (k : ∀ r I' nm', Qc r I' nm' → GG sc own ini rz code d n ls (r.toList ++ rest) I' nm' Q) : GG sc own ini rz code d pc ls st I nm Q := by
  obtain ⟨N1, r, I', nm', h1, h2⟩ := hs d hd
  obtain ⟨N2, m, r2, I2, nm2, h3, h4⟩ := k r I' nm' h2
  refine ⟨N1 + N2, m + 1, r2, I2, nm2, ?_, h4⟩
  obtain ⟨i', hi, he⟩ := Option.map_eq_some_iff.mp h
  have hn := g_next h
  cases he
  have e1 := mi_run_le (show N1 ≤ N1 + N2 by omega) d d (Nat.le_refl d) _ _ _ _ h1
  rw [mi_go, hi, Option.bind_some, hr]
  show (mi_one (mi_run (N1 + N2) d) own ini i pc ls st (mf_M I nm sc)).bind _ = _
  have e2 : mi_one (mi_run (N1 + N2) d) own ini i pc ls st (mf_M I nm sc) = some (pc + 3, ls, r.toList ++ rest, mf_M I' nm' sc) := by
    unfold mi_one
    rw [hA]
    simp only
    rw [hB]
    simp only
    rw [hL]
    simp only
    rw [hY]
    simp only
    rw [hZ, e1]
    rfl
  rw [e2, Option.bind_some, ← hl]
  exact mi_go_le (mi_run_le (by omega) d d (Nat.le_refl d)) _ _ _ _ _ _ _ (Nat.le_refl m) h3
end GR
end
section
/-! calls over the shape -/
/-- a truth as an int -/
def bI (p : Prop) [Decidable p] : Int32 := if p then 1 else 0
theorem bI_t {p : Prop} [Decidable p] (h : p) : bI p = 1 := if_pos h
theorem bI_f {p : Prop} [Decidable p] (h : ¬ p) : bI p = 0 := if_neg h
theorem bI_01 {p : Prop} [Decidable p] : bI p = 0 ∨ bI p = 1 := by
  unfold bI
  split
  · exact Or.inr rfl
  · exact Or.inl rfl
theorem bI_eq {p q : Prop} [Decidable p] [Decidable q] (h : p ↔ q) : bI p = bI q := by
  unfold bI
  simp only [h]
section GC
variable {sc : List Value} {own : Nat} {ini rz : Bool} {code : List (Nat × Instr)} {d pc n : Nat} {ls : List Value} {I : mg_I} {nm : Nat} {Q : Option Value → mg_I → Nat → Prop}
theorem g_split {p : Prop} [Decidable p] {r : List Value} (k1 : p → GG sc own ini rz code d pc ls (.int 1 :: r) I nm Q) (k0 : ¬ p → GG sc own ini rz code d pc ls (.int 0 :: r) I nm Q) : GG sc own ini rz code d pc ls (.int (bI p) :: r) I nm Q := by
  by_cases h : p
  · rw [bI_t h]; exact k1 h
  · rw [bI_f h]; exact k0 h
theorem g_top {r : List Value} {v w : Int32} (h : v = w) (k : GG sc own ini rz code d pc ls (.int w :: r) I nm Q) : GG sc own ini rz code d pc ls (.int v :: r) I nm Q := by rw [h]; exact k
theorem g_cv0 {rest : List Value} {b fk t hh ci : Nat} {Qc : Option Value → mg_I → Nat → Prop} (h : mg_f code pc = some (.invokevirtual fk, n)) (h1 : mi_cq.lookup (own, fk) = none) (h2 : mi_vp.lookup (own, fk) = some 0) (hk : 5 ≤ b ∧ mf_hd b = ci) (hb : b < 136) (ht : mi_vt own fk ci = some t) (hlow : mi_low rest = true) (hs : SP sc hh t [.ref b] I nm Qc) (hd : hh ≤ d) (k : ∀ r I' nm', Qc r I' nm' → GG sc own ini rz code d n ls (r.toList ++ rest) I' nm' Q) : GG sc own ini rz code d pc ls (.ref b :: rest) I nm Q := by
  refine g_call h rfl rfl rfl rfl rfl (fun _ => rfl) (fun f => ?_) hs hd k
  show mi_Zv f own fk _ _ = _
  have e : (mf_M I nm sc)[b]? = some (mf_c I nm b) := mf_get hk.1 hb
  unfold mi_Zv
  rw [h1]
  simp only
  rw [h2]
  show mi_cvt f own fk 0 (.ref b :: rest) _ = _
  unfold mi_cvt
  simp only [List.getElem?_cons_zero, List.getElem?_cons_succ]
  rw [e, Option.bind_some, show (mf_c I nm b).1 = ci from hk.2, ht, Option.bind_some]
  exact if_pos ⟨hlow, rfl⟩
theorem g_cs0 {rest : List Value} {fk t hh : Nat} {x : Nat × Nat × Nat} {Qc : Option Value → mg_I → Nat → Prop} (h : mg_f code pc = some (.invokestatic fk, n)) (h1 : mi_cq.lookup (own, fk) = none) (h2 : mi_cs.lookup (own, fk) = some (t, 0, x)) (hlow : mi_low rest = true) (hs : SP sc hh t [] I nm Qc) (hd : hh ≤ d) (k : ∀ r I' nm', Qc r I' nm' → GG sc own ini rz code d n ls (r.toList ++ rest) I' nm' Q) : GG sc own ini rz code d pc ls (rest) I nm Q := by
  refine g_call h rfl rfl rfl rfl rfl (fun _ => rfl) (fun f => ?_) hs hd k
  show mi_Zs f own fk _ _ = _
  unfold mi_Zs
  rw [h1]
  simp only
  rw [h2]
  show mi_sat f t 0 (rest) _ = _
  exact if_pos ⟨hlow, rfl⟩
theorem g_cn0 {rest : List Value} {fk t hh : Nat} {x : Nat × Nat × Nat} {Qc : Option Value → mg_I → Nat → Prop} (h : mg_f code pc = some (.invokestatic fk, n)) (h1 : mi_cq.lookup (own, fk) = none) (h1b : mi_cs.lookup (own, fk) = none) (h2 : mi_cn.lookup (own, fk) = some (t, 0, x)) (hlow : mi_low rest = true) (hs : SP sc hh t [] I nm Qc) (hd : hh ≤ d) (k : ∀ r I' nm', Qc r I' nm' → GG sc own ini rz code d n ls (r.toList ++ rest) I' nm' Q) : GG sc own ini rz code d pc ls (rest) I nm Q := by
  refine g_call h rfl rfl rfl rfl rfl (fun _ => rfl) (fun f => ?_) hs hd k
  show mi_Zs f own fk _ _ = _
  unfold mi_Zs
  rw [h1]
  simp only
  rw [h1b]
  simp only
  rw [h2]
  show mi_sat f t 0 (rest) _ = _
  exact if_pos ⟨hlow, rfl⟩
theorem g_cv1 {v0 : Value} {rest : List Value} {b fk t hh ci : Nat} {Qc : Option Value → mg_I → Nat → Prop} (h : mg_f code pc = some (.invokevirtual fk, n)) (h1 : mi_cq.lookup (own, fk) = none) (h2 : mi_vp.lookup (own, fk) = some 1) (hk : 5 ≤ b ∧ mf_hd b = ci) (hb : b < 136) (ht : mi_vt own fk ci = some t) (hlow : mi_low rest = true) (hs : SP sc hh t [.ref b, v0] I nm Qc) (hd : hh ≤ d) (k : ∀ r I' nm', Qc r I' nm' → GG sc own ini rz code d n ls (r.toList ++ rest) I' nm' Q) : GG sc own ini rz code d pc ls (v0 :: .ref b :: rest) I nm Q := by
  refine g_call h rfl rfl rfl rfl rfl (fun _ => rfl) (fun f => ?_) hs hd k
  show mi_Zv f own fk _ _ = _
  have e : (mf_M I nm sc)[b]? = some (mf_c I nm b) := mf_get hk.1 hb
  unfold mi_Zv
  rw [h1]
  simp only
  rw [h2]
  show mi_cvt f own fk 1 (v0 :: .ref b :: rest) _ = _
  unfold mi_cvt
  simp only [List.getElem?_cons_zero, List.getElem?_cons_succ]
  rw [e, Option.bind_some, show (mf_c I nm b).1 = ci from hk.2, ht, Option.bind_some]
  exact if_pos ⟨hlow, rfl⟩
theorem g_cs1 {v0 : Value} {rest : List Value} {fk t hh : Nat} {x : Nat × Nat × Nat} {Qc : Option Value → mg_I → Nat → Prop} (h : mg_f code pc = some (.invokestatic fk, n)) (h1 : mi_cq.lookup (own, fk) = none) (h2 : mi_cs.lookup (own, fk) = some (t, 1, x)) (hlow : mi_low rest = true) (hs : SP sc hh t [v0] I nm Qc) (hd : hh ≤ d) (k : ∀ r I' nm', Qc r I' nm' → GG sc own ini rz code d n ls (r.toList ++ rest) I' nm' Q) : GG sc own ini rz code d pc ls (v0 :: rest) I nm Q := by
  refine g_call h rfl rfl rfl rfl rfl (fun _ => rfl) (fun f => ?_) hs hd k
  show mi_Zs f own fk _ _ = _
  unfold mi_Zs
  rw [h1]
  simp only
  rw [h2]
  show mi_sat f t 1 (v0 :: rest) _ = _
  exact if_pos ⟨hlow, rfl⟩
theorem g_cn1 {v0 : Value} {rest : List Value} {fk t hh : Nat} {x : Nat × Nat × Nat} {Qc : Option Value → mg_I → Nat → Prop} (h : mg_f code pc = some (.invokestatic fk, n)) (h1 : mi_cq.lookup (own, fk) = none) (h1b : mi_cs.lookup (own, fk) = none) (h2 : mi_cn.lookup (own, fk) = some (t, 1, x)) (hlow : mi_low rest = true) (hs : SP sc hh t [v0] I nm Qc) (hd : hh ≤ d) (k : ∀ r I' nm', Qc r I' nm' → GG sc own ini rz code d n ls (r.toList ++ rest) I' nm' Q) : GG sc own ini rz code d pc ls (v0 :: rest) I nm Q := by
  refine g_call h rfl rfl rfl rfl rfl (fun _ => rfl) (fun f => ?_) hs hd k
  show mi_Zs f own fk _ _ = _
  unfold mi_Zs
  rw [h1]
  simp only
  rw [h1b]
  simp only
  rw [h2]
  show mi_sat f t 1 (v0 :: rest) _ = _
  exact if_pos ⟨hlow, rfl⟩
theorem g_cv2 {v0 v1 : Value} {rest : List Value} {b fk t hh ci : Nat} {Qc : Option Value → mg_I → Nat → Prop} (h : mg_f code pc = some (.invokevirtual fk, n)) (h1 : mi_cq.lookup (own, fk) = none) (h2 : mi_vp.lookup (own, fk) = some 2) (hk : 5 ≤ b ∧ mf_hd b = ci) (hb : b < 136) (ht : mi_vt own fk ci = some t) (hlow : mi_low rest = true) (hs : SP sc hh t [.ref b, v0, v1] I nm Qc) (hd : hh ≤ d) (k : ∀ r I' nm', Qc r I' nm' → GG sc own ini rz code d n ls (r.toList ++ rest) I' nm' Q) : GG sc own ini rz code d pc ls (v1 :: v0 :: .ref b :: rest) I nm Q := by
  refine g_call h rfl rfl rfl rfl rfl (fun _ => rfl) (fun f => ?_) hs hd k
  show mi_Zv f own fk _ _ = _
  have e : (mf_M I nm sc)[b]? = some (mf_c I nm b) := mf_get hk.1 hb
  unfold mi_Zv
  rw [h1]
  simp only
  rw [h2]
  show mi_cvt f own fk 2 (v1 :: v0 :: .ref b :: rest) _ = _
  unfold mi_cvt
  simp only [List.getElem?_cons_zero, List.getElem?_cons_succ]
  rw [e, Option.bind_some, show (mf_c I nm b).1 = ci from hk.2, ht, Option.bind_some]
  exact if_pos ⟨hlow, rfl⟩
theorem g_cs2 {v0 v1 : Value} {rest : List Value} {fk t hh : Nat} {x : Nat × Nat × Nat} {Qc : Option Value → mg_I → Nat → Prop} (h : mg_f code pc = some (.invokestatic fk, n)) (h1 : mi_cq.lookup (own, fk) = none) (h2 : mi_cs.lookup (own, fk) = some (t, 2, x)) (hlow : mi_low rest = true) (hs : SP sc hh t [v0, v1] I nm Qc) (hd : hh ≤ d) (k : ∀ r I' nm', Qc r I' nm' → GG sc own ini rz code d n ls (r.toList ++ rest) I' nm' Q) : GG sc own ini rz code d pc ls (v1 :: v0 :: rest) I nm Q := by
  refine g_call h rfl rfl rfl rfl rfl (fun _ => rfl) (fun f => ?_) hs hd k
  show mi_Zs f own fk _ _ = _
  unfold mi_Zs
  rw [h1]
  simp only
  rw [h2]
  show mi_sat f t 2 (v1 :: v0 :: rest) _ = _
  exact if_pos ⟨hlow, rfl⟩
theorem g_cn2 {v0 v1 : Value} {rest : List Value} {fk t hh : Nat} {x : Nat × Nat × Nat} {Qc : Option Value → mg_I → Nat → Prop} (h : mg_f code pc = some (.invokestatic fk, n)) (h1 : mi_cq.lookup (own, fk) = none) (h1b : mi_cs.lookup (own, fk) = none) (h2 : mi_cn.lookup (own, fk) = some (t, 2, x)) (hlow : mi_low rest = true) (hs : SP sc hh t [v0, v1] I nm Qc) (hd : hh ≤ d) (k : ∀ r I' nm', Qc r I' nm' → GG sc own ini rz code d n ls (r.toList ++ rest) I' nm' Q) : GG sc own ini rz code d pc ls (v1 :: v0 :: rest) I nm Q := by
  refine g_call h rfl rfl rfl rfl rfl (fun _ => rfl) (fun f => ?_) hs hd k
  show mi_Zs f own fk _ _ = _
  unfold mi_Zs
  rw [h1]
  simp only
  rw [h1b]
  simp only
  rw [h2]
  show mi_sat f t 2 (v1 :: v0 :: rest) _ = _
  exact if_pos ⟨hlow, rfl⟩
theorem g_cv3 {v0 v1 v2 : Value} {rest : List Value} {b fk t hh ci : Nat} {Qc : Option Value → mg_I → Nat → Prop} (h : mg_f code pc = some (.invokevirtual fk, n)) (h1 : mi_cq.lookup (own, fk) = none) (h2 : mi_vp.lookup (own, fk) = some 3) (hk : 5 ≤ b ∧ mf_hd b = ci) (hb : b < 136) (ht : mi_vt own fk ci = some t) (hlow : mi_low rest = true) (hs : SP sc hh t [.ref b, v0, v1, v2] I nm Qc) (hd : hh ≤ d) (k : ∀ r I' nm', Qc r I' nm' → GG sc own ini rz code d n ls (r.toList ++ rest) I' nm' Q) : GG sc own ini rz code d pc ls (v2 :: v1 :: v0 :: .ref b :: rest) I nm Q := by
  refine g_call h rfl rfl rfl rfl rfl (fun _ => rfl) (fun f => ?_) hs hd k
  show mi_Zv f own fk _ _ = _
  have e : (mf_M I nm sc)[b]? = some (mf_c I nm b) := mf_get hk.1 hb
  unfold mi_Zv
  rw [h1]
  simp only
  rw [h2]
  show mi_cvt f own fk 3 (v2 :: v1 :: v0 :: .ref b :: rest) _ = _
  unfold mi_cvt
  simp only [List.getElem?_cons_zero, List.getElem?_cons_succ]
  rw [e, Option.bind_some, show (mf_c I nm b).1 = ci from hk.2, ht, Option.bind_some]
  exact if_pos ⟨hlow, rfl⟩
theorem g_cs3 {v0 v1 v2 : Value} {rest : List Value} {fk t hh : Nat} {x : Nat × Nat × Nat} {Qc : Option Value → mg_I → Nat → Prop} (h : mg_f code pc = some (.invokestatic fk, n)) (h1 : mi_cq.lookup (own, fk) = none) (h2 : mi_cs.lookup (own, fk) = some (t, 3, x)) (hlow : mi_low rest = true) (hs : SP sc hh t [v0, v1, v2] I nm Qc) (hd : hh ≤ d) (k : ∀ r I' nm', Qc r I' nm' → GG sc own ini rz code d n ls (r.toList ++ rest) I' nm' Q) : GG sc own ini rz code d pc ls (v2 :: v1 :: v0 :: rest) I nm Q := by
  refine g_call h rfl rfl rfl rfl rfl (fun _ => rfl) (fun f => ?_) hs hd k
  show mi_Zs f own fk _ _ = _
  unfold mi_Zs
  rw [h1]
  simp only
  rw [h2]
  show mi_sat f t 3 (v2 :: v1 :: v0 :: rest) _ = _
  exact if_pos ⟨hlow, rfl⟩
theorem g_cn3 {v0 v1 v2 : Value} {rest : List Value} {fk t hh : Nat} {x : Nat × Nat × Nat} {Qc : Option Value → mg_I → Nat → Prop} (h : mg_f code pc = some (.invokestatic fk, n)) (h1 : mi_cq.lookup (own, fk) = none) (h1b : mi_cs.lookup (own, fk) = none) (h2 : mi_cn.lookup (own, fk) = some (t, 3, x)) (hlow : mi_low rest = true) (hs : SP sc hh t [v0, v1, v2] I nm Qc) (hd : hh ≤ d) (k : ∀ r I' nm', Qc r I' nm' → GG sc own ini rz code d n ls (r.toList ++ rest) I' nm' Q) : GG sc own ini rz code d pc ls (v2 :: v1 :: v0 :: rest) I nm Q := by
  refine g_call h rfl rfl rfl rfl rfl (fun _ => rfl) (fun f => ?_) hs hd k
  show mi_Zs f own fk _ _ = _
  unfold mi_Zs
  rw [h1]
  simp only
  rw [h1b]
  simp only
  rw [h2]
  show mi_sat f t 3 (v2 :: v1 :: v0 :: rest) _ = _
  exact if_pos ⟨hlow, rfl⟩
theorem g_cv4 {v0 v1 v2 v3 : Value} {rest : List Value} {b fk t hh ci : Nat} {Qc : Option Value → mg_I → Nat → Prop} (h : mg_f code pc = some (.invokevirtual fk, n)) (h1 : mi_cq.lookup (own, fk) = none) (h2 : mi_vp.lookup (own, fk) = some 4) (hk : 5 ≤ b ∧ mf_hd b = ci) (hb : b < 136) (ht : mi_vt own fk ci = some t) (hlow : mi_low rest = true) (hs : SP sc hh t [.ref b, v0, v1, v2, v3] I nm Qc) (hd : hh ≤ d) (k : ∀ r I' nm', Qc r I' nm' → GG sc own ini rz code d n ls (r.toList ++ rest) I' nm' Q) : GG sc own ini rz code d pc ls (v3 :: v2 :: v1 :: v0 :: .ref b :: rest) I nm Q := by
  refine g_call h rfl rfl rfl rfl rfl (fun _ => rfl) (fun f => ?_) hs hd k
  show mi_Zv f own fk _ _ = _
  have e : (mf_M I nm sc)[b]? = some (mf_c I nm b) := mf_get hk.1 hb
  unfold mi_Zv
  rw [h1]
  simp only
  rw [h2]
  show mi_cvt f own fk 4 (v3 :: v2 :: v1 :: v0 :: .ref b :: rest) _ = _
  unfold mi_cvt
  simp only [List.getElem?_cons_zero, List.getElem?_cons_succ]
  rw [e, Option.bind_some, show (mf_c I nm b).1 = ci from hk.2, ht, Option.bind_some]
  exact if_pos ⟨hlow, rfl⟩
theorem g_cs4 {v0 v1 v2 v3 : Value} {rest : List Value} {fk t hh : Nat} {x : Nat × Nat × Nat} {Qc : Option Value → mg_I → Nat → Prop} (h : mg_f code pc = some (.invokestatic fk, n)) (h1 : mi_cq.lookup (own, fk) = none) (h2 : mi_cs.lookup (own, fk) = some (t, 4, x)) (hlow : mi_low rest = true) (hs : SP sc hh t [v0, v1, v2, v3] I nm Qc) (hd : hh ≤ d) (k : ∀ r I' nm', Qc r I' nm' → GG sc own ini rz code d n ls (r.toList ++ rest) I' nm' Q) : GG sc own ini rz code d pc ls (v3 :: v2 :: v1 :: v0 :: rest) I nm Q := by
  refine g_call h rfl rfl rfl rfl rfl (fun _ => rfl) (fun f => ?_) hs hd k
  show mi_Zs f own fk _ _ = _
  unfold mi_Zs
  rw [h1]
  simp only
  rw [h2]
  show mi_sat f t 4 (v3 :: v2 :: v1 :: v0 :: rest) _ = _
  exact if_pos ⟨hlow, rfl⟩
theorem g_cn4 {v0 v1 v2 v3 : Value} {rest : List Value} {fk t hh : Nat} {x : Nat × Nat × Nat} {Qc : Option Value → mg_I → Nat → Prop} (h : mg_f code pc = some (.invokestatic fk, n)) (h1 : mi_cq.lookup (own, fk) = none) (h1b : mi_cs.lookup (own, fk) = none) (h2 : mi_cn.lookup (own, fk) = some (t, 4, x)) (hlow : mi_low rest = true) (hs : SP sc hh t [v0, v1, v2, v3] I nm Qc) (hd : hh ≤ d) (k : ∀ r I' nm', Qc r I' nm' → GG sc own ini rz code d n ls (r.toList ++ rest) I' nm' Q) : GG sc own ini rz code d pc ls (v3 :: v2 :: v1 :: v0 :: rest) I nm Q := by
  refine g_call h rfl rfl rfl rfl rfl (fun _ => rfl) (fun f => ?_) hs hd k
  show mi_Zs f own fk _ _ = _
  unfold mi_Zs
  rw [h1]
  simp only
  rw [h1b]
  simp only
  rw [h2]
  show mi_sat f t 4 (v3 :: v2 :: v1 :: v0 :: rest) _ = _
  exact if_pos ⟨hlow, rfl⟩
theorem g_cv5 {v0 v1 v2 v3 v4 : Value} {rest : List Value} {b fk t hh ci : Nat} {Qc : Option Value → mg_I → Nat → Prop} (h : mg_f code pc = some (.invokevirtual fk, n)) (h1 : mi_cq.lookup (own, fk) = none) (h2 : mi_vp.lookup (own, fk) = some 5) (hk : 5 ≤ b ∧ mf_hd b = ci) (hb : b < 136) (ht : mi_vt own fk ci = some t) (hlow : mi_low rest = true) (hs : SP sc hh t [.ref b, v0, v1, v2, v3, v4] I nm Qc) (hd : hh ≤ d) (k : ∀ r I' nm', Qc r I' nm' → GG sc own ini rz code d n ls (r.toList ++ rest) I' nm' Q) : GG sc own ini rz code d pc ls (v4 :: v3 :: v2 :: v1 :: v0 :: .ref b :: rest) I nm Q := by
  refine g_call h rfl rfl rfl rfl rfl (fun _ => rfl) (fun f => ?_) hs hd k
  show mi_Zv f own fk _ _ = _
  have e : (mf_M I nm sc)[b]? = some (mf_c I nm b) := mf_get hk.1 hb
  unfold mi_Zv
  rw [h1]
  simp only
  rw [h2]
  show mi_cvt f own fk 5 (v4 :: v3 :: v2 :: v1 :: v0 :: .ref b :: rest) _ = _
  unfold mi_cvt
  simp only [List.getElem?_cons_zero, List.getElem?_cons_succ]
  rw [e, Option.bind_some, show (mf_c I nm b).1 = ci from hk.2, ht, Option.bind_some]
  exact if_pos ⟨hlow, rfl⟩
theorem g_cs5 {v0 v1 v2 v3 v4 : Value} {rest : List Value} {fk t hh : Nat} {x : Nat × Nat × Nat} {Qc : Option Value → mg_I → Nat → Prop} (h : mg_f code pc = some (.invokestatic fk, n)) (h1 : mi_cq.lookup (own, fk) = none) (h2 : mi_cs.lookup (own, fk) = some (t, 5, x)) (hlow : mi_low rest = true) (hs : SP sc hh t [v0, v1, v2, v3, v4] I nm Qc) (hd : hh ≤ d) (k : ∀ r I' nm', Qc r I' nm' → GG sc own ini rz code d n ls (r.toList ++ rest) I' nm' Q) : GG sc own ini rz code d pc ls (v4 :: v3 :: v2 :: v1 :: v0 :: rest) I nm Q := by
  refine g_call h rfl rfl rfl rfl rfl (fun _ => rfl) (fun f => ?_) hs hd k
  show mi_Zs f own fk _ _ = _
  unfold mi_Zs
  rw [h1]
  simp only
  rw [h2]
  show mi_sat f t 5 (v4 :: v3 :: v2 :: v1 :: v0 :: rest) _ = _
  exact if_pos ⟨hlow, rfl⟩
theorem g_cn5 {v0 v1 v2 v3 v4 : Value} {rest : List Value} {fk t hh : Nat} {x : Nat × Nat × Nat} {Qc : Option Value → mg_I → Nat → Prop} (h : mg_f code pc = some (.invokestatic fk, n)) (h1 : mi_cq.lookup (own, fk) = none) (h1b : mi_cs.lookup (own, fk) = none) (h2 : mi_cn.lookup (own, fk) = some (t, 5, x)) (hlow : mi_low rest = true) (hs : SP sc hh t [v0, v1, v2, v3, v4] I nm Qc) (hd : hh ≤ d) (k : ∀ r I' nm', Qc r I' nm' → GG sc own ini rz code d n ls (r.toList ++ rest) I' nm' Q) : GG sc own ini rz code d pc ls (v4 :: v3 :: v2 :: v1 :: v0 :: rest) I nm Q := by
  refine g_call h rfl rfl rfl rfl rfl (fun _ => rfl) (fun f => ?_) hs hd k
  show mi_Zs f own fk _ _ = _
  unfold mi_Zs
  rw [h1]
  simp only
  rw [h1b]
  simp only
  rw [h2]
  show mi_sat f t 5 (v4 :: v3 :: v2 :: v1 :: v0 :: rest) _ = _
  exact if_pos ⟨hlow, rfl⟩
theorem g_cp1 {v0 : Value} {rest : List Value} {b fk t hh : Nat} {x : Nat × Nat × Nat × Nat × Nat × Nat × Nat} {Qc : Option Value → mg_I → Nat → Prop} (h : mg_f code pc = some (.invokespecial fk, n)) (h1 : mi_cq.lookup (own, fk) = none) (h2 : mi_ci.lookup (own, fk) = none) (h3 : mi_cj.lookup (own, fk) = none) (h4 : mi_cz.lookup (own, fk) = some (t, 1, x)) (hk : 5 ≤ b ∧ b < 136) (hk2 : mf_hd b < 13) (hlow : mi_low rest = true) (hs : SP sc hh t [.ref b, v0] I nm Qc) (hd : hh ≤ d) (k : ∀ r I' nm', Qc r I' nm' → GG sc own ini rz code d n ls (r.toList ++ rest) I' nm' Q) : GG sc own ini rz code d pc ls (v0 :: .ref b :: rest) I nm Q := by
  refine g_call h rfl rfl rfl rfl rfl (fun _ => rfl) (fun f => ?_) hs hd k
  show mi_Zp f own fk _ _ = _
  have e : (mf_M I nm sc)[b]? = some (mf_c I nm b) := mf_get hk.1 hk.2
  unfold mi_Zp
  rw [h1]
  simp only
  rw [h2]
  simp only
  rw [h3]
  simp only
  rw [h4]
  show mi_csu f t 1 (v0 :: .ref b :: rest) _ = _
  unfold mi_csu
  simp only [List.getElem?_cons_zero, List.getElem?_cons_succ]
  rw [e, Option.bind_some, if_pos (show (mf_c I nm b).1 < 13 from hk2)]
  exact if_pos ⟨hlow, rfl⟩
theorem g_cp3 {v0 v1 v2 : Value} {rest : List Value} {b fk t hh : Nat} {x : Nat × Nat × Nat × Nat × Nat × Nat × Nat} {Qc : Option Value → mg_I → Nat → Prop} (h : mg_f code pc = some (.invokespecial fk, n)) (h1 : mi_cq.lookup (own, fk) = none) (h2 : mi_ci.lookup (own, fk) = none) (h3 : mi_cj.lookup (own, fk) = none) (h4 : mi_cz.lookup (own, fk) = some (t, 3, x)) (hk : 5 ≤ b ∧ b < 136) (hk2 : mf_hd b < 13) (hlow : mi_low rest = true) (hs : SP sc hh t [.ref b, v0, v1, v2] I nm Qc) (hd : hh ≤ d) (k : ∀ r I' nm', Qc r I' nm' → GG sc own ini rz code d n ls (r.toList ++ rest) I' nm' Q) : GG sc own ini rz code d pc ls (v2 :: v1 :: v0 :: .ref b :: rest) I nm Q := by
  refine g_call h rfl rfl rfl rfl rfl (fun _ => rfl) (fun f => ?_) hs hd k
  show mi_Zp f own fk _ _ = _
  have e : (mf_M I nm sc)[b]? = some (mf_c I nm b) := mf_get hk.1 hk.2
  unfold mi_Zp
  rw [h1]
  simp only
  rw [h2]
  simp only
  rw [h3]
  simp only
  rw [h4]
  show mi_csu f t 3 (v2 :: v1 :: v0 :: .ref b :: rest) _ = _
  unfold mi_csu
  simp only [List.getElem?_cons_zero, List.getElem?_cons_succ]
  rw [e, Option.bind_some, if_pos (show (mf_c I nm b).1 < 13 from hk2)]
  exact if_pos ⟨hlow, rfl⟩
theorem g_max {r : List Value} {x y : Int32} {fk pl : Nat} (h : mg_f code pc = some (.invokestatic fk, n)) (h1 : mi_cq.lookup (own, fk) = some (1, pl)) (hlow : mi_low r = true) (k : GG sc own ini rz code d n ls (.int (if x < y then y else x) :: r) I nm Q) : GG sc own ini rz code d pc ls (.int y :: .int x :: r) I nm Q := by
  obtain rfl := g_next h
  refine g_step h rfl (fun f => ?_) k
  have e : mi_Z f own (.invokestatic fk) (.int y :: .int x :: r) (mf_M I nm sc) = some (.int (if x < y then y else x) :: r, mf_M I nm sc) := by
    show mi_Zs f own fk _ _ = _
    unfold mi_Zs
    rw [h1]
    simp [mi_mx, hlow]
  simp only [mi_one, mi_A, mi_B, mi_L, mi_Y, e, Option.map_some]
  rfl
theorem g_min {r : List Value} {x y : Int32} {fk pl : Nat} (h : mg_f code pc = some (.invokestatic fk, n)) (h1 : mi_cq.lookup (own, fk) = some (2, pl)) (hlow : mi_low r = true) (k : GG sc own ini rz code d n ls (.int (if y < x then y else x) :: r) I nm Q) : GG sc own ini rz code d pc ls (.int y :: .int x :: r) I nm Q := by
  obtain rfl := g_next h
  refine g_step h rfl (fun f => ?_) k
  have e : mi_Z f own (.invokestatic fk) (.int y :: .int x :: r) (mf_M I nm sc) = some (.int (if y < x then y else x) :: r, mf_M I nm sc) := by
    show mi_Zs f own fk _ _ = _
    unfold mi_Zs
    rw [h1]
    simp [mi_mn, hlow]
  simp only [mi_one, mi_A, mi_B, mi_L, mi_Y, e, Option.map_some]
  rfl
end GC
/-- an index's range -/
def iR (x : Int32) (n : Nat) : Prop := 0 ≤ x.toInt ∧ x.toInt < (n : Int)
theorem iR_nI {x : Int32} {n : Nat} (h : iR x n) : ∃ k, k < n ∧ x = nI k ∧ x.toNatClampNeg = k := by
  have h1 : vp_in x n := vp_in_iff.mpr h
  by_cases hn : n < 2 ^ 31
  · obtain ⟨k, hk, rfl⟩ := vp_in_of h1 hn
    exact ⟨k, hk, rfl, nI_clamp (by omega)⟩
  · have h2 := x.toInt_lt
    have h3 := h.1
    have h4 : ¬ x < 0 := fun z => by
      have := Int32.lt_iff_toInt_lt.mp z
      simp at this
      omega
    obtain ⟨j, hj, rfl⟩ := nI_of h4
    exact ⟨j, by omega, rfl, nI_clamp hj⟩
theorem iR_clamp {x : Int32} {n : Nat} (h : iR x n) : x.toNatClampNeg < n ∧ x = nI x.toNatClampNeg ∧ x.toInt = (x.toNatClampNeg : Int) := by
  obtain ⟨k, hk, h1, h2⟩ := iR_nI h
  refine ⟨by omega, by rw [h2]; exact h1, ?_⟩
  have := h.1
  show x.toInt = ((x.toInt.toNat : Nat) : Int)
  omega
theorem iR_of {k n : Nat} (h : k < n) (hn : n < 2 ^ 31) : iR (nI k) n := by
  have := nI_toInt (n := k) (by omega)
  exact ⟨by omega, by omega⟩
end
section
/-! rows over known places; the model's small methods -/
theorem nI_plus (x y : Nat) : nI x + nI y = nI (x + y) := by
  apply Int32.toBitVec_inj.mp
  simp [nI]
theorem nI_times (x y : Nat) : nI x * nI y = nI (x * y) := by
  apply Int32.toBitVec_inj.mp
  simp [nI]
theorem nI_inc (k : Nat) : nI k + Int32.ofInt 1 = nI (k + 1) := nI_plus k 1
theorem lg_lt {x y : Int64} : lg_cmp x y < 0 ↔ x < y := by
  unfold lg_cmp
  split
  next h => exact ⟨fun z => absurd z (by decide), fun z => absurd h (by simp only [GT.gt, Int64.lt_iff_toInt_lt] at *; omega)⟩
  next h =>
    split
    next h2 => subst h2; exact ⟨fun z => absurd z (by decide), fun z => absurd z (by rw [Int64.lt_iff_toInt_lt]; omega)⟩
    next h2 => exact ⟨fun _ => by
      simp only [GT.gt, Int64.lt_iff_toInt_lt] at *
      have : x.toInt ≠ y.toInt := fun z => h2 (Int64.toInt_inj.mp z)
      omega, fun _ => by decide⟩
theorem lg_gt {x y : Int64} : 0 < lg_cmp x y ↔ y < x := by
  unfold lg_cmp
  split
  next h => exact ⟨fun _ => h, fun _ => by decide⟩
  next h =>
    split
    next h2 => exact ⟨fun z => absurd z (by decide), fun z => absurd z h⟩
    next h2 => exact ⟨fun z => absurd z (by decide), fun z => absurd z h⟩
theorem bI_fit {p : Prop} [Decidable p] : mi_fit .boolean (.int (bI p)) = true := decide_eq_true bI_01
/-- no answer, and the memory is this -/
def qZ (I : mg_I) (nm : Nat) : Option Value → mg_I → Nat → Prop := fun r I' nm' => r = none ∧ I' = I ∧ nm' = nm
theorem tI_0 : Int32.toInt (0) = 0 := by decide
theorem tI_1 : Int32.toInt (1) = 1 := by decide
theorem tI_2 : Int32.toInt (2) = 2 := by decide
theorem tI_3 : Int32.toInt (3) = 3 := by decide
theorem tI_4 : Int32.toInt (4) = 4 := by decide
theorem tI_5 : Int32.toInt (5) = 5 := by decide
theorem tI_6 : Int32.toInt (6) = 6 := by decide
theorem tI_7 : Int32.toInt (7) = 7 := by decide
theorem tI_8 : Int32.toInt (8) = 8 := by decide
theorem tI_9 : Int32.toInt (9) = 9 := by decide
theorem tI_10 : Int32.toInt (10) = 10 := by decide
theorem tI_11 : Int32.toInt (11) = 11 := by decide
theorem tI_12 : Int32.toInt (12) = 12 := by decide
theorem tI_13 : Int32.toInt (13) = 13 := by decide
theorem tI_14 : Int32.toInt (14) = 14 := by decide
theorem tI_19 : Int32.toInt (19) = 19 := by decide
theorem tI_20 : Int32.toInt (20) = 20 := by decide
theorem tI_23 : Int32.toInt (23) = 23 := by decide
theorem tI_24 : Int32.toInt (24) = 24 := by decide
theorem tI_40 : Int32.toInt (40) = 40 := by decide
theorem tI_50 : Int32.toInt (50) = 50 := by decide
theorem tI_59 : Int32.toInt (59) = 59 := by decide
theorem tI_60 : Int32.toInt (60) = 60 := by decide
theorem tI_69 : Int32.toInt (69) = 69 := by decide
theorem tI_70 : Int32.toInt (70) = 70 := by decide
theorem tI_99 : Int32.toInt (99) = 99 := by decide
theorem tI_114 : Int32.toInt (114) = 114 := by decide
theorem tI_286 : Int32.toInt (286) = 286 := by decide
theorem tI_300 : Int32.toInt (300) = 300 := by decide
theorem tI_999 : Int32.toInt (999) = 999 := by decide
theorem tI_9999 : Int32.toInt (9999) = 9999 := by decide
theorem tI_99999 : Int32.toInt (99999) = 99999 := by decide
theorem tI_m1 : Int32.toInt (-1) = -1 := by decide
theorem tI_m2 : Int32.toInt (-2) = -2 := by decide
theorem tI_m3 : Int32.toInt (-3) = -3 := by decide
theorem tI_m99 : Int32.toInt (-99) = -99 := by decide
theorem tI_m99999 : Int32.toInt (-99999) = -99999 := by decide
section GK
variable {sc : List Value} {own : Nat} {ini rz : Bool} {code : List (Nat × Instr)} {d pc n : Nat} {ls : List Value} {I : mg_I} {nm : Nat} {Q : Option Value → mg_I → Nat → Prop}
theorem g_iaddN {r : List Value} {x y : Nat} (h : mg_f code pc = some (.iadd, n)) (k : GG sc own ini rz code d n ls (.int (nI (x + y)) :: r) I nm Q) : GG sc own ini rz code d pc ls (.int (nI y) :: .int (nI x) :: r) I nm Q :=
  g_iadd h (by rw [nI_plus]; exact k)
theorem g_imulN {r : List Value} {x y : Nat} (h : mg_f code pc = some (.imul, n)) (k : GG sc own ini rz code d n ls (.int (nI (x * y)) :: r) I nm Q) : GG sc own ini rz code d pc ls (.int (nI y) :: .int (nI x) :: r) I nm Q :=
  g_imul h (by rw [nI_times]; exact k)
theorem g_ifeq1 {r : List Value} {off : Int} (m : Nat) (h : mg_f code pc = some (.ifCond .eq off, n)) (ht : (pc : Int) + off = (m : Int)) (k : GG sc own ini rz code d n ls r I nm Q) : GG sc own ini rz code d pc ls (.int 1 :: r) I nm Q := g_ifeq m h ht (fun z => absurd z (by decide)) (fun _ => k)
theorem g_ifeq0 {r : List Value} {off : Int} (m : Nat) (h : mg_f code pc = some (.ifCond .eq off, n)) (ht : (pc : Int) + off = (m : Int)) (k : GG sc own ini rz code d m ls r I nm Q) : GG sc own ini rz code d pc ls (.int 0 :: r) I nm Q := g_ifeq m h ht (fun _ => k) (fun z => absurd rfl z)
theorem g_ifne1 {r : List Value} {off : Int} (m : Nat) (h : mg_f code pc = some (.ifCond .ne off, n)) (ht : (pc : Int) + off = (m : Int)) (k : GG sc own ini rz code d m ls r I nm Q) : GG sc own ini rz code d pc ls (.int 1 :: r) I nm Q := g_ifne m h ht (fun _ => k) (fun z => absurd z (by decide))
theorem g_ifne0 {r : List Value} {off : Int} (m : Nat) (h : mg_f code pc = some (.ifCond .ne off, n)) (ht : (pc : Int) + off = (m : Int)) (k : GG sc own ini rz code d n ls r I nm Q) : GG sc own ini rz code d pc ls (.int 0 :: r) I nm Q := g_ifne m h ht (fun z => absurd rfl z) (fun _ => k)
theorem g_E {r : List Value} {v : Int32} {I' : mg_I} {nm' : Nat} (k : GG sc own ini rz code d n ls (.int v :: r) I' nm' Q) : ∀ a I2 nm2, qE v I' nm' a I2 nm2 → GG sc own ini rz code d n ls (a.toList ++ r) I2 nm2 Q := by
  rintro a I2 nm2 ⟨rfl, rfl, rfl⟩
  exact k
theorem g_Z {r : List Value} {I' : mg_I} {nm' : Nat} (k : GG sc own ini rz code d n ls r I' nm' Q) : ∀ a I2 nm2, qZ I' nm' a I2 nm2 → GG sc own ini rz code d n ls (a.toList ++ r) I2 nm2 Q := by
  rintro a I2 nm2 ⟨rfl, rfl, rfl⟩
  exact k
end GK
theorem bI_is {p : Prop} [Decidable p] {v : Int32} (h : (p ∧ v = 1) ∨ (¬ p ∧ v = 0)) : v = bI p := by
  rcases h with ⟨h, rfl⟩ | ⟨h, rfl⟩
  · exact (bI_t h).symm
  · exact (bI_f h).symm
/-- the places of a goer -/
def fO (d : Nat → Int32) (g w : Nat) : Int32 := d (34 + 10 * g + w)
theorem c_of {sc : List Value} {nm : Nat} {I : mg_I} {g w : Nat} (hg : g < 8) (hw : w < 10) : SP sc 1 145 [.ref 124, .int (nI g), .int (nI w)] I nm (qE (fO (I 125) g w) I nm) := by
  refine SP.of (h := 0) (t := 145) (q := (yX12_of, cX12_of, 3, (some .int), 12, 1231, mi_k145)) rfl (by decide) (show ¬ (3 : Nat) < 3 by decide) (fun d hd => ?_)
  show GG sc 12 false false mi_k145 d 0 [.ref 124, .int (nI g), .int (nI w)] [] I nm (qE (fO (I 125) g w) I nm)
  refine g_aload_n (n := 1) rfl rfl ?_
  refine g_getr (n := 4) (ci := 12) (j := 0) (b := 125) rfl (by decide +kernel) (by decide) (by decide) (by decide +kernel) ?_
  refine g_bipush (n := 6) (v := 34) rfl rfl ?_
  refine g_bipush (n := 8) (v := 10) rfl rfl ?_
  refine g_iload_n (n := 9) rfl rfl ?_
  refine g_imulN (n := 10) (x := 10) (y := g) rfl ?_
  refine g_iaddN (n := 11) (x := 34) (y := (10 * g)) rfl ?_
  refine g_iload_n (n := 12) rfl rfl ?_
  refine g_iaddN (n := 13) (x := (34 + (10 * g))) (y := w) rfl ?_
  refine g_iald (n := 14) (((34 + (10 * g)) + w)) rfl (by decide) rfl (by show _ < 286; omega) ?_
  refine g_iret (n := 15) rfl (fun h => nomatch h) ?_
  exact ⟨rfl, rfl, rfl⟩
theorem c_sets {sc : List Value} {nm : Nat} {I : mg_I} {g w : Nat} {v : Int32} (hg : g < 8) (hw : w < 10) : SP sc 1 146 [.ref 124, .int (nI g), .int (nI w), .int v] I nm (qZ (mf_up I 125 (34 + 10 * g + w) v) nm) := by
  refine SP.of (h := 0) (t := 146) (q := (yX12_sets, cX12_sets, 4, none, 12, 1254, mi_k146)) rfl (by decide) (show ¬ (4 : Nat) < 4 by decide) (fun d hd => ?_)
  show GG sc 12 false false mi_k146 d 0 [.ref 124, .int (nI g), .int (nI w), .int v] [] I nm (qZ (mf_up I 125 (34 + 10 * g + w) v) nm)
  refine g_aload_n (n := 1) rfl rfl ?_
  refine g_getr (n := 4) (ci := 12) (j := 0) (b := 125) rfl (by decide +kernel) (by decide) (by decide) (by decide +kernel) ?_
  refine g_bipush (n := 6) (v := 34) rfl rfl ?_
  refine g_bipush (n := 8) (v := 10) rfl rfl ?_
  refine g_iload_n (n := 9) rfl rfl ?_
  refine g_imulN (n := 10) (x := 10) (y := g) rfl ?_
  refine g_iaddN (n := 11) (x := 34) (y := (10 * g)) rfl ?_
  refine g_iload_n (n := 12) rfl rfl ?_
  refine g_iaddN (n := 13) (x := (34 + (10 * g))) (y := w) rfl ?_
  refine g_iload_n (n := 14) rfl rfl ?_
  refine g_iast (n := 15) (((34 + (10 * g)) + w)) rfl (by decide) rfl (by show _ < 286; omega) ?_
  refine g_vret (n := 16) rfl ?_
  exact ⟨rfl, rfl, rfl⟩
theorem c_isLedge {sc : List Value} {nm : Nat} {I : mg_I} {y : Nat} (hy : y < 24) : SP sc 1 164 [.ref 124, .int (nI y)] I nm (qE (bI (1 < I 125 (10 + y))) I nm) := by
  refine SP.of (h := 0) (t := 164) (q := (yX12_isLedge, cX12_isLedge, 2, (some .boolean), 12, 1235, mi_k164)) rfl (by decide) (show ¬ (2 : Nat) < 2 by decide) (fun d hd => ?_)
  show GG sc 12 false true mi_k164 d 0 [.ref 124, .int (nI y)] [] I nm (qE (bI (1 < I 125 (10 + y))) I nm)
  refine g_aload_n (n := 1) rfl rfl ?_
  refine g_getr (n := 4) (ci := 12) (j := 0) (b := 125) rfl (by decide +kernel) (by decide) (by decide) (by decide +kernel) ?_
  refine g_bipush (n := 6) (v := 10) rfl rfl ?_
  refine g_iload_n (n := 7) rfl rfl ?_
  refine g_iaddN (n := 8) (x := 10) (y := y) rfl ?_
  refine g_iald (n := 9) ((10 + y)) rfl (by decide) rfl (by show _ < 286; omega) ?_
  refine g_iconst (n := 10) (v := 1) rfl rfl ?_
  refine g_icle (n := 13) 17 rfl (by decide) (fun h1 => ?_) (fun h1 => ?_)
  ·
    refine g_iconst (n := 18) (v := 0) rfl rfl ?_
    refine g_iret (n := 19) rfl (fun _ => by first | exact Or.inl rfl | exact Or.inr rfl | exact bI_01) ?_
    exact ⟨congrArg (fun z => some (Value.int z)) (by first | exact (bI_t (by (try simp only [lg_lt, lg_gt] at *); simp only [Int32.lt_iff_toInt_lt, Int32.le_iff_toInt_le, Int64.lt_iff_toInt_lt, Int64.le_iff_toInt_le] at *; omega)).symm | exact (bI_f (by (try simp only [lg_lt, lg_gt] at *); simp only [Int32.lt_iff_toInt_lt, Int32.le_iff_toInt_le, Int64.lt_iff_toInt_lt, Int64.le_iff_toInt_le] at *; omega)).symm), rfl, rfl⟩
  ·
    refine g_iconst (n := 14) (v := 1) rfl rfl ?_
    refine g_goto 18 rfl (by decide) ?_
    refine g_iret (n := 19) rfl (fun _ => by first | exact Or.inl rfl | exact Or.inr rfl | exact bI_01) ?_
    exact ⟨congrArg (fun z => some (Value.int z)) (by first | exact (bI_t (by (try simp only [lg_lt, lg_gt] at *); simp only [Int32.lt_iff_toInt_lt, Int32.le_iff_toInt_le, Int64.lt_iff_toInt_lt, Int64.le_iff_toInt_le] at *; omega)).symm | exact (bI_f (by (try simp only [lg_lt, lg_gt] at *); simp only [Int32.lt_iff_toInt_lt, Int32.le_iff_toInt_le, Int64.lt_iff_toInt_lt, Int64.le_iff_toInt_le] at *; omega)).symm), rfl, rfl⟩
theorem c_finds {sc : List Value} {nm : Nat} {I : mg_I} {k : Nat} (hk : k < 6) : SP sc 1 140 [.ref 124, .int (nI k)] I nm (qE (-1000000000 - nI k) (mf_up I 128 k (I 128 k + 1)) nm) := by
  refine SP.of (h := 0) (t := 140) (q := (yX12_finds, cX12_finds, 2, (some .int), 12, 1147, mi_k140)) rfl (by decide) (show ¬ (2 : Nat) < 2 by decide) (fun d hd => ?_)
  show GG sc 12 false false mi_k140 d 0 [.ref 124, .int (nI k)] [] I nm (qE (-1000000000 - nI k) (mf_up I 128 k (I 128 k + 1)) nm)
  refine g_aload_n (n := 1) rfl rfl ?_
  refine g_getr (n := 4) (ci := 12) (j := 4) (b := 128) rfl (by decide +kernel) (by decide) (by decide) (by decide +kernel) ?_
  refine g_iload_n (n := 5) rfl rfl ?_
  refine g_dup2 (n := 6) rfl ?_
  refine g_iald (n := 7) (k) rfl (by decide) rfl (by show _ < 6; omega) ?_
  refine g_iconst (n := 8) (v := 1) rfl rfl ?_
  refine g_iadd (n := 9) rfl ?_
  refine g_iast (n := 10) (k) rfl (by decide) rfl (by show _ < 6; omega) ?_
  refine g_ldc (n := 12) (v := -1000000000) (pl := 1148) rfl (by decide +kernel) ?_
  refine g_iload_n (n := 13) rfl rfl ?_
  refine g_isub (n := 14) rfl ?_
  refine g_iret (n := 15) rfl (fun h => nomatch h) ?_
  exact ⟨rfl, rfl, rfl⟩
theorem c_held {sc : List Value} {nm : Nat} {I : mg_I} {x lo hi : Int32} : SP sc 1 142 [.int x, .int lo, .int hi] I nm (qE (if x < lo then lo else if hi < x then hi else x) I nm) := by
  refine SP.of (h := 0) (t := 142) (q := (yX12_held, cX12_held, 3, (some .int), 12, 1210, mi_k142)) rfl (by decide) (show ¬ (3 : Nat) < 3 by decide) (fun d hd => ?_)
  show GG sc 12 false false mi_k142 d 0 [.int x, .int lo, .int hi] [] I nm (qE (if x < lo then lo else if hi < x then hi else x) I nm)
  refine g_iload_n (n := 1) rfl rfl ?_
  refine g_iload_n (n := 2) rfl rfl ?_
  refine g_icge (n := 5) 9 rfl (by decide) (fun h1 => ?_) (fun h1 => ?_)
  ·
    refine g_iload_n (n := 10) rfl rfl ?_
    refine g_iload_n (n := 11) rfl rfl ?_
    refine g_icle (n := 14) 18 rfl (by decide) (fun h2 => ?_) (fun h2 => ?_)
    ·
      refine g_iload_n (n := 19) rfl rfl ?_
      refine g_iret (n := 20) rfl (fun h => nomatch h) ?_
      exact ⟨congrArg (fun z => some (Value.int z)) (by split <;> first | rfl | (split <;> first | rfl | (exfalso; (try simp only [lg_lt, lg_gt] at *); simp only [Int32.lt_iff_toInt_lt, Int32.le_iff_toInt_le, Int64.lt_iff_toInt_lt, Int64.le_iff_toInt_le] at *; omega))  | (exfalso; (try simp only [lg_lt, lg_gt] at *); simp only [Int32.lt_iff_toInt_lt, Int32.le_iff_toInt_le, Int64.lt_iff_toInt_lt, Int64.le_iff_toInt_le] at *; omega)), rfl, rfl⟩
    ·
      refine g_iload_n (n := 15) rfl rfl ?_
      refine g_goto 19 rfl (by decide) ?_
      refine g_iret (n := 20) rfl (fun h => nomatch h) ?_
      exact ⟨congrArg (fun z => some (Value.int z)) (by split <;> first | rfl | (split <;> first | rfl | (exfalso; (try simp only [lg_lt, lg_gt] at *); simp only [Int32.lt_iff_toInt_lt, Int32.le_iff_toInt_le, Int64.lt_iff_toInt_lt, Int64.le_iff_toInt_le] at *; omega))  | (exfalso; (try simp only [lg_lt, lg_gt] at *); simp only [Int32.lt_iff_toInt_lt, Int32.le_iff_toInt_le, Int64.lt_iff_toInt_lt, Int64.le_iff_toInt_le] at *; omega)), rfl, rfl⟩
  ·
    refine g_iload_n (n := 6) rfl rfl ?_
    refine g_goto 19 rfl (by decide) ?_
    refine g_iret (n := 20) rfl (fun h => nomatch h) ?_
    exact ⟨congrArg (fun z => some (Value.int z)) (by split <;> first | rfl | (split <;> first | rfl | (exfalso; (try simp only [lg_lt, lg_gt] at *); simp only [Int32.lt_iff_toInt_lt, Int32.le_iff_toInt_le, Int64.lt_iff_toInt_lt, Int64.le_iff_toInt_le] at *; omega))  | (exfalso; (try simp only [lg_lt, lg_gt] at *); simp only [Int32.lt_iff_toInt_lt, Int32.le_iff_toInt_le, Int64.lt_iff_toInt_lt, Int64.le_iff_toInt_le] at *; omega)), rfl, rfl⟩
theorem c_in {sc : List Value} {nm : Nat} {I : mg_I} {x lo hi : Int64} : SP sc 1 141 [.long x, .long lo, .long hi] I nm (qE (bI (lo ≤ x ∧ x ≤ hi)) I nm) := by
  refine SP.of (h := 0) (t := 141) (q := (yX12_in, cX12_in, 6, (some .boolean), 12, 1143, mi_k141)) rfl (by decide) (show ¬ (6 : Nat) < 6 by decide) (fun d hd => ?_)
  show GG sc 12 false true mi_k141 d 0 [.long x, .null, .long lo, .null, .long hi, .null] [] I nm (qE (bI (lo ≤ x ∧ x ≤ hi)) I nm)
  refine g_lload_n (n := 1) rfl rfl ?_
  refine g_lload_n (n := 2) rfl rfl ?_
  refine g_lcmp (n := 3) rfl ?_
  refine g_iflt (n := 6) 17 rfl (by decide) (fun h1 => ?_) (fun h1 => ?_)
  ·
    refine g_iconst (n := 18) (v := 0) rfl rfl ?_
    refine g_iret (n := 19) rfl (fun _ => by first | exact Or.inl rfl | exact Or.inr rfl | exact bI_01) ?_
    exact ⟨congrArg (fun z => some (Value.int z)) (by first | exact (bI_t (by (try simp only [lg_lt, lg_gt] at *); simp only [Int32.lt_iff_toInt_lt, Int32.le_iff_toInt_le, Int64.lt_iff_toInt_lt, Int64.le_iff_toInt_le] at *; omega)).symm | exact (bI_f (by (try simp only [lg_lt, lg_gt] at *); simp only [Int32.lt_iff_toInt_lt, Int32.le_iff_toInt_le, Int64.lt_iff_toInt_lt, Int64.le_iff_toInt_le] at *; omega)).symm), rfl, rfl⟩
  ·
    refine g_lload_n (n := 7) rfl rfl ?_
    refine g_lload (n := 9) rfl rfl ?_
    refine g_lcmp (n := 10) rfl ?_
    refine g_ifgt (n := 13) 17 rfl (by decide) (fun h2 => ?_) (fun h2 => ?_)
    ·
      refine g_iconst (n := 18) (v := 0) rfl rfl ?_
      refine g_iret (n := 19) rfl (fun _ => by first | exact Or.inl rfl | exact Or.inr rfl | exact bI_01) ?_
      exact ⟨congrArg (fun z => some (Value.int z)) (by first | exact (bI_t (by (try simp only [lg_lt, lg_gt] at *); simp only [Int32.lt_iff_toInt_lt, Int32.le_iff_toInt_le, Int64.lt_iff_toInt_lt, Int64.le_iff_toInt_le] at *; omega)).symm | exact (bI_f (by (try simp only [lg_lt, lg_gt] at *); simp only [Int32.lt_iff_toInt_lt, Int32.le_iff_toInt_le, Int64.lt_iff_toInt_lt, Int64.le_iff_toInt_le] at *; omega)).symm), rfl, rfl⟩
    ·
      refine g_iconst (n := 14) (v := 1) rfl rfl ?_
      refine g_goto 18 rfl (by decide) ?_
      refine g_iret (n := 19) rfl (fun _ => by first | exact Or.inl rfl | exact Or.inr rfl | exact bI_01) ?_
      exact ⟨congrArg (fun z => some (Value.int z)) (by first | exact (bI_t (by (try simp only [lg_lt, lg_gt] at *); simp only [Int32.lt_iff_toInt_lt, Int32.le_iff_toInt_le, Int64.lt_iff_toInt_lt, Int64.le_iff_toInt_le] at *; omega)).symm | exact (bI_f (by (try simp only [lg_lt, lg_gt] at *); simp only [Int32.lt_iff_toInt_lt, Int32.le_iff_toInt_le, Int64.lt_iff_toInt_lt, Int64.le_iff_toInt_le] at *; omega)).symm), rfl, rfl⟩
end
section
/-! what the model works out of its row of numbers, and the methods that do it -/
def cnt (p : Nat → Prop) [DecidablePred p] : Nat → Int32
  | 0 => 0
  | k + 1 => cnt p k + bI (p k)
theorem cnt_1 {p : Nat → Prop} [DecidablePred p] {k : Nat} (h : p k) : cnt p (k + 1) = cnt p k + 1 := by rw [cnt, bI_t h]
theorem cnt_0 {p : Nat → Prop} [DecidablePred p] {k : Nat} (h : ¬ p k) : cnt p (k + 1) = cnt p k + 0 := by rw [cnt, bI_f h]
def fN (d : Nat → Int32) : Nat := (d 0).toNatClampNeg
theorem fN_eq {d : Nat → Int32} (h : iR (d 0) 9) : d 0 = nI (fN d) ∧ fN d ≤ 8 := by
  have := iR_clamp h
  exact ⟨this.2.1, by have := this.1; show (d 0).toNatClampNeg ≤ 8; omega⟩
theorem fN_le {x : Int32} {n k : Nat} (e : x = nI n) (hn : n < 2 ^ 31) (hk : k < 2 ^ 31) (h : x ≤ nI k) : n ≤ k := by
  rw [e] at h
  exact (nI_leI hn hk).mp h
theorem fN_nle {x : Int32} {n k : Nat} (e : x = nI n) (hn : n < 2 ^ 31) (hk : k < 2 ^ 31) (h : ¬ x ≤ nI k) : k < n := by
  rw [e] at h
  exact Nat.lt_of_not_le (fun z => h ((nI_leI hn hk).mpr z))
theorem fN_pred {d : Nat → Int32} (h : iR (d 0) 9) : (d 0 - 1).toInt = (fN d : Int) - 1 := by
  obtain ⟨e, hn⟩ := fN_eq h
  generalize fN d = n at e hn
  rw [e]
  obtain rfl | hp := Nat.eq_zero_or_pos n
  · decide
  · obtain ⟨j, rfl⟩ : ∃ j, n = j + 1 := ⟨n - 1, by omega⟩
    rw [nI_pred, nI_toInt (by omega)]
    omega
def fLedge (d : Nat → Int32) (y : Nat) : Prop := 1 < d (10 + y)
def fPace (k m : Int32) : Int32 := if k = 1 then 2 else if k = 4 then 3 else if k = 5 then 1 + (m - m / 3 * 3) else 1
def fGoat (m : Int32) : Int32 := if m < 3 then 0 else m - 3
def fLoad (k m : Int32) : Int32 := if k = 1 ∨ k = 4 then 20 else if k = 2 then fGoat m else if k = 5 then 2 * fGoat m else if k = 3 then m + 9 else if k = 6 then 9 else m
def fBack (k m : Int32) : Int32 := if k = 3 ∨ k = 6 then bI (m - m / 2 * 2 = 1) else bI (¬ k = 1 ∧ ¬ k = 4)
def fHears (k : Int32) : Int32 := bI (¬ k = 4 ∧ ¬ k = 6)
def fK (k : Int32) : Prop := k = 0 ∨ k = 1 ∨ k = 2 ∨ k = 3 ∨ k = 4 ∨ k = 5 ∨ k = 6
def fFaces (d : Nat → Int32) (g : Nat) : Int32 := if fO d g 2 < fO d g 3 then 1 else -1
def fAt (d : Nat → Int32) (y : Int32) : Int32 := cnt (fun g => fO d g 5 = 1 ∧ fO d g 6 = y) (fN d)
def fBefore (d : Nat → Int32) (y : Nat) : Int32 := cnt (fun k => 1 < d (10 + k)) y
def fMany (d : Nat → Int32) (how : Int32) : Int32 := cnt (fun g => fO d g 5 = how) (fN d)
theorem Int32_0le {x : Int32} : (0 : Int64).toInt ≤ x.toInt ↔ 0 ≤ x.toInt := Iff.rfl

theorem c_inI {sc : List Value} {nm : Nat} {I : mg_I} {x : Int32} {lo hi : Int64} {a b : Int} (ha : lo.toInt = a) (hb : hi.toInt = b) : SP sc 1 141 [.long x.toInt64, .long lo, .long hi] I nm (qE (bI (a ≤ x.toInt ∧ x.toInt ≤ b)) I nm) := by
  have := c_in (sc := sc) (nm := nm) (I := I) (x := x.toInt64) (lo := lo) (hi := hi)
  refine this.mono fun r I' nm' h => ?_
  obtain ⟨h1, h2, h3⟩ := h
  refine ⟨h1.trans (congrArg (fun z => some (Value.int z)) (bI_eq ?_)), h2, h3⟩
  rw [Int64.le_iff_toInt_le, Int64.le_iff_toInt_le, Int32.toInt_toInt64, ha, hb]
theorem c_isYard {sc : List Value} {nm : Nat} {I : mg_I} {y : Int32} : SP sc 2 144 [.int y] I nm (qE (bI (0 ≤ y.toInt ∧ y.toInt ≤ 23)) I nm) := by
  refine SP.of (h := 1) (t := 144) (q := (yX12_isYard, cX12_isYard, 1, (some .boolean), 12, 1221, mi_k144)) rfl (by decide) (show ¬ (1 : Nat) < 1 by decide) (fun d hd => ?_)
  show GG sc 12 false true mi_k144 d 0 [.int y] [] I nm (qE (bI (0 ≤ y.toInt ∧ y.toInt ≤ 23)) I nm)
  refine g_iload_n (n := 1) rfl rfl ?_
  refine g_i2l (n := 2) rfl ?_
  refine g_lconst (n := 3) (v := 0) rfl rfl ?_
  refine g_ldc2 (n := 6) (v := 23) (pl := 1222) rfl (by decide +kernel) ?_
  refine g_cs3 (n := 9) (t := 141) (x := (1141, 1142, 84)) rfl (by decide +kernel) (by decide +kernel) (by rfl) (c_inI (a := 0) (b := 23) rfl rfl) (by omega) (g_E ?_)
  refine g_iret (n := 10) rfl (fun _ => by first | exact Or.inl rfl | exact Or.inr rfl | exact bI_01) ?_
  exact ⟨rfl, rfl, rfl⟩
theorem c_isGoer {sc : List Value} {nm : Nat} {I : mg_I} {g : Int32} (hN : iR (I 125 0) 9) : SP sc 2 143 [.ref 124, .int g] I nm (qE (bI (0 ≤ g.toInt ∧ g.toInt < (fN (I 125) : Int))) I nm) := by
  refine SP.of (h := 1) (t := 143) (q := (yX12_isGoer, cX12_isGoer, 2, (some .boolean), 12, 1266, mi_k143)) rfl (by decide) (show ¬ (2 : Nat) < 2 by decide) (fun d hd => ?_)
  show GG sc 12 false true mi_k143 d 0 [.ref 124, .int g] [] I nm (qE (bI (0 ≤ g.toInt ∧ g.toInt < (fN (I 125) : Int))) I nm)
  refine g_iload_n (n := 1) rfl rfl ?_
  refine g_i2l (n := 2) rfl ?_
  refine g_lconst (n := 3) (v := 0) rfl rfl ?_
  refine g_aload_n (n := 4) rfl rfl ?_
  refine g_getr (n := 7) (ci := 12) (j := 0) (b := 125) rfl (by decide +kernel) (by decide) (by decide) (by decide +kernel) ?_
  refine g_iconst (n := 8) (v := 0) rfl rfl ?_
  refine g_iald (n := 9) (0) rfl (by decide) rfl (by show _ < 286; omega) ?_
  refine g_iconst (n := 10) (v := 1) rfl rfl ?_
  refine g_isub (n := 11) rfl ?_
  refine g_i2l (n := 12) rfl ?_
  refine g_cs3 (n := 15) (t := 141) (x := (1141, 1142, 84)) rfl (by decide +kernel) (by decide +kernel) (by rfl) (c_inI (a := 0) rfl (Int32.toInt_toInt64 _)) (by omega) (g_E ?_)
  refine g_iret (n := 16) rfl (fun _ => by first | exact Or.inl rfl | exact Or.inr rfl | exact bI_01) ?_
  exact ⟨congrArg (fun z => some (Value.int z)) (bI_eq (by rw [fN_pred hN]; omega)), rfl, rfl⟩
theorem c_paceOf {sc : List Value} {nm : Nat}  {I : mg_I} {g : Nat} (hg : g < 8) (hk : fK (fO (I 125) g 0)) : SP sc 2 170 [.ref 124, .int (nI g)] I nm (qE (fPace (fO (I 125) g 0) (fO (I 125) g 1)) I nm) := by
  refine SP.of (h := 1) (t := 170) (q := (yX12_paceOf, cX12_paceOf, 2, (some .int), 12, 1271, mi_k170)) rfl (by decide) (show ¬ (2 : Nat) < 2 by decide) (fun d hd => ?_)
  show GG sc 12 false false mi_k170 d 0 [.ref 124, .int (nI g)] [] I nm (qE (fPace (fO (I 125) g 0) (fO (I 125) g 1)) I nm)
  refine g_aload_n (n := 1) rfl rfl ?_
  refine g_iload_n (n := 2) rfl rfl ?_
  refine g_iconst (n := 3) (v := 0) rfl rfl ?_
  refine g_cv2 (n := 6) (t := 145) (ci := 12) rfl (by decide +kernel) (by decide +kernel) (by decide) (by decide) (by decide +kernel) (by rfl) (c_of (g := g) (w := 0) (by omega) (by omega)) (by omega) (g_E ?_)
  rcases hk with e | e | e | e | e | e | e
  ·
    refine g_top e ?_
    refine g_tabo 55 rfl (by decide) (by decide) ?_
    refine g_iconst (n := 56) (v := 1) rfl rfl ?_
    refine g_iret (n := 57) rfl (fun h => nomatch h) ?_
    exact ⟨congrArg (fun z => some (Value.int z)) (by rw [fPace, e]; rfl), rfl, rfl⟩
  ·
    refine g_top e ?_
    refine g_tab 40 rfl (by decide) (by decide) rfl (by decide) ?_
    refine g_iconst (n := 41) (v := 2) rfl rfl ?_
    refine g_iret (n := 42) rfl (fun h => nomatch h) ?_
    exact ⟨congrArg (fun z => some (Value.int z)) (by rw [fPace, e]; rfl), rfl, rfl⟩
  ·
    refine g_top e ?_
    refine g_tab 55 rfl (by decide) (by decide) rfl (by decide) ?_
    refine g_iconst (n := 56) (v := 1) rfl rfl ?_
    refine g_iret (n := 57) rfl (fun h => nomatch h) ?_
    exact ⟨congrArg (fun z => some (Value.int z)) (by rw [fPace, e]; rfl), rfl, rfl⟩
  ·
    refine g_top e ?_
    refine g_tab 55 rfl (by decide) (by decide) rfl (by decide) ?_
    refine g_iconst (n := 56) (v := 1) rfl rfl ?_
    refine g_iret (n := 57) rfl (fun h => nomatch h) ?_
    exact ⟨congrArg (fun z => some (Value.int z)) (by rw [fPace, e]; rfl), rfl, rfl⟩
  ·
    refine g_top e ?_
    refine g_tab 42 rfl (by decide) (by decide) rfl (by decide) ?_
    refine g_iconst (n := 43) (v := 3) rfl rfl ?_
    refine g_iret (n := 44) rfl (fun h => nomatch h) ?_
    exact ⟨congrArg (fun z => some (Value.int z)) (by rw [fPace, e]; rfl), rfl, rfl⟩
  ·
    refine g_top e ?_
    refine g_tab 44 rfl (by decide) (by decide) rfl (by decide) ?_
    refine g_iconst (n := 45) (v := 1) rfl rfl ?_
    refine g_aload_n (n := 46) rfl rfl ?_
    refine g_iload_n (n := 47) rfl rfl ?_
    refine g_iconst (n := 48) (v := 1) rfl rfl ?_
    refine g_cv2 (n := 51) (t := 145) (ci := 12) rfl (by decide +kernel) (by decide +kernel) (by decide) (by decide) (by decide +kernel) (by rfl) (c_of (g := g) (w := 1) (by omega) (by omega)) (by omega) (g_E ?_)
    refine g_iconst (n := 52) (v := 3) rfl rfl ?_
    refine g_irem (n := 53) rfl (by decide) ?_
    refine g_iadd (n := 54) rfl ?_
    refine g_iret (n := 55) rfl (fun h => nomatch h) ?_
    exact ⟨congrArg (fun z => some (Value.int z)) (by rw [fPace, e]; rfl), rfl, rfl⟩
  ·
    refine g_top e ?_
    refine g_tabo 55 rfl (by decide) (by decide) ?_
    refine g_iconst (n := 56) (v := 1) rfl rfl ?_
    refine g_iret (n := 57) rfl (fun h => nomatch h) ?_
    exact ⟨congrArg (fun z => some (Value.int z)) (by rw [fPace, e]; rfl), rfl, rfl⟩
theorem c_loadOf {sc : List Value} {nm : Nat}  {I : mg_I} {g : Nat} (hg : g < 8) (hk : fK (fO (I 125) g 0)) : SP sc 2 171 [.ref 124, .int (nI g)] I nm (qE (fLoad (fO (I 125) g 0) (fO (I 125) g 1)) I nm) := by
  refine SP.of (h := 1) (t := 171) (q := (yX12_loadOf, cX12_loadOf, 4, (some .int), 12, 1275, mi_k171)) rfl (by decide) (show ¬ (4 : Nat) < 2 by decide) (fun d hd => ?_)
  show GG sc 12 false false mi_k171 d 0 [.ref 124, .int (nI g), .null, .null] [] I nm (qE (fLoad (fO (I 125) g 0) (fO (I 125) g 1)) I nm)
  refine g_aload_n (n := 1) rfl rfl ?_
  refine g_iload_n (n := 2) rfl rfl ?_
  refine g_iconst (n := 3) (v := 1) rfl rfl ?_
  refine g_cv2 (n := 6) (t := 145) (ci := 12) rfl (by decide +kernel) (by decide +kernel) (by decide) (by decide) (by decide +kernel) (by rfl) (c_of (g := g) (w := 1) (by omega) (by omega)) (by omega) (g_E ?_)
  refine g_istore_n2 (n := 7) rfl rfl ?_
  refine g_iload_n (n := 8) rfl rfl ?_
  refine g_iconst (n := 9) (v := 3) rfl rfl ?_
  refine g_icge (n := 12) 16 rfl (by decide) (fun h1 => ?_) (fun h1 => ?_)
  ·
    refine g_iload_n (n := 17) rfl rfl ?_
    refine g_iconst (n := 18) (v := 3) rfl rfl ?_
    refine g_isub (n := 19) rfl ?_
    refine g_istore_n3 (n := 20) rfl rfl ?_
    refine g_aload_n (n := 21) rfl rfl ?_
    refine g_iload_n (n := 22) rfl rfl ?_
    refine g_iconst (n := 23) (v := 0) rfl rfl ?_
    refine g_cv2 (n := 26) (t := 145) (ci := 12) rfl (by decide +kernel) (by decide +kernel) (by decide) (by decide) (by decide +kernel) (by rfl) (c_of (g := g) (w := 0) (by omega) (by omega)) (by omega) (g_E ?_)
    rcases hk with e | e | e | e | e | e | e
    ·
      refine g_top e ?_
      refine g_tabo 81 rfl (by decide) (by decide) ?_
      refine g_iload_n (n := 82) rfl rfl ?_
      refine g_iret (n := 83) rfl (fun h => nomatch h) ?_
      exact ⟨congrArg (fun z => some (Value.int z)) (by rw [e]; first | rfl | (show _ = fGoat _; unfold fGoat; first | exact (if_pos (by simp only [Int32.lt_iff_toInt_lt, Int32.le_iff_toInt_le] at *; omega)).symm | exact (if_neg (by simp only [Int32.lt_iff_toInt_lt, Int32.le_iff_toInt_le] at *; omega)).symm) | (show _ = 2 * fGoat _; unfold fGoat; first | rw [if_neg (by simp only [Int32.lt_iff_toInt_lt, Int32.le_iff_toInt_le] at *; omega)] | (rw [if_pos (by simp only [Int32.lt_iff_toInt_lt, Int32.le_iff_toInt_le] at *; omega)]; rfl))), rfl, rfl⟩
    ·
      refine g_top e ?_
      refine g_tab 64 rfl (by decide) (by decide) rfl (by decide) ?_
      refine g_bipush (n := 66) (v := 20) rfl rfl ?_
      refine g_iret (n := 67) rfl (fun h => nomatch h) ?_
      exact ⟨congrArg (fun z => some (Value.int z)) (by rw [e]; first | rfl | (show _ = fGoat _; unfold fGoat; first | exact (if_pos (by simp only [Int32.lt_iff_toInt_lt, Int32.le_iff_toInt_le] at *; omega)).symm | exact (if_neg (by simp only [Int32.lt_iff_toInt_lt, Int32.le_iff_toInt_le] at *; omega)).symm) | (show _ = 2 * fGoat _; unfold fGoat; first | rw [if_neg (by simp only [Int32.lt_iff_toInt_lt, Int32.le_iff_toInt_le] at *; omega)] | (rw [if_pos (by simp only [Int32.lt_iff_toInt_lt, Int32.le_iff_toInt_le] at *; omega)]; rfl))), rfl, rfl⟩
    ·
      refine g_top e ?_
      refine g_tab 67 rfl (by decide) (by decide) rfl (by decide) ?_
      refine g_iload_n (n := 68) rfl rfl ?_
      refine g_iret (n := 69) rfl (fun h => nomatch h) ?_
      exact ⟨congrArg (fun z => some (Value.int z)) (by rw [e]; first | rfl | (show _ = fGoat _; unfold fGoat; first | exact (if_pos (by simp only [Int32.lt_iff_toInt_lt, Int32.le_iff_toInt_le] at *; omega)).symm | exact (if_neg (by simp only [Int32.lt_iff_toInt_lt, Int32.le_iff_toInt_le] at *; omega)).symm) | (show _ = 2 * fGoat _; unfold fGoat; first | rw [if_neg (by simp only [Int32.lt_iff_toInt_lt, Int32.le_iff_toInt_le] at *; omega)] | (rw [if_pos (by simp only [Int32.lt_iff_toInt_lt, Int32.le_iff_toInt_le] at *; omega)]; rfl))), rfl, rfl⟩
    ·
      refine g_top e ?_
      refine g_tab 73 rfl (by decide) (by decide) rfl (by decide) ?_
      refine g_iload_n (n := 74) rfl rfl ?_
      refine g_bipush (n := 76) (v := 9) rfl rfl ?_
      refine g_iadd (n := 77) rfl ?_
      refine g_iret (n := 78) rfl (fun h => nomatch h) ?_
      exact ⟨congrArg (fun z => some (Value.int z)) (by rw [e]; first | rfl | (show _ = fGoat _; unfold fGoat; first | exact (if_pos (by simp only [Int32.lt_iff_toInt_lt, Int32.le_iff_toInt_le] at *; omega)).symm | exact (if_neg (by simp only [Int32.lt_iff_toInt_lt, Int32.le_iff_toInt_le] at *; omega)).symm) | (show _ = 2 * fGoat _; unfold fGoat; first | rw [if_neg (by simp only [Int32.lt_iff_toInt_lt, Int32.le_iff_toInt_le] at *; omega)] | (rw [if_pos (by simp only [Int32.lt_iff_toInt_lt, Int32.le_iff_toInt_le] at *; omega)]; rfl))), rfl, rfl⟩
    ·
      refine g_top e ?_
      refine g_tab 64 rfl (by decide) (by decide) rfl (by decide) ?_
      refine g_bipush (n := 66) (v := 20) rfl rfl ?_
      refine g_iret (n := 67) rfl (fun h => nomatch h) ?_
      exact ⟨congrArg (fun z => some (Value.int z)) (by rw [e]; first | rfl | (show _ = fGoat _; unfold fGoat; first | exact (if_pos (by simp only [Int32.lt_iff_toInt_lt, Int32.le_iff_toInt_le] at *; omega)).symm | exact (if_neg (by simp only [Int32.lt_iff_toInt_lt, Int32.le_iff_toInt_le] at *; omega)).symm) | (show _ = 2 * fGoat _; unfold fGoat; first | rw [if_neg (by simp only [Int32.lt_iff_toInt_lt, Int32.le_iff_toInt_le] at *; omega)] | (rw [if_pos (by simp only [Int32.lt_iff_toInt_lt, Int32.le_iff_toInt_le] at *; omega)]; rfl))), rfl, rfl⟩
    ·
      refine g_top e ?_
      refine g_tab 69 rfl (by decide) (by decide) rfl (by decide) ?_
      refine g_iconst (n := 70) (v := 2) rfl rfl ?_
      refine g_iload_n (n := 71) rfl rfl ?_
      refine g_imul (n := 72) rfl ?_
      refine g_iret (n := 73) rfl (fun h => nomatch h) ?_
      exact ⟨congrArg (fun z => some (Value.int z)) (by rw [e]; first | rfl | (show _ = fGoat _; unfold fGoat; first | exact (if_pos (by simp only [Int32.lt_iff_toInt_lt, Int32.le_iff_toInt_le] at *; omega)).symm | exact (if_neg (by simp only [Int32.lt_iff_toInt_lt, Int32.le_iff_toInt_le] at *; omega)).symm) | (show _ = 2 * fGoat _; unfold fGoat; first | rw [if_neg (by simp only [Int32.lt_iff_toInt_lt, Int32.le_iff_toInt_le] at *; omega)] | (rw [if_pos (by simp only [Int32.lt_iff_toInt_lt, Int32.le_iff_toInt_le] at *; omega)]; rfl))), rfl, rfl⟩
    ·
      refine g_top e ?_
      refine g_tab 78 rfl (by decide) (by decide) rfl (by decide) ?_
      refine g_bipush (n := 80) (v := 9) rfl rfl ?_
      refine g_iret (n := 81) rfl (fun h => nomatch h) ?_
      exact ⟨congrArg (fun z => some (Value.int z)) (by rw [e]; first | rfl | (show _ = fGoat _; unfold fGoat; first | exact (if_pos (by simp only [Int32.lt_iff_toInt_lt, Int32.le_iff_toInt_le] at *; omega)).symm | exact (if_neg (by simp only [Int32.lt_iff_toInt_lt, Int32.le_iff_toInt_le] at *; omega)).symm) | (show _ = 2 * fGoat _; unfold fGoat; first | rw [if_neg (by simp only [Int32.lt_iff_toInt_lt, Int32.le_iff_toInt_le] at *; omega)] | (rw [if_pos (by simp only [Int32.lt_iff_toInt_lt, Int32.le_iff_toInt_le] at *; omega)]; rfl))), rfl, rfl⟩
  ·
    refine g_iconst (n := 13) (v := 0) rfl rfl ?_
    refine g_goto 19 rfl (by decide) ?_
    refine g_istore_n3 (n := 20) rfl rfl ?_
    refine g_aload_n (n := 21) rfl rfl ?_
    refine g_iload_n (n := 22) rfl rfl ?_
    refine g_iconst (n := 23) (v := 0) rfl rfl ?_
    refine g_cv2 (n := 26) (t := 145) (ci := 12) rfl (by decide +kernel) (by decide +kernel) (by decide) (by decide) (by decide +kernel) (by rfl) (c_of (g := g) (w := 0) (by omega) (by omega)) (by omega) (g_E ?_)
    rcases hk with e | e | e | e | e | e | e
    ·
      refine g_top e ?_
      refine g_tabo 81 rfl (by decide) (by decide) ?_
      refine g_iload_n (n := 82) rfl rfl ?_
      refine g_iret (n := 83) rfl (fun h => nomatch h) ?_
      exact ⟨congrArg (fun z => some (Value.int z)) (by rw [e]; first | rfl | (show _ = fGoat _; unfold fGoat; first | exact (if_pos (by simp only [Int32.lt_iff_toInt_lt, Int32.le_iff_toInt_le] at *; omega)).symm | exact (if_neg (by simp only [Int32.lt_iff_toInt_lt, Int32.le_iff_toInt_le] at *; omega)).symm) | (show _ = 2 * fGoat _; unfold fGoat; first | rw [if_neg (by simp only [Int32.lt_iff_toInt_lt, Int32.le_iff_toInt_le] at *; omega)] | (rw [if_pos (by simp only [Int32.lt_iff_toInt_lt, Int32.le_iff_toInt_le] at *; omega)]; rfl))), rfl, rfl⟩
    ·
      refine g_top e ?_
      refine g_tab 64 rfl (by decide) (by decide) rfl (by decide) ?_
      refine g_bipush (n := 66) (v := 20) rfl rfl ?_
      refine g_iret (n := 67) rfl (fun h => nomatch h) ?_
      exact ⟨congrArg (fun z => some (Value.int z)) (by rw [e]; first | rfl | (show _ = fGoat _; unfold fGoat; first | exact (if_pos (by simp only [Int32.lt_iff_toInt_lt, Int32.le_iff_toInt_le] at *; omega)).symm | exact (if_neg (by simp only [Int32.lt_iff_toInt_lt, Int32.le_iff_toInt_le] at *; omega)).symm) | (show _ = 2 * fGoat _; unfold fGoat; first | rw [if_neg (by simp only [Int32.lt_iff_toInt_lt, Int32.le_iff_toInt_le] at *; omega)] | (rw [if_pos (by simp only [Int32.lt_iff_toInt_lt, Int32.le_iff_toInt_le] at *; omega)]; rfl))), rfl, rfl⟩
    ·
      refine g_top e ?_
      refine g_tab 67 rfl (by decide) (by decide) rfl (by decide) ?_
      refine g_iload_n (n := 68) rfl rfl ?_
      refine g_iret (n := 69) rfl (fun h => nomatch h) ?_
      exact ⟨congrArg (fun z => some (Value.int z)) (by rw [e]; first | rfl | (show _ = fGoat _; unfold fGoat; first | exact (if_pos (by simp only [Int32.lt_iff_toInt_lt, Int32.le_iff_toInt_le] at *; omega)).symm | exact (if_neg (by simp only [Int32.lt_iff_toInt_lt, Int32.le_iff_toInt_le] at *; omega)).symm) | (show _ = 2 * fGoat _; unfold fGoat; first | rw [if_neg (by simp only [Int32.lt_iff_toInt_lt, Int32.le_iff_toInt_le] at *; omega)] | (rw [if_pos (by simp only [Int32.lt_iff_toInt_lt, Int32.le_iff_toInt_le] at *; omega)]; rfl))), rfl, rfl⟩
    ·
      refine g_top e ?_
      refine g_tab 73 rfl (by decide) (by decide) rfl (by decide) ?_
      refine g_iload_n (n := 74) rfl rfl ?_
      refine g_bipush (n := 76) (v := 9) rfl rfl ?_
      refine g_iadd (n := 77) rfl ?_
      refine g_iret (n := 78) rfl (fun h => nomatch h) ?_
      exact ⟨congrArg (fun z => some (Value.int z)) (by rw [e]; first | rfl | (show _ = fGoat _; unfold fGoat; first | exact (if_pos (by simp only [Int32.lt_iff_toInt_lt, Int32.le_iff_toInt_le] at *; omega)).symm | exact (if_neg (by simp only [Int32.lt_iff_toInt_lt, Int32.le_iff_toInt_le] at *; omega)).symm) | (show _ = 2 * fGoat _; unfold fGoat; first | rw [if_neg (by simp only [Int32.lt_iff_toInt_lt, Int32.le_iff_toInt_le] at *; omega)] | (rw [if_pos (by simp only [Int32.lt_iff_toInt_lt, Int32.le_iff_toInt_le] at *; omega)]; rfl))), rfl, rfl⟩
    ·
      refine g_top e ?_
      refine g_tab 64 rfl (by decide) (by decide) rfl (by decide) ?_
      refine g_bipush (n := 66) (v := 20) rfl rfl ?_
      refine g_iret (n := 67) rfl (fun h => nomatch h) ?_
      exact ⟨congrArg (fun z => some (Value.int z)) (by rw [e]; first | rfl | (show _ = fGoat _; unfold fGoat; first | exact (if_pos (by simp only [Int32.lt_iff_toInt_lt, Int32.le_iff_toInt_le] at *; omega)).symm | exact (if_neg (by simp only [Int32.lt_iff_toInt_lt, Int32.le_iff_toInt_le] at *; omega)).symm) | (show _ = 2 * fGoat _; unfold fGoat; first | rw [if_neg (by simp only [Int32.lt_iff_toInt_lt, Int32.le_iff_toInt_le] at *; omega)] | (rw [if_pos (by simp only [Int32.lt_iff_toInt_lt, Int32.le_iff_toInt_le] at *; omega)]; rfl))), rfl, rfl⟩
    ·
      refine g_top e ?_
      refine g_tab 69 rfl (by decide) (by decide) rfl (by decide) ?_
      refine g_iconst (n := 70) (v := 2) rfl rfl ?_
      refine g_iload_n (n := 71) rfl rfl ?_
      refine g_imulN (n := 72) (x := 2) (y := 0) rfl ?_
      refine g_iret (n := 73) rfl (fun h => nomatch h) ?_
      exact ⟨congrArg (fun z => some (Value.int z)) (by rw [e]; first | rfl | (show _ = fGoat _; unfold fGoat; first | exact (if_pos (by simp only [Int32.lt_iff_toInt_lt, Int32.le_iff_toInt_le] at *; omega)).symm | exact (if_neg (by simp only [Int32.lt_iff_toInt_lt, Int32.le_iff_toInt_le] at *; omega)).symm) | (show _ = 2 * fGoat _; unfold fGoat; first | rw [if_neg (by simp only [Int32.lt_iff_toInt_lt, Int32.le_iff_toInt_le] at *; omega)] | (rw [if_pos (by simp only [Int32.lt_iff_toInt_lt, Int32.le_iff_toInt_le] at *; omega)]; rfl))), rfl, rfl⟩
    ·
      refine g_top e ?_
      refine g_tab 78 rfl (by decide) (by decide) rfl (by decide) ?_
      refine g_bipush (n := 80) (v := 9) rfl rfl ?_
      refine g_iret (n := 81) rfl (fun h => nomatch h) ?_
      exact ⟨congrArg (fun z => some (Value.int z)) (by rw [e]; first | rfl | (show _ = fGoat _; unfold fGoat; first | exact (if_pos (by simp only [Int32.lt_iff_toInt_lt, Int32.le_iff_toInt_le] at *; omega)).symm | exact (if_neg (by simp only [Int32.lt_iff_toInt_lt, Int32.le_iff_toInt_le] at *; omega)).symm) | (show _ = 2 * fGoat _; unfold fGoat; first | rw [if_neg (by simp only [Int32.lt_iff_toInt_lt, Int32.le_iff_toInt_le] at *; omega)] | (rw [if_pos (by simp only [Int32.lt_iff_toInt_lt, Int32.le_iff_toInt_le] at *; omega)]; rfl))), rfl, rfl⟩
theorem c_canBack {sc : List Value} {nm : Nat}  {I : mg_I} {g : Nat} (hg : g < 8) : SP sc 2 172 [.ref 124, .int (nI g)] I nm (qE (fBack (fO (I 125) g 0) (fO (I 125) g 1)) I nm) := by
  refine SP.of (h := 1) (t := 172) (q := (yX12_canBack, cX12_canBack, 4, (some .boolean), 12, 1283, mi_k172)) rfl (by decide) (show ¬ (4 : Nat) < 2 by decide) (fun d hd => ?_)
  show GG sc 12 false true mi_k172 d 0 [.ref 124, .int (nI g), .null, .null] [] I nm (qE (fBack (fO (I 125) g 0) (fO (I 125) g 1)) I nm)
  refine g_aload_n (n := 1) rfl rfl ?_
  refine g_iload_n (n := 2) rfl rfl ?_
  refine g_iconst (n := 3) (v := 0) rfl rfl ?_
  refine g_cv2 (n := 6) (t := 145) (ci := 12) rfl (by decide +kernel) (by decide +kernel) (by decide) (by decide) (by decide +kernel) (by rfl) (c_of (g := g) (w := 0) (by omega) (by omega)) (by omega) (g_E ?_)
  refine g_istore_n2 (n := 7) rfl rfl ?_
  refine g_iload_n (n := 8) rfl rfl ?_
  refine g_iconst (n := 9) (v := 3) rfl rfl ?_
  refine g_iceq (n := 12) 18 rfl (by decide) (fun h1 => ?_) (fun h1 => ?_)
  ·
    refine g_iconst (n := 19) (v := 1) rfl rfl ?_
    refine g_goto 23 rfl (by decide) ?_
    refine g_istore_n3 (n := 24) rfl rfl ?_
    refine g_iload_n (n := 25) rfl rfl ?_
    refine g_ifeq1 (n := 28) 48 rfl (by decide) ?_
    refine g_aload_n (n := 29) rfl rfl ?_
    refine g_iload_n (n := 30) rfl rfl ?_
    refine g_iconst (n := 31) (v := 1) rfl rfl ?_
    refine g_cv2 (n := 34) (t := 145) (ci := 12) rfl (by decide +kernel) (by decide +kernel) (by decide) (by decide) (by decide +kernel) (by rfl) (c_of (g := g) (w := 1) (by omega) (by omega)) (by omega) (g_E ?_)
    refine g_iconst (n := 35) (v := 2) rfl rfl ?_
    refine g_irem (n := 36) rfl (by decide) ?_
    refine g_iconst (n := 37) (v := 1) rfl rfl ?_
    refine g_icne (n := 40) 44 rfl (by decide) (fun h2 => ?_) (fun h2 => ?_)
    ·
      refine g_iconst (n := 45) (v := 0) rfl rfl ?_
      refine g_goto 63 rfl (by decide) ?_
      refine g_iret (n := 64) rfl (fun _ => by first | exact Or.inl rfl | exact Or.inr rfl | exact bI_01) ?_
      exact ⟨congrArg (fun z => some (Value.int z)) (by unfold fBack; split <;> first | exact (bI_t (by simp_all)).symm | exact (bI_f (by simp_all)).symm | (exfalso; simp_all)), rfl, rfl⟩
    ·
      refine g_iconst (n := 41) (v := 1) rfl rfl ?_
      refine g_goto 63 rfl (by decide) ?_
      refine g_iret (n := 64) rfl (fun _ => by first | exact Or.inl rfl | exact Or.inr rfl | exact bI_01) ?_
      exact ⟨congrArg (fun z => some (Value.int z)) (by unfold fBack; split <;> first | exact (bI_t (by simp_all)).symm | exact (bI_f (by simp_all)).symm | (exfalso; simp_all)), rfl, rfl⟩
  ·
    refine g_iload_n (n := 13) rfl rfl ?_
    refine g_bipush (n := 15) (v := 6) rfl rfl ?_
    refine g_icne (n := 18) 22 rfl (by decide) (fun h3 => ?_) (fun h3 => ?_)
    ·
      refine g_iconst (n := 23) (v := 0) rfl rfl ?_
      refine g_istore_n3 (n := 24) rfl rfl ?_
      refine g_iload_n (n := 25) rfl rfl ?_
      refine g_ifeq0 (n := 28) 48 rfl (by decide) ?_
      refine g_iload_n (n := 49) rfl rfl ?_
      refine g_iconst (n := 50) (v := 1) rfl rfl ?_
      refine g_iceq (n := 53) 62 rfl (by decide) (fun h4 => ?_) (fun h4 => ?_)
      ·
        refine g_iconst (n := 63) (v := 0) rfl rfl ?_
        refine g_iret (n := 64) rfl (fun _ => by first | exact Or.inl rfl | exact Or.inr rfl | exact bI_01) ?_
        exact ⟨congrArg (fun z => some (Value.int z)) (by unfold fBack; split <;> first | exact (bI_t (by simp_all)).symm | exact (bI_f (by simp_all)).symm | (exfalso; simp_all)), rfl, rfl⟩
      ·
        refine g_iload_n (n := 54) rfl rfl ?_
        refine g_iconst (n := 55) (v := 4) rfl rfl ?_
        refine g_iceq (n := 58) 62 rfl (by decide) (fun h5 => ?_) (fun h5 => ?_)
        ·
          refine g_iconst (n := 63) (v := 0) rfl rfl ?_
          refine g_iret (n := 64) rfl (fun _ => by first | exact Or.inl rfl | exact Or.inr rfl | exact bI_01) ?_
          exact ⟨congrArg (fun z => some (Value.int z)) (by unfold fBack; split <;> first | exact (bI_t (by simp_all)).symm | exact (bI_f (by simp_all)).symm | (exfalso; simp_all)), rfl, rfl⟩
        ·
          refine g_iconst (n := 59) (v := 1) rfl rfl ?_
          refine g_goto 63 rfl (by decide) ?_
          refine g_iret (n := 64) rfl (fun _ => by first | exact Or.inl rfl | exact Or.inr rfl | exact bI_01) ?_
          exact ⟨congrArg (fun z => some (Value.int z)) (by unfold fBack; split <;> first | exact (bI_t (by simp_all)).symm | exact (bI_f (by simp_all)).symm | (exfalso; simp_all)), rfl, rfl⟩
    ·
      refine g_iconst (n := 19) (v := 1) rfl rfl ?_
      refine g_goto 23 rfl (by decide) ?_
      refine g_istore_n3 (n := 24) rfl rfl ?_
      refine g_iload_n (n := 25) rfl rfl ?_
      refine g_ifeq1 (n := 28) 48 rfl (by decide) ?_
      refine g_aload_n (n := 29) rfl rfl ?_
      refine g_iload_n (n := 30) rfl rfl ?_
      refine g_iconst (n := 31) (v := 1) rfl rfl ?_
      refine g_cv2 (n := 34) (t := 145) (ci := 12) rfl (by decide +kernel) (by decide +kernel) (by decide) (by decide) (by decide +kernel) (by rfl) (c_of (g := g) (w := 1) (by omega) (by omega)) (by omega) (g_E ?_)
      refine g_iconst (n := 35) (v := 2) rfl rfl ?_
      refine g_irem (n := 36) rfl (by decide) ?_
      refine g_iconst (n := 37) (v := 1) rfl rfl ?_
      refine g_icne (n := 40) 44 rfl (by decide) (fun h6 => ?_) (fun h6 => ?_)
      ·
        refine g_iconst (n := 45) (v := 0) rfl rfl ?_
        refine g_goto 63 rfl (by decide) ?_
        refine g_iret (n := 64) rfl (fun _ => by first | exact Or.inl rfl | exact Or.inr rfl | exact bI_01) ?_
        exact ⟨congrArg (fun z => some (Value.int z)) (by unfold fBack; split <;> first | exact (bI_t (by simp_all)).symm | exact (bI_f (by simp_all)).symm | (exfalso; simp_all)), rfl, rfl⟩
      ·
        refine g_iconst (n := 41) (v := 1) rfl rfl ?_
        refine g_goto 63 rfl (by decide) ?_
        refine g_iret (n := 64) rfl (fun _ => by first | exact Or.inl rfl | exact Or.inr rfl | exact bI_01) ?_
        exact ⟨congrArg (fun z => some (Value.int z)) (by unfold fBack; split <;> first | exact (bI_t (by simp_all)).symm | exact (bI_f (by simp_all)).symm | (exfalso; simp_all)), rfl, rfl⟩
theorem c_hears {sc : List Value} {nm : Nat}  {I : mg_I} {g : Nat} (hg : g < 8) : SP sc 2 173 [.ref 124, .int (nI g)] I nm (qE (fHears (fO (I 125) g 0)) I nm) := by
  refine SP.of (h := 1) (t := 173) (q := (yX12_hears, cX12_hears, 2, (some .boolean), 12, 1287, mi_k173)) rfl (by decide) (show ¬ (2 : Nat) < 2 by decide) (fun d hd => ?_)
  show GG sc 12 false true mi_k173 d 0 [.ref 124, .int (nI g)] [] I nm (qE (fHears (fO (I 125) g 0)) I nm)
  refine g_aload_n (n := 1) rfl rfl ?_
  refine g_iload_n (n := 2) rfl rfl ?_
  refine g_iconst (n := 3) (v := 0) rfl rfl ?_
  refine g_cv2 (n := 6) (t := 145) (ci := 12) rfl (by decide +kernel) (by decide +kernel) (by decide) (by decide) (by decide +kernel) (by rfl) (c_of (g := g) (w := 0) (by omega) (by omega)) (by omega) (g_E ?_)
  refine g_iconst (n := 7) (v := 4) rfl rfl ?_
  refine g_iceq (n := 10) 25 rfl (by decide) (fun h1 => ?_) (fun h1 => ?_)
  ·
    refine g_iconst (n := 26) (v := 0) rfl rfl ?_
    refine g_iret (n := 27) rfl (fun _ => by first | exact Or.inl rfl | exact Or.inr rfl | exact bI_01) ?_
    exact ⟨congrArg (fun z => some (Value.int z)) (by unfold fHears; first | exact (bI_t (by simp_all)).symm | exact (bI_f (by simp_all)).symm), rfl, rfl⟩
  ·
    refine g_aload_n (n := 11) rfl rfl ?_
    refine g_iload_n (n := 12) rfl rfl ?_
    refine g_iconst (n := 13) (v := 0) rfl rfl ?_
    refine g_cv2 (n := 16) (t := 145) (ci := 12) rfl (by decide +kernel) (by decide +kernel) (by decide) (by decide) (by decide +kernel) (by rfl) (c_of (g := g) (w := 0) (by omega) (by omega)) (by omega) (g_E ?_)
    refine g_bipush (n := 18) (v := 6) rfl rfl ?_
    refine g_iceq (n := 21) 25 rfl (by decide) (fun h2 => ?_) (fun h2 => ?_)
    ·
      refine g_iconst (n := 26) (v := 0) rfl rfl ?_
      refine g_iret (n := 27) rfl (fun _ => by first | exact Or.inl rfl | exact Or.inr rfl | exact bI_01) ?_
      exact ⟨congrArg (fun z => some (Value.int z)) (by unfold fHears; first | exact (bI_t (by simp_all)).symm | exact (bI_f (by simp_all)).symm), rfl, rfl⟩
    ·
      refine g_iconst (n := 22) (v := 1) rfl rfl ?_
      refine g_goto 26 rfl (by decide) ?_
      refine g_iret (n := 27) rfl (fun _ => by first | exact Or.inl rfl | exact Or.inr rfl | exact bI_01) ?_
      exact ⟨congrArg (fun z => some (Value.int z)) (by unfold fHears; first | exact (bI_t (by simp_all)).symm | exact (bI_f (by simp_all)).symm), rfl, rfl⟩
theorem c_faces {sc : List Value} {nm : Nat}  {I : mg_I} {g : Nat} (hg : g < 8) : SP sc 2 183 [.ref 124, .int (nI g)] I nm (qE (fFaces (I 125) g) I nm) := by
  refine SP.of (h := 1) (t := 183) (q := (yX12_faces, cX12_faces, 2, (some .int), 12, 1337, mi_k183)) rfl (by decide) (show ¬ (2 : Nat) < 2 by decide) (fun d hd => ?_)
  show GG sc 12 false false mi_k183 d 0 [.ref 124, .int (nI g)] [] I nm (qE (fFaces (I 125) g) I nm)
  refine g_aload_n (n := 1) rfl rfl ?_
  refine g_iload_n (n := 2) rfl rfl ?_
  refine g_iconst (n := 3) (v := 3) rfl rfl ?_
  refine g_cv2 (n := 6) (t := 145) (ci := 12) rfl (by decide +kernel) (by decide +kernel) (by decide) (by decide) (by decide +kernel) (by rfl) (c_of (g := g) (w := 3) (by omega) (by omega)) (by omega) (g_E ?_)
  refine g_aload_n (n := 7) rfl rfl ?_
  refine g_iload_n (n := 8) rfl rfl ?_
  refine g_iconst (n := 9) (v := 2) rfl rfl ?_
  refine g_cv2 (n := 12) (t := 145) (ci := 12) rfl (by decide +kernel) (by decide +kernel) (by decide) (by decide) (by decide +kernel) (by rfl) (c_of (g := g) (w := 2) (by omega) (by omega)) (by omega) (g_E ?_)
  refine g_icle (n := 15) 19 rfl (by decide) (fun h1 => ?_) (fun h1 => ?_)
  ·
    refine g_iconst (n := 20) (v := -1) rfl rfl ?_
    refine g_iret (n := 21) rfl (fun h => nomatch h) ?_
    exact ⟨congrArg (fun z => some (Value.int z)) (by unfold fFaces; first | exact (if_pos (by simp only [Int32.lt_iff_toInt_lt, Int32.le_iff_toInt_le] at *; omega)).symm | exact (if_neg (by simp only [Int32.lt_iff_toInt_lt, Int32.le_iff_toInt_le] at *; omega)).symm), rfl, rfl⟩
  ·
    refine g_iconst (n := 16) (v := 1) rfl rfl ?_
    refine g_goto 20 rfl (by decide) ?_
    refine g_iret (n := 21) rfl (fun h => nomatch h) ?_
    exact ⟨congrArg (fun z => some (Value.int z)) (by unfold fFaces; first | exact (if_pos (by simp only [Int32.lt_iff_toInt_lt, Int32.le_iff_toInt_le] at *; omega)).symm | exact (if_neg (by simp only [Int32.lt_iff_toInt_lt, Int32.le_iff_toInt_le] at *; omega)).symm), rfl, rfl⟩
theorem c_atYard {sc : List Value} {nm : Nat} {I : mg_I} (hN : iR (I 125 0) 9) {y : Int32} : SP sc 2 165 [.ref 124, .int y] I nm (qE (fAt (I 125) y) I nm) := by
  refine SP.of (h := 1) (t := 165) (q := (yX12_atYard, cX12_atYard, 4, (some .int), 12, 1227, mi_k165)) rfl (by decide) (show ¬ (4 : Nat) < 2 by decide) (fun d hd => ?_)
  show GG sc 12 false false mi_k165 d 0 [.ref 124, .int y, .null, .null] [] I nm (qE (fAt (I 125) y) I nm)
  have hn := (fN_eq hN).2
  have H : ∀ (m k : Nat), k ≤ fN (I 125) → fN (I 125) < m + k → GG sc 12 false false mi_k165 d 4 [.ref 124, .int y, .int (cnt (fun g => fO (I 125) g 5 = 1 ∧ fO (I 125) g 6 = y) k), .int (nI k)] [] I nm (qE (fAt (I 125) y) I nm) := by
    intro m
    induction m with
    | zero => intro k hk hm; omega
    | succ m ih =>
      intro k hk hm
      refine g_iload_n (n := 5) rfl rfl ?_
      refine g_aload_n (n := 6) rfl rfl ?_
      refine g_getr (n := 9) (ci := 12) (j := 0) (b := 125) rfl (by decide +kernel) (by decide) (by decide) (by decide +kernel) ?_
      refine g_iconst (n := 10) (v := 0) rfl rfl ?_
      refine g_iald (n := 11) (0) rfl (by decide) rfl (by show _ < 286; omega) ?_
      refine g_icge (n := 14) 49 rfl (by decide) (fun h1 => ?_) (fun h1 => ?_)
      ·
        have hk2 : fN (I 125) ≤ k := fN_le (fN_eq hN).1 (by omega) (by omega) h1
        refine g_iload_n (n := 50) rfl rfl ?_
        refine g_iret (n := 51) rfl (fun h => nomatch h) ?_
        obtain rfl : k = fN (I 125) := by omega
        exact ⟨rfl, rfl, rfl⟩
      ·
        have hk2 : k < fN (I 125) := fN_nle (fN_eq hN).1 (by omega) (by omega) h1
        refine g_iload_n (n := 15) rfl rfl ?_
        refine g_aload_n (n := 16) rfl rfl ?_
        refine g_iload_n (n := 17) rfl rfl ?_
        refine g_iconst (n := 18) (v := 5) rfl rfl ?_
        refine g_cv2 (n := 21) (t := 145) (ci := 12) rfl (by decide +kernel) (by decide +kernel) (by decide) (by decide) (by decide +kernel) (by rfl) (c_of (g := k) (w := 5) (by omega) (by omega)) (by omega) (g_E ?_)
        refine g_iconst (n := 22) (v := 1) rfl rfl ?_
        refine g_icne (n := 25) 40 rfl (by decide) (fun h2 => ?_) (fun h2 => ?_)
        ·
          refine g_iconst (n := 41) (v := 0) rfl rfl ?_
          refine g_iadd (n := 42) rfl ?_
          refine g_istore_n2 (n := 43) rfl rfl ?_
          refine g_iinc3 (n := 46) rfl rfl (nI_inc _) ?_
          refine g_goto 4 rfl (by decide) ?_
          have hh := ih (k + 1) (by omega) (by omega)
          first | (rw [cnt_1 (p := (fun g => fO (I 125) g 5 = 1 ∧ fO (I 125) g 6 = y)) (k := k) (by first | assumption | exact ⟨by assumption, by assumption⟩)] at hh; exact hh) | (rw [cnt_0 (p := (fun g => fO (I 125) g 5 = 1 ∧ fO (I 125) g 6 = y)) (k := k) (by simp_all)] at hh; exact hh)
        ·
          refine g_aload_n (n := 26) rfl rfl ?_
          refine g_iload_n (n := 27) rfl rfl ?_
          refine g_bipush (n := 29) (v := 6) rfl rfl ?_
          refine g_cv2 (n := 32) (t := 145) (ci := 12) rfl (by decide +kernel) (by decide +kernel) (by decide) (by decide) (by decide +kernel) (by rfl) (c_of (g := k) (w := 6) (by omega) (by omega)) (by omega) (g_E ?_)
          refine g_iload_n (n := 33) rfl rfl ?_
          refine g_icne (n := 36) 40 rfl (by decide) (fun h3 => ?_) (fun h3 => ?_)
          ·
            refine g_iconst (n := 41) (v := 0) rfl rfl ?_
            refine g_iadd (n := 42) rfl ?_
            refine g_istore_n2 (n := 43) rfl rfl ?_
            refine g_iinc3 (n := 46) rfl rfl (nI_inc _) ?_
            refine g_goto 4 rfl (by decide) ?_
            have hh := ih (k + 1) (by omega) (by omega)
            first | (rw [cnt_1 (p := (fun g => fO (I 125) g 5 = 1 ∧ fO (I 125) g 6 = y)) (k := k) (by first | assumption | exact ⟨by assumption, by assumption⟩)] at hh; exact hh) | (rw [cnt_0 (p := (fun g => fO (I 125) g 5 = 1 ∧ fO (I 125) g 6 = y)) (k := k) (by simp_all)] at hh; exact hh)
          ·
            refine g_iconst (n := 37) (v := 1) rfl rfl ?_
            refine g_goto 41 rfl (by decide) ?_
            refine g_iadd (n := 42) rfl ?_
            refine g_istore_n2 (n := 43) rfl rfl ?_
            refine g_iinc3 (n := 46) rfl rfl (nI_inc _) ?_
            refine g_goto 4 rfl (by decide) ?_
            have hh := ih (k + 1) (by omega) (by omega)
            first | (rw [cnt_1 (p := (fun g => fO (I 125) g 5 = 1 ∧ fO (I 125) g 6 = y)) (k := k) (by first | assumption | exact ⟨by assumption, by assumption⟩)] at hh; exact hh) | (rw [cnt_0 (p := (fun g => fO (I 125) g 5 = 1 ∧ fO (I 125) g 6 = y)) (k := k) (by simp_all)] at hh; exact hh)
  refine g_iconst (n := 1) (v := 0) rfl rfl ?_
  refine g_istore_n2 (n := 2) rfl rfl ?_
  refine g_iconst (n := 3) (v := 0) rfl rfl ?_
  refine g_istore_n3 (n := 4) rfl rfl ?_
  exact H (fN (I 125) + 1) 0 (by omega) (by omega)
theorem c_ledgesBefore {sc : List Value} {nm : Nat} {I : mg_I} {y : Nat} (hy : y ≤ 24) : SP sc 2 166 [.ref 124, .int (nI y)] I nm (qE (fBefore (I 125) y) I nm) := by
  refine SP.of (h := 1) (t := 166) (q := (yX12_ledgesBefore, cX12_ledgesBefore, 4, (some .int), 12, 1239, mi_k166)) rfl (by decide) (show ¬ (4 : Nat) < 2 by decide) (fun d hd => ?_)
  show GG sc 12 false false mi_k166 d 0 [.ref 124, .int (nI y), .null, .null] [] I nm (qE (fBefore (I 125) y) I nm)
  have H : ∀ (m k : Nat), k ≤ y → y < m + k → GG sc 12 false false mi_k166 d 4 [.ref 124, .int (nI y), .int (cnt (fun k => 1 < I 125 (10 + k)) k), .int (nI k)] [] I nm (qE (fBefore (I 125) y) I nm) := by
    intro m
    induction m with
    | zero => intro k hk hm; omega
    | succ m ih =>
      intro k hk hm
      refine g_iload_n (n := 5) rfl rfl ?_
      refine g_iload_n (n := 6) rfl rfl ?_
      refine g_icge (n := 9) 31 rfl (by decide) (fun h1 => ?_) (fun h1 => ?_)
      ·
        have hk2 : y ≤ k := fN_le rfl (by omega) (by omega) h1
        refine g_iload_n (n := 32) rfl rfl ?_
        refine g_iret (n := 33) rfl (fun h => nomatch h) ?_
        obtain rfl : k = y := by omega
        exact ⟨rfl, rfl, rfl⟩
      ·
        have hk2 : k < y := fN_nle rfl (by omega) (by omega) h1
        refine g_iload_n (n := 10) rfl rfl ?_
        refine g_aload_n (n := 11) rfl rfl ?_
        refine g_iload_n (n := 12) rfl rfl ?_
        refine g_cv1 (n := 15) (t := 164) (ci := 12) rfl (by decide +kernel) (by decide +kernel) (by decide) (by decide) (by decide +kernel) (by rfl) (c_isLedge (y := k) (by omega)) (by omega) (g_E ?_)
        refine g_split (fun h2 => ?_) (fun h2 => ?_)
        ·
          refine g_ifeq1 (n := 18) 22 rfl (by decide) ?_
          refine g_iconst (n := 19) (v := 1) rfl rfl ?_
          refine g_goto 23 rfl (by decide) ?_
          refine g_iadd (n := 24) rfl ?_
          refine g_istore_n2 (n := 25) rfl rfl ?_
          refine g_iinc3 (n := 28) rfl rfl (nI_inc _) ?_
          refine g_goto 4 rfl (by decide) ?_
          have hh := ih (k + 1) (by omega) (by omega)
          first | (rw [cnt_1 (p := (fun k => 1 < I 125 (10 + k))) (k := k) (by first | assumption | exact ⟨by assumption, by assumption⟩)] at hh; exact hh) | (rw [cnt_0 (p := (fun k => 1 < I 125 (10 + k))) (k := k) (by simp_all)] at hh; exact hh)
        ·
          refine g_ifeq0 (n := 18) 22 rfl (by decide) ?_
          refine g_iconst (n := 23) (v := 0) rfl rfl ?_
          refine g_iadd (n := 24) rfl ?_
          refine g_istore_n2 (n := 25) rfl rfl ?_
          refine g_iinc3 (n := 28) rfl rfl (nI_inc _) ?_
          refine g_goto 4 rfl (by decide) ?_
          have hh := ih (k + 1) (by omega) (by omega)
          first | (rw [cnt_1 (p := (fun k => 1 < I 125 (10 + k))) (k := k) (by first | assumption | exact ⟨by assumption, by assumption⟩)] at hh; exact hh) | (rw [cnt_0 (p := (fun k => 1 < I 125 (10 + k))) (k := k) (by simp_all)] at hh; exact hh)
  refine g_iconst (n := 1) (v := 0) rfl rfl ?_
  refine g_istore_n2 (n := 2) rfl rfl ?_
  refine g_iconst (n := 3) (v := 0) rfl rfl ?_
  refine g_istore_n3 (n := 4) rfl rfl ?_
  exact H (y + 1) 0 (by omega) (by omega)
theorem c_howMany {sc : List Value} {nm : Nat} {I : mg_I} (hN : iR (I 125 0) 9) {how : Int32} : SP sc 2 190 [.ref 124, .int how] I nm (qE (fMany (I 125) how) I nm) := by
  refine SP.of (h := 1) (t := 190) (q := (yX12_howMany, cX12_howMany, 4, (some .int), 12, 1355, mi_k190)) rfl (by decide) (show ¬ (4 : Nat) < 2 by decide) (fun d hd => ?_)
  show GG sc 12 false false mi_k190 d 0 [.ref 124, .int how, .null, .null] [] I nm (qE (fMany (I 125) how) I nm)
  have hn := (fN_eq hN).2
  have H : ∀ (m k : Nat), k ≤ fN (I 125) → fN (I 125) < m + k → GG sc 12 false false mi_k190 d 4 [.ref 124, .int how, .int (cnt (fun g => fO (I 125) g 5 = how) k), .int (nI k)] [] I nm (qE (fMany (I 125) how) I nm) := by
    intro m
    induction m with
    | zero => intro k hk hm; omega
    | succ m ih =>
      intro k hk hm
      refine g_iload_n (n := 5) rfl rfl ?_
      refine g_aload_n (n := 6) rfl rfl ?_
      refine g_getr (n := 9) (ci := 12) (j := 0) (b := 125) rfl (by decide +kernel) (by decide) (by decide) (by decide +kernel) ?_
      refine g_iconst (n := 10) (v := 0) rfl rfl ?_
      refine g_iald (n := 11) (0) rfl (by decide) rfl (by show _ < 286; omega) ?_
      refine g_icge (n := 14) 38 rfl (by decide) (fun h1 => ?_) (fun h1 => ?_)
      ·
        have hk2 : fN (I 125) ≤ k := fN_le (fN_eq hN).1 (by omega) (by omega) h1
        refine g_iload_n (n := 39) rfl rfl ?_
        refine g_iret (n := 40) rfl (fun h => nomatch h) ?_
        obtain rfl : k = fN (I 125) := by omega
        exact ⟨rfl, rfl, rfl⟩
      ·
        have hk2 : k < fN (I 125) := fN_nle (fN_eq hN).1 (by omega) (by omega) h1
        refine g_iload_n (n := 15) rfl rfl ?_
        refine g_aload_n (n := 16) rfl rfl ?_
        refine g_iload_n (n := 17) rfl rfl ?_
        refine g_iconst (n := 18) (v := 5) rfl rfl ?_
        refine g_cv2 (n := 21) (t := 145) (ci := 12) rfl (by decide +kernel) (by decide +kernel) (by decide) (by decide) (by decide +kernel) (by rfl) (c_of (g := k) (w := 5) (by omega) (by omega)) (by omega) (g_E ?_)
        refine g_iload_n (n := 22) rfl rfl ?_
        refine g_icne (n := 25) 29 rfl (by decide) (fun h2 => ?_) (fun h2 => ?_)
        ·
          refine g_iconst (n := 30) (v := 0) rfl rfl ?_
          refine g_iadd (n := 31) rfl ?_
          refine g_istore_n2 (n := 32) rfl rfl ?_
          refine g_iinc3 (n := 35) rfl rfl (nI_inc _) ?_
          refine g_goto 4 rfl (by decide) ?_
          have hh := ih (k + 1) (by omega) (by omega)
          first | (rw [cnt_1 (p := (fun g => fO (I 125) g 5 = how)) (k := k) (by first | assumption | exact ⟨by assumption, by assumption⟩)] at hh; exact hh) | (rw [cnt_0 (p := (fun g => fO (I 125) g 5 = how)) (k := k) (by simp_all)] at hh; exact hh)
        ·
          refine g_iconst (n := 26) (v := 1) rfl rfl ?_
          refine g_goto 30 rfl (by decide) ?_
          refine g_iadd (n := 31) rfl ?_
          refine g_istore_n2 (n := 32) rfl rfl ?_
          refine g_iinc3 (n := 35) rfl rfl (nI_inc _) ?_
          refine g_goto 4 rfl (by decide) ?_
          have hh := ih (k + 1) (by omega) (by omega)
          first | (rw [cnt_1 (p := (fun g => fO (I 125) g 5 = how)) (k := k) (by first | assumption | exact ⟨by assumption, by assumption⟩)] at hh; exact hh) | (rw [cnt_0 (p := (fun g => fO (I 125) g 5 = how)) (k := k) (by simp_all)] at hh; exact hh)
  refine g_iconst (n := 1) (v := 0) rfl rfl ?_
  refine g_istore_n2 (n := 2) rfl rfl ?_
  refine g_iconst (n := 3) (v := 0) rfl rfl ?_
  refine g_istore_n3 (n := 4) rfl rfl ?_
  exact H (fN (I 125) + 1) 0 (by omega) (by omega)
/-- the first k numbers of row b put over those of row a -/
def mcp (I : mg_I) (a b k : Nat) : mg_I := fun x j => if x = a ∧ j < k then I b j else I x j
theorem mcp_0 {I : mg_I} {a b : Nat} : mcp I a b 0 = I := by
  funext x j
  unfold mcp
  rw [if_neg (by omega)]
theorem mcp_s {I : mg_I} {a b k : Nat} (h : a ≠ b) : mf_up (mcp I a b k) a k (mcp I a b k b k) = mcp I a b (k + 1) := by
  funext x j
  unfold mf_up mcp
  by_cases h1 : x = a ∧ j = k
  · obtain ⟨rfl, rfl⟩ := h1
    rw [if_pos ⟨rfl, rfl⟩, if_neg (fun z => h z.1.symm), if_pos ⟨rfl, by omega⟩]
  · rw [if_neg h1]
    by_cases h2 : x = a ∧ j < k
    · rw [if_pos h2, if_pos ⟨h2.1, by omega⟩]
    · rw [if_neg h2, if_neg (by omega)]
/-- the first of those below n with p from k on; -1: none -/
def fFirst (p : Nat → Prop) [DecidablePred p] (n : Nat) : Nat → Nat → Int32
  | 0, _ => -1
  | f + 1, k => if n ≤ k then -1 else if p k then nI k else fFirst p n f (k + 1)
def fFace (d : Nat → Int32) (g : Nat) (y : Int32) (h : Nat) : Prop := fO d h 5 = 1 ∧ fO d h 6 = y ∧ fO d h 8 = 0 ∧ ¬ fFaces d h = fFaces d g
theorem c_keepAside {sc : List Value} {nm : Nat} {I : mg_I} : SP sc 1 147 [.ref 124] I nm (qZ (mcp I 127 125 114) nm) := by
  refine SP.of (h := 0) (t := 147) (q := (yX12_keepAside, cX12_keepAside, 2, none, 12, 1368, mi_k147)) rfl (by decide) (show ¬ (2 : Nat) < 1 by decide) (fun d hd => ?_)
  show GG sc 12 false false mi_k147 d 0 [.ref 124, .null] [] I nm (qZ (mcp I 127 125 114) nm)
  have H : ∀ (m k : Nat), k ≤ 114 → 114 < m + k → GG sc 12 false false mi_k147 d 2 [.ref 124, .int (nI k)] [] (mcp I 127 125 k) nm (qZ (mcp I 127 125 114) nm) := by
    intro m
    induction m with
    | zero => intro k hk hm; omega
    | succ m ih =>
      intro k hk hm
      refine g_iload_n (n := 3) rfl rfl ?_
      refine g_bipush (n := 5) (v := 114) rfl rfl ?_
      refine g_icge (n := 8) 26 rfl (by decide) (fun h1 => ?_) (fun h1 => ?_)
      ·
        have hk2 : 114 ≤ k := fN_le (n := 114) rfl (by omega) (by omega) h1
        refine g_vret (n := 27) rfl ?_
        obtain rfl : k = 114 := by omega
        exact ⟨rfl, rfl, rfl⟩
      ·
        have hk2 : k < 114 := fN_nle (n := 114) rfl (by omega) (by omega) h1
        refine g_aload_n (n := 9) rfl rfl ?_
        refine g_getr (n := 12) (ci := 12) (j := 2) (b := 127) rfl (by decide +kernel) (by decide) (by decide) (by decide +kernel) ?_
        refine g_iload_n (n := 13) rfl rfl ?_
        refine g_aload_n (n := 14) rfl rfl ?_
        refine g_getr (n := 17) (ci := 12) (j := 0) (b := 125) rfl (by decide +kernel) (by decide) (by decide) (by decide +kernel) ?_
        refine g_iload_n (n := 18) rfl rfl ?_
        refine g_iald (n := 19) (k) rfl (by decide) rfl (by show _ < 286; omega) ?_
        refine g_iast (n := 20) (k) rfl (by decide) rfl (by show _ < 114; omega) ?_
        refine g_iinc1 (n := 23) rfl rfl (nI_inc _) ?_
        refine g_goto 2 rfl (by decide) ?_
        rw [mcp_s (by decide)]
        exact ih (k + 1) (by omega) (by omega)
  refine g_iconst (n := 1) (v := 0) rfl rfl ?_
  refine g_istore_n1 (n := 2) rfl rfl ?_
  have hh := H 115 0 (by omega) (by omega)
  rw [mcp_0] at hh
  exact hh
theorem c_putBack {sc : List Value} {nm : Nat} {I : mg_I} : SP sc 1 148 [.ref 124] I nm (qZ (mcp I 125 127 114) nm) := by
  refine SP.of (h := 0) (t := 148) (q := (yX12_putBack, cX12_putBack, 2, none, 12, 1372, mi_k148)) rfl (by decide) (show ¬ (2 : Nat) < 1 by decide) (fun d hd => ?_)
  show GG sc 12 false false mi_k148 d 0 [.ref 124, .null] [] I nm (qZ (mcp I 125 127 114) nm)
  have H : ∀ (m k : Nat), k ≤ 114 → 114 < m + k → GG sc 12 false false mi_k148 d 2 [.ref 124, .int (nI k)] [] (mcp I 125 127 k) nm (qZ (mcp I 125 127 114) nm) := by
    intro m
    induction m with
    | zero => intro k hk hm; omega
    | succ m ih =>
      intro k hk hm
      refine g_iload_n (n := 3) rfl rfl ?_
      refine g_bipush (n := 5) (v := 114) rfl rfl ?_
      refine g_icge (n := 8) 26 rfl (by decide) (fun h1 => ?_) (fun h1 => ?_)
      ·
        have hk2 : 114 ≤ k := fN_le (n := 114) rfl (by omega) (by omega) h1
        refine g_vret (n := 27) rfl ?_
        obtain rfl : k = 114 := by omega
        exact ⟨rfl, rfl, rfl⟩
      ·
        have hk2 : k < 114 := fN_nle (n := 114) rfl (by omega) (by omega) h1
        refine g_aload_n (n := 9) rfl rfl ?_
        refine g_getr (n := 12) (ci := 12) (j := 0) (b := 125) rfl (by decide +kernel) (by decide) (by decide) (by decide +kernel) ?_
        refine g_iload_n (n := 13) rfl rfl ?_
        refine g_aload_n (n := 14) rfl rfl ?_
        refine g_getr (n := 17) (ci := 12) (j := 2) (b := 127) rfl (by decide +kernel) (by decide) (by decide) (by decide +kernel) ?_
        refine g_iload_n (n := 18) rfl rfl ?_
        refine g_iald (n := 19) (k) rfl (by decide) rfl (by show _ < 114; omega) ?_
        refine g_iast (n := 20) (k) rfl (by decide) rfl (by show _ < 286; omega) ?_
        refine g_iinc1 (n := 23) rfl rfl (nI_inc _) ?_
        refine g_goto 2 rfl (by decide) ?_
        rw [mcp_s (by decide)]
        exact ih (k + 1) (by omega) (by omega)
  refine g_iconst (n := 1) (v := 0) rfl rfl ?_
  refine g_istore_n1 (n := 2) rfl rfl ?_
  have hh := H 115 0 (by omega) (by omega)
  rw [mcp_0] at hh
  exact hh
end
section
/-! the text's value, as the model works it out -/
abbrev pS : Type := Nat × Int32
def pHere (b : Nat → Int32) (n : Nat) (s : pS) : Int32 := if s.1 < n ∧ s.2 < 0 then b s.1 else -1
def pWrong (s : pS) : pS := (s.1, if s.2 < 0 then nI s.1 else s.2)
def pName (t c : Int32) : Int32 := if t = 0 then (if c = 108 then 0 else if c = 110 then 1 else if c = 98 then 2 else -1) else (if c = 108 then 0 else if c = 107 then 1 else if c = 116 then 2 else -1)
def pLp (ok : Int32 → Prop) [DecidablePred ok] (cb : Int32 → Int32 → Int32 → Int32) (b : Nat → Int32) (n : Nat) (u : pS → Int32 × pS) : Nat → Int32 → pS → Int32 × pS
  | 0, v, s => (v, s)
  | m + 1, v, s => if ok (pHere b n s) then pLp ok cb b n u m (cb (pHere b n s) v (u (s.1 + 1, s.2)).1) (u (s.1 + 1, s.2)).2 else (v, s)
abbrev kMul (c : Int32) : Prop := c = 42 ∨ c = 47 ∨ c = 37
def vMul (c v w : Int32) : Int32 := if c = 42 then v * w else if w = 0 then 0 else if c = 47 then v / w else v - v / w * w
abbrev kSum (c : Int32) : Prop := c = 43 ∨ c = 45
def vSum (c v w : Int32) : Int32 := if c = 43 then v + w else v - w
abbrev kCmp (c : Int32) : Prop := c = 60 ∨ c = 61 ∨ c = 62
def vCmp (c v w : Int32) : Int32 := if c = 60 then bI (v < w) else if c = 61 then bI (v = w) else bI (w < v)
abbrev kAnd (c : Int32) : Prop := c = 38
def vAnd (_ v w : Int32) : Int32 := bI (¬ v = 0 ∧ ¬ w = 0)
abbrev kOr (c : Int32) : Prop := c = 124
def vOr (_ v w : Int32) : Int32 := bI (¬ v = 0 ∨ ¬ w = 0)
def pLv (ok : Int32 → Prop) [DecidablePred ok] (cb : Int32 → Int32 → Int32 → Int32) (b : Nat → Int32) (n : Nat) (u : pS → Int32 × pS) (s : pS) : Int32 × pS := pLp ok cb b n u 51 (u s).1 (u s).2
def pMul (b : Nat → Int32) (n : Nat) (u : pS → Int32 × pS) : pS → Int32 × pS := pLv kMul vMul b n u
def pSum (b : Nat → Int32) (n : Nat) (u : pS → Int32 × pS) : pS → Int32 × pS := pLv kSum vSum b n (pMul b n u)
def pCmp (b : Nat → Int32) (n : Nat) (u : pS → Int32 × pS) (s : pS) : Int32 × pS :=
  if kCmp (pHere b n (pSum b n u s).2) then (vCmp (pHere b n (pSum b n u s).2) (pSum b n u s).1 (pSum b n u ((pSum b n u s).2.1 + 1, (pSum b n u s).2.2)).1, (pSum b n u ((pSum b n u s).2.1 + 1, (pSum b n u s).2.2)).2) else pSum b n u s
def pAnd (b : Nat → Int32) (n : Nat) (u : pS → Int32 × pS) : pS → Int32 × pS := pLv kAnd vAnd b n (pCmp b n u)
def pOr (b : Nat → Int32) (n : Nat) (u : pS → Int32 × pS) : pS → Int32 × pS := pLv kOr vOr b n (pAnd b n u)
def pDg (b : Nat → Int32) (n : Nat) : Nat → Nat → Int32 → pS → Int32 × Nat × pS
  | 0, k, v, s => (v, k, s)
  | m + 1, k, v, s => if 48 ≤ (pHere b n s).toInt ∧ (pHere b n s).toInt ≤ 57 then pDg b n m (k + 1) (10 * v + pHere b n s - 48) (s.1 + 1, s.2) else (v, k, s)
def pAtom (b : Nat → Int32) (n : Nat) (t : Int32) (nm3 : Nat → Int32) (s : pS) : Int32 × pS :=
  if pName t (pHere b n s) < 0 then (if (pDg b n 4 0 0 s).2.1 = 0 then (0, pWrong (pDg b n 4 0 0 s).2.2) else ((pDg b n 4 0 0 s).1, (pDg b n 4 0 0 s).2.2)) else (nm3 (pName t (pHere b n s)).toNatClampNeg, (s.1 + 1, s.2))
abbrev kOp (c : Int32) : Prop := c = 33 ∨ c = 40
def pU (b : Nat → Int32) (n : Nat) (t : Int32) (nm3 : Nat → Int32) : Nat → pS → Int32 × pS
  | 0, s => if kOp (pHere b n s) then (0, pWrong s) else pAtom b n t nm3 s
  | k + 1, s => if kOp (pHere b n s) then
      (if pHere b n s = 40 then (if pHere b n (pOr b n (pU b n t nm3 k) (s.1 + 1, s.2)).2 = 41 then ((pOr b n (pU b n t nm3 k) (s.1 + 1, s.2)).1, ((pOr b n (pU b n t nm3 k) (s.1 + 1, s.2)).2.1 + 1, (pOr b n (pU b n t nm3 k) (s.1 + 1, s.2)).2.2)) else (0, pWrong (pOr b n (pU b n t nm3 k) (s.1 + 1, s.2)).2))
      else (bI ((pU b n t nm3 k (s.1 + 1, s.2)).1 = 0), (pU b n t nm3 k (s.1 + 1, s.2)).2))
    else pAtom b n t nm3 s
/-- what is read goes on, and no further than the end -/
def pGo (n : Nat) (u : pS → Int32 × pS) : Prop := ∀ s, s.1 ≤ n → s.1 ≤ (u s).2.1 ∧ (u s).2.1 ≤ n ∧ (¬ s.2 < 0 → (u s).2.2 = s.2)
theorem pHere_lt {b : Nat → Int32} {n : Nat} {s : pS} (h : ¬ pHere b n s = -1) : s.1 < n ∧ s.2 < 0 := by
  by_cases hh : s.1 < n ∧ s.2 < 0
  · exact hh
  · exact absurd (if_neg hh) h
theorem pLp_go {ok : Int32 → Prop} [DecidablePred ok] {cb : Int32 → Int32 → Int32 → Int32} {b : Nat → Int32} {n : Nat} {u : pS → Int32 × pS} (hok : ¬ ok (-1)) (hu : pGo n u) : ∀ m v s, s.1 ≤ n → s.1 ≤ (pLp ok cb b n u m v s).2.1 ∧ (pLp ok cb b n u m v s).2.1 ≤ n ∧ (¬ s.2 < 0 → (pLp ok cb b n u m v s).2.2 = s.2) := by
  intro m
  induction m with
  | zero => intro v s h; exact ⟨Nat.le_refl _, h, fun _ => rfl⟩
  | succ m ih =>
    intro v s h
    unfold pLp
    by_cases hk : ok (pHere b n s)
    · rw [if_pos hk]
      have h1 := pHere_lt (b := b) (n := n) (s := s) (fun z => hok (z ▸ hk))
      have h2 := hu (s.1 + 1, s.2) (by show s.1 + 1 ≤ n; omega)
      have h3 := ih (cb (pHere b n s) v (u (s.1 + 1, s.2)).1) _ h2.2.1
      have h4 : s.1 + 1 ≤ (u (s.1 + 1, s.2)).2.1 := h2.1
      exact ⟨by omega, h3.2.1, fun z => absurd h1.2 z⟩
    · rw [if_neg hk]
      exact ⟨Nat.le_refl _, h, fun _ => rfl⟩
theorem pLv_go {ok : Int32 → Prop} [DecidablePred ok] {cb : Int32 → Int32 → Int32 → Int32} {b : Nat → Int32} {n : Nat} {u : pS → Int32 × pS} (hok : ¬ ok (-1)) (hu : pGo n u) : pGo n (pLv ok cb b n u) := by
  intro s h
  have h1 := hu s h
  have h2 := pLp_go (cb := cb) (b := b) hok hu 51 (u s).1 (u s).2 h1.2.1
  refine ⟨Nat.le_trans h1.1 h2.1, h2.2.1, fun z => ?_⟩
  have h3 := h1.2.2 z
  exact (h2.2.2 (by rw [h3]; exact z)).trans h3
theorem pMul_go {b : Nat → Int32} {n : Nat} {u : pS → Int32 × pS} (hu : pGo n u) : pGo n (pMul b n u) := pLv_go (by decide) hu
theorem pSum_go {b : Nat → Int32} {n : Nat} {u : pS → Int32 × pS} (hu : pGo n u) : pGo n (pSum b n u) := pLv_go (by decide) (pMul_go hu)
theorem pCmp_go {b : Nat → Int32} {n : Nat} {u : pS → Int32 × pS} (hu : pGo n u) : pGo n (pCmp b n u) := by
  intro s h
  have h1 := pSum_go (b := b) hu s h
  unfold pCmp
  by_cases hk : kCmp (pHere b n (pSum b n u s).2)
  · rw [if_pos hk]
    have h2 := pHere_lt (b := b) (n := n) (s := (pSum b n u s).2) (fun z => by rw [z] at hk; revert hk; decide)
    have h3 := pSum_go (b := b) hu ((pSum b n u s).2.1 + 1, (pSum b n u s).2.2) (by show (pSum b n u s).2.1 + 1 ≤ n; omega)
    have h4 : (pSum b n u s).2.1 + 1 ≤ _ := h3.1
    refine ⟨Nat.le_trans (show s.1 ≤ (pSum b n u s).2.1 + 1 by omega) h3.1, h3.2.1, fun z => ?_⟩
    exact absurd h2.2 (by rw [h1.2.2 z]; exact z)
  · rw [if_neg hk]
    exact h1
theorem pAnd_go {b : Nat → Int32} {n : Nat} {u : pS → Int32 × pS} (hu : pGo n u) : pGo n (pAnd b n u) := pLv_go (by decide) (pCmp_go hu)
theorem pOr_go {b : Nat → Int32} {n : Nat} {u : pS → Int32 × pS} (hu : pGo n u) : pGo n (pOr b n u) := pLv_go (by decide) (pAnd_go hu)
theorem pDg_go {b : Nat → Int32} {n : Nat} : ∀ m k v s, s.1 ≤ n → s.1 ≤ (pDg b n m k v s).2.2.1 ∧ (pDg b n m k v s).2.2.1 ≤ n ∧ (pDg b n m k v s).2.2.2 = s.2 := by
  intro m
  induction m with
  | zero => intro k v s h; exact ⟨Nat.le_refl _, h, rfl⟩
  | succ m ih =>
    intro k v s h
    unfold pDg
    by_cases hk : 48 ≤ (pHere b n s).toInt ∧ (pHere b n s).toInt ≤ 57
    · rw [if_pos hk]
      have h1 := pHere_lt (b := b) (n := n) (s := s) (fun z => by rw [z] at hk; revert hk; decide)
      have h3 := ih (k + 1) (10 * v + pHere b n s - 48) (s.1 + 1, s.2) (by show s.1 + 1 ≤ n; omega)
      have h4 : s.1 + 1 ≤ _ := h3.1
      exact ⟨by omega, h3.2.1, h3.2.2⟩
    · rw [if_neg hk]
      exact ⟨Nat.le_refl _, h, rfl⟩
theorem pWrong_go {s : pS} : (pWrong s).1 = s.1 ∧ (¬ s.2 < 0 → (pWrong s).2 = s.2) := ⟨rfl, fun z => if_neg z⟩
theorem pName_m1 {t : Int32} : pName t (-1) = -1 := by
  unfold pName
  split <;> rfl
theorem pAtom_go {b : Nat → Int32} {n : Nat} {t : Int32} {nm3 : Nat → Int32} : pGo n (pAtom b n t nm3) := by
  intro s h
  unfold pAtom
  have h1 := pDg_go (b := b) 4 0 0 s h
  by_cases hk : pName t (pHere b n s) < 0
  · rw [if_pos hk]
    split
    · refine ⟨h1.1, h1.2.1, fun z => ?_⟩
      rw [← h1.2.2] at z ⊢
      exact pWrong_go.2 z
    · exact ⟨h1.1, h1.2.1, fun _ => h1.2.2⟩
  · rw [if_neg hk]
    have h1 := pHere_lt (b := b) (n := n) (s := s) (fun z => by rw [z, pName_m1] at hk; exact hk (by decide))
    exact ⟨by show s.1 ≤ s.1 + 1; omega, by show s.1 + 1 ≤ n; omega, fun _ => rfl⟩
theorem pU_go {b : Nat → Int32} {n : Nat} {t : Int32} {nm3 : Nat → Int32} : ∀ k, pGo n (pU b n t nm3 k) := by
  intro k
  induction k with
  | zero =>
    intro s h
    unfold pU
    split
    · exact ⟨Nat.le_refl _, h, pWrong_go.2⟩
    · exact pAtom_go s h
  | succ k ih =>
    intro s h
    unfold pU
    split
    next hk =>
      have h1 := pHere_lt (b := b) (n := n) (s := s) (fun z => by rw [z] at hk; revert hk; decide)
      split
      · have h3 := pOr_go (b := b) ih (s.1 + 1, s.2) (by show s.1 + 1 ≤ n; omega)
        have h4 : s.1 + 1 ≤ _ := h3.1
        split
        next hc =>
          have h5 := pHere_lt (b := b) (n := n) (fun z => by rw [z] at hc; revert hc; decide)
          exact ⟨by show s.1 ≤ _ + 1; omega, h5.1, fun z => absurd h1.2 z⟩
        · exact ⟨by show s.1 ≤ _; rw [pWrong_go.1]; omega, by show (pWrong _).1 ≤ n; rw [pWrong_go.1]; exact h3.2.1, fun z => absurd h1.2 z⟩
      · have h3 := ih (s.1 + 1, s.2) (by show s.1 + 1 ≤ n; omega)
        have h4 : s.1 + 1 ≤ _ := h3.1
        exact ⟨Nat.le_trans (show s.1 ≤ s.1 + 1 by omega) h3.1, h3.2.1, fun z => absurd h1.2 z⟩
    · exact pAtom_go s h
/-- the memory in which a text is read -/
def pW (I : mg_I) (a f o : Int32) : mg_I := fun x j => if x = 124 then (if j = 6 then a else if j = 8 then f else if j = 9 then o else I x j) else I x j
theorem pW_self {I : mg_I} : pW I (I 124 6) (I 124 8) (I 124 9) = I := by
  funext x j
  unfold pW
  split
  next h =>
    subst h
    split
    next h => subst h; rfl
    · split
      next h => subst h; rfl
      · split
        next h => subst h; rfl
        · rfl
  · rfl
theorem pW_6 {I : mg_I} {a f o v : Int32} : mf_up (pW I a f o) 124 6 v = pW I v f o := by
  funext x j
  unfold mf_up pW
  by_cases hx : x = 124 <;> by_cases h6 : j = 6 <;> simp [hx, h6]
theorem pW_8 {I : mg_I} {a f o v : Int32} : mf_up (pW I a f o) 124 8 v = pW I a v o := by
  funext x j
  unfold mf_up pW
  by_cases hx : x = 124 <;> by_cases h6 : j = 6 <;> by_cases h8 : j = 8 <;> simp [hx, h6, h8]
theorem pW_9 {I : mg_I} {a f o v : Int32} : mf_up (pW I a f o) 124 9 v = pW I a f v := by
  funext x j
  unfold mf_up pW
  by_cases hx : x = 124 <;> by_cases h6 : j = 6 <;> by_cases h8 : j = 8 <;> by_cases h9 : j = 9 <;> simp [hx, h6, h8, h9] <;> omega
/-- where the text lies -/
def pH (I : mg_I) (base n : Nat) : Prop := I 124 5 = nI base ∧ I 124 7 = nI n ∧ n ≤ 50 ∧ base + n ≤ 286
abbrev pb (I : mg_I) (base : Nat) : Nat → Int32 := fun i => I 125 (base + i)
theorem g_getv {sc : List Value} {own : Nat} {ini rz : Bool} {code : List (Nat × Instr)} {d pc n : Nat} {ls : List Value} {I : mg_I} {nm : Nat} {Q : Option Value → mg_I → Nat → Prop} {r : List Value} {a fk ci j : Nat} {v : Int32} (hv : I a j = v) (h : mg_f code pc = some (.getfield fk, n)) (hg : mi_gf own fk = some (ci, j)) (hi : mg_int ci j = true) (hc : ci ≠ 20) (hk : 5 ≤ a ∧ mf_hd a = ci) (k : GG sc own ini rz code d n ls (.int v :: r) I nm Q) : GG sc own ini rz code d pc ls (.ref a :: r) I nm Q := by
  subst hv
  exact g_geti h hg hi hc hk k

theorem c_here {sc : List Value} {nm : Nat} {I : mg_I} {base n at_ : Nat} {f o : Int32} (hp : pH I base n) (ha : at_ ≤ n) : SP sc 1 149 [.ref 124] (pW I (nI at_) f o) nm (qE (pHere (pb I base) n (at_, f)) (pW I (nI at_) f o) nm) := by
  have hp3 := hp.2.2
  refine SP.of (h := 0) (t := 149) (q := (yX12_here, cX12_here, 1, (some .int), 12, 1185, mi_k149)) rfl (by decide) (show ¬ (1 : Nat) < 1 by decide) (fun d hd => ?_)
  show GG sc 12 false false mi_k149 d 0 [.ref 124] [] (pW I (nI at_) f o) nm (qE (pHere (pb I base) n (at_, f)) (pW I (nI at_) f o) nm)
  refine g_aload_n (n := 1) rfl rfl ?_
  refine g_getv (n := 4) (ci := 12) (j := 6) (v := nI at_) rfl rfl (by decide +kernel) rfl (by decide) (by decide) ?_
  refine g_aload_n (n := 5) rfl rfl ?_
  refine g_getv (n := 8) (ci := 12) (j := 7) (v := nI n) hp.2.1 rfl (by decide +kernel) rfl (by decide) (by decide) ?_
  refine g_icge (n := 11) 35 rfl (by decide) (fun h1 => ?_) (fun h1 => ?_)
  ·
    refine g_iconst (n := 36) (v := -1) rfl rfl ?_
    refine g_iret (n := 37) rfl (fun h => nomatch h) ?_
    exact ⟨congrArg (fun z => some (Value.int z)) (by unfold pHere; first | exact (if_pos ⟨fN_nle rfl (by omega) (by omega) h1, Int32.not_le.mp h2⟩).symm | exact (if_neg (fun z => absurd z.2 (Int32.not_lt.mpr h2))).symm | exact (if_neg (fun z => absurd z.1 (Nat.not_lt.mpr (fN_le rfl (by omega) (by omega) h1)))).symm), rfl, rfl⟩
  ·
    have hlt := fN_nle (n := n) (k := at_) rfl (by omega) (by omega) h1
    refine g_aload_n (n := 12) rfl rfl ?_
    refine g_getv (n := 15) (ci := 12) (j := 8) (v := f) rfl rfl (by decide +kernel) rfl (by decide) (by decide) ?_
    refine g_ifge (n := 18) 35 rfl (by decide) (fun h2 => ?_) (fun h2 => ?_)
    ·
      refine g_iconst (n := 36) (v := -1) rfl rfl ?_
      refine g_iret (n := 37) rfl (fun h => nomatch h) ?_
      exact ⟨congrArg (fun z => some (Value.int z)) (by unfold pHere; first | exact (if_pos ⟨fN_nle rfl (by omega) (by omega) h1, Int32.not_le.mp h2⟩).symm | exact (if_neg (fun z => absurd z.2 (Int32.not_lt.mpr h2))).symm | exact (if_neg (fun z => absurd z.1 (Nat.not_lt.mpr (fN_le rfl (by omega) (by omega) h1)))).symm), rfl, rfl⟩
    ·
      refine g_aload_n (n := 19) rfl rfl ?_
      refine g_getr (n := 22) (ci := 12) (j := 0) (b := 125) rfl (by decide +kernel) (by decide) (by decide) (by decide +kernel) ?_
      refine g_aload_n (n := 23) rfl rfl ?_
      refine g_getv (n := 26) (ci := 12) (j := 5) (v := nI base) hp.1 rfl (by decide +kernel) rfl (by decide) (by decide) ?_
      refine g_aload_n (n := 27) rfl rfl ?_
      refine g_getv (n := 30) (ci := 12) (j := 6) (v := nI at_) rfl rfl (by decide +kernel) rfl (by decide) (by decide) ?_
      refine g_iaddN (n := 31) (x := base) (y := at_) rfl ?_
      refine g_iald (n := 32) ((base + at_)) rfl (by decide) rfl (by show _ < 286; omega) ?_
      refine g_top (w := I 125 ((base + at_))) rfl ?_
      refine g_goto 36 rfl (by decide) ?_
      refine g_iret (n := 37) rfl (fun h => nomatch h) ?_
      exact ⟨congrArg (fun z => some (Value.int z)) (by unfold pHere; first | exact (if_pos ⟨fN_nle rfl (by omega) (by omega) h1, Int32.not_le.mp h2⟩).symm | exact (if_neg (fun z => absurd z.2 (Int32.not_lt.mpr h2))).symm | exact (if_neg (fun z => absurd z.1 (Nat.not_lt.mpr (fN_le rfl (by omega) (by omega) h1)))).symm), rfl, rfl⟩
theorem c_wrong {sc : List Value} {nm : Nat} {I : mg_I} {base n at_ : Nat} {f o : Int32} (hp : pH I base n) (ha : at_ ≤ n) : SP sc 1 150 [.ref 124] (pW I (nI at_) f o) nm (qE 0 (pW I (nI at_) (pWrong (at_, f)).2 o) nm) := by
  refine SP.of (h := 0) (t := 150) (q := (yX12_wrong, cX12_wrong, 1, (some .int), 12, 1189, mi_k150)) rfl (by decide) (show ¬ (1 : Nat) < 1 by decide) (fun d hd => ?_)
  show GG sc 12 false false mi_k150 d 0 [.ref 124] [] (pW I (nI at_) f o) nm (qE 0 (pW I (nI at_) (pWrong (at_, f)).2 o) nm)
  refine g_aload_n (n := 1) rfl rfl ?_
  refine g_aload_n (n := 2) rfl rfl ?_
  refine g_getv (n := 5) (ci := 12) (j := 8) (v := f) rfl rfl (by decide +kernel) rfl (by decide) (by decide) ?_
  refine g_ifge (n := 8) 15 rfl (by decide) (fun h1 => ?_) (fun h1 => ?_)
  ·
    refine g_aload_n (n := 16) rfl rfl ?_
    refine g_getv (n := 19) (ci := 12) (j := 8) (v := f) rfl rfl (by decide +kernel) rfl (by decide) (by decide) ?_
    refine g_puti (n := 22) (ci := 12) (j := 8) rfl (by decide +kernel) rfl (by decide) (by decide) (by decide +kernel) rfl ?_
    rw [pW_8]
    refine g_iconst (n := 23) (v := 0) rfl rfl ?_
    refine g_iret (n := 24) rfl (fun h => nomatch h) ?_
    exact ⟨rfl, congrArg (fun z => pW I (nI at_) z o) (by unfold pWrong; first | exact (if_pos (Int32.not_le.mp h1)).symm | exact (if_neg (Int32.not_lt.mpr h1)).symm), rfl⟩
  ·
    refine g_aload_n (n := 9) rfl rfl ?_
    refine g_getv (n := 12) (ci := 12) (j := 6) (v := nI at_) rfl rfl (by decide +kernel) rfl (by decide) (by decide) ?_
    refine g_goto 19 rfl (by decide) ?_
    refine g_puti (n := 22) (ci := 12) (j := 8) rfl (by decide +kernel) rfl (by decide) (by decide) (by decide +kernel) rfl ?_
    rw [pW_8]
    refine g_iconst (n := 23) (v := 0) rfl rfl ?_
    refine g_iret (n := 24) rfl (fun h => nomatch h) ?_
    exact ⟨rfl, congrArg (fun z => pW I (nI at_) z o) (by unfold pWrong; first | exact (if_pos (Int32.not_le.mp h1)).symm | exact (if_neg (Int32.not_lt.mpr h1)).symm), rfl⟩
theorem c_takes1 {sc : List Value} {nm : Nat} {I : mg_I} {base n at_ : Nat} {f o : Int32} (hp : pH I base n) (ha : at_ ≤ n) {c : Int32} (hc : pHere (pb I base) n (at_, f) = c) : SP sc 2 151 [.ref 124, .int c] (pW I (nI at_) f o) nm (qE 1 (pW I (nI (at_ + 1)) f o) nm) := by
  refine SP.of (h := 1) (t := 151) (q := (yX12_takes, cX12_takes, 2, (some .boolean), 12, 1193, mi_k151)) rfl (by decide) (show ¬ (2 : Nat) < 2 by decide) (fun d hd => ?_)
  show GG sc 12 false true mi_k151 d 0 [.ref 124, .int c] [] (pW I (nI at_) f o) nm (qE 1 (pW I (nI (at_ + 1)) f o) nm)
  refine g_aload_n (n := 1) rfl rfl ?_
  refine g_cv0 (n := 4) (t := 149) (ci := 12) rfl (by decide +kernel) (by decide +kernel) (by decide) (by decide) (by decide +kernel) (by rfl) (c_here hp (by omega)) (by omega) (g_E ?_)
  refine g_iload_n (n := 5) rfl rfl ?_
  refine g_iceq (n := 8) 10 rfl (by decide) (fun h1 => ?_) (fun h1 => ?_)
  ·
    refine g_aload_n (n := 11) rfl rfl ?_
    refine g_dupa (n := 12) rfl ?_
    refine g_getv (n := 15) (ci := 12) (j := 6) (v := nI at_) rfl rfl (by decide +kernel) rfl (by decide) (by decide) ?_
    refine g_iconst (n := 16) (v := 1) rfl rfl ?_
    refine g_iaddN (n := 17) (x := at_) (y := 1) rfl ?_
    refine g_puti (n := 20) (ci := 12) (j := 6) rfl (by decide +kernel) rfl (by decide) (by decide) (by decide +kernel) rfl ?_
    rw [pW_6]
    refine g_iconst (n := 21) (v := 1) rfl rfl ?_
    refine g_iret (n := 22) rfl (fun _ => by first | exact Or.inl rfl | exact Or.inr rfl | exact bI_01) ?_
    first | exact ⟨rfl, rfl, rfl⟩ | exact absurd hc h1 | exact absurd h1 hc
  ·
    refine g_iconst (n := 9) (v := 0) rfl rfl ?_
    refine g_iret (n := 10) rfl (fun _ => by first | exact Or.inl rfl | exact Or.inr rfl | exact bI_01) ?_
    first | exact ⟨rfl, rfl, rfl⟩ | exact absurd hc h1 | exact absurd h1 hc
theorem c_takes0 {sc : List Value} {nm : Nat} {I : mg_I} {base n at_ : Nat} {f o : Int32} (hp : pH I base n) (ha : at_ ≤ n) {c : Int32} (hc : ¬ pHere (pb I base) n (at_, f) = c) : SP sc 2 151 [.ref 124, .int c] (pW I (nI at_) f o) nm (qE 0 (pW I (nI at_) f o) nm) := by
  refine SP.of (h := 1) (t := 151) (q := (yX12_takes, cX12_takes, 2, (some .boolean), 12, 1193, mi_k151)) rfl (by decide) (show ¬ (2 : Nat) < 2 by decide) (fun d hd => ?_)
  show GG sc 12 false true mi_k151 d 0 [.ref 124, .int c] [] (pW I (nI at_) f o) nm (qE 0 (pW I (nI at_) f o) nm)
  refine g_aload_n (n := 1) rfl rfl ?_
  refine g_cv0 (n := 4) (t := 149) (ci := 12) rfl (by decide +kernel) (by decide +kernel) (by decide) (by decide) (by decide +kernel) (by rfl) (c_here hp (by omega)) (by omega) (g_E ?_)
  refine g_iload_n (n := 5) rfl rfl ?_
  refine g_iceq (n := 8) 10 rfl (by decide) (fun h1 => ?_) (fun h1 => ?_)
  ·
    refine g_aload_n (n := 11) rfl rfl ?_
    refine g_dupa (n := 12) rfl ?_
    refine g_getv (n := 15) (ci := 12) (j := 6) (v := nI at_) rfl rfl (by decide +kernel) rfl (by decide) (by decide) ?_
    refine g_iconst (n := 16) (v := 1) rfl rfl ?_
    refine g_iaddN (n := 17) (x := at_) (y := 1) rfl ?_
    refine g_puti (n := 20) (ci := 12) (j := 6) rfl (by decide +kernel) rfl (by decide) (by decide) (by decide +kernel) rfl ?_
    rw [pW_6]
    refine g_iconst (n := 21) (v := 1) rfl rfl ?_
    refine g_iret (n := 22) rfl (fun _ => by first | exact Or.inl rfl | exact Or.inr rfl | exact bI_01) ?_
    first | exact ⟨rfl, rfl, rfl⟩ | exact absurd hc h1 | exact absurd h1 hc
  ·
    refine g_iconst (n := 9) (v := 0) rfl rfl ?_
    refine g_iret (n := 10) rfl (fun _ => by first | exact Or.inl rfl | exact Or.inr rfl | exact bI_01) ?_
    first | exact ⟨rfl, rfl, rfl⟩ | exact absurd hc h1 | exact absurd h1 hc
theorem c_nameOf {sc : List Value} {nm : Nat} {I : mg_I} {at_ : Nat} {f o c : Int32} : SP sc 1 152 [.ref 124, .int c] (pW I (nI at_) f o) nm (qE (pName (I 124 10) c) (pW I (nI at_) f o) nm) := by
  refine SP.of (h := 0) (t := 152) (q := (yX12_nameOf, cX12_nameOf, 2, (some .int), 12, 1197, mi_k152)) rfl (by decide) (show ¬ (2 : Nat) < 2 by decide) (fun d hd => ?_)
  show GG sc 12 false false mi_k152 d 0 [.ref 124, .int c] [] (pW I (nI at_) f o) nm (qE (pName (I 124 10) c) (pW I (nI at_) f o) nm)
  refine g_aload_n (n := 1) rfl rfl ?_
  refine g_getv (n := 4) (ci := 12) (j := 10) (v := I 124 10) rfl rfl (by decide +kernel) rfl (by decide) (by decide) ?_
  refine g_ifeq (n := 7) 39 rfl (by decide) (fun h1 => ?_) (fun h1 => ?_)
  ·
    refine g_iload_n (n := 40) rfl rfl ?_
    refine g_bipush (n := 42) (v := 108) rfl rfl ?_
    refine g_icne (n := 45) 49 rfl (by decide) (fun h2 => ?_) (fun h2 => ?_)
    ·
      refine g_iload_n (n := 50) rfl rfl ?_
      refine g_bipush (n := 52) (v := 110) rfl rfl ?_
      refine g_icne (n := 55) 59 rfl (by decide) (fun h3 => ?_) (fun h3 => ?_)
      ·
        refine g_iload_n (n := 60) rfl rfl ?_
        refine g_bipush (n := 62) (v := 98) rfl rfl ?_
        refine g_icne (n := 65) 69 rfl (by decide) (fun h4 => ?_) (fun h4 => ?_)
        ·
          refine g_iconst (n := 70) (v := -1) rfl rfl ?_
          refine g_iret (n := 71) rfl (fun h => nomatch h) ?_
          exact ⟨congrArg (fun z => some (Value.int z)) (by unfold pName; simp_all), rfl, rfl⟩
        ·
          refine g_iconst (n := 66) (v := 2) rfl rfl ?_
          refine g_goto 70 rfl (by decide) ?_
          refine g_iret (n := 71) rfl (fun h => nomatch h) ?_
          exact ⟨congrArg (fun z => some (Value.int z)) (by unfold pName; simp_all), rfl, rfl⟩
      ·
        refine g_iconst (n := 56) (v := 1) rfl rfl ?_
        refine g_goto 70 rfl (by decide) ?_
        refine g_iret (n := 71) rfl (fun h => nomatch h) ?_
        exact ⟨congrArg (fun z => some (Value.int z)) (by unfold pName; simp_all), rfl, rfl⟩
    ·
      refine g_iconst (n := 46) (v := 0) rfl rfl ?_
      refine g_goto 70 rfl (by decide) ?_
      refine g_iret (n := 71) rfl (fun h => nomatch h) ?_
      exact ⟨congrArg (fun z => some (Value.int z)) (by unfold pName; simp_all), rfl, rfl⟩
  ·
    refine g_iload_n (n := 8) rfl rfl ?_
    refine g_bipush (n := 10) (v := 108) rfl rfl ?_
    refine g_icne (n := 13) 17 rfl (by decide) (fun h5 => ?_) (fun h5 => ?_)
    ·
      refine g_iload_n (n := 18) rfl rfl ?_
      refine g_bipush (n := 20) (v := 107) rfl rfl ?_
      refine g_icne (n := 23) 27 rfl (by decide) (fun h6 => ?_) (fun h6 => ?_)
      ·
        refine g_iload_n (n := 28) rfl rfl ?_
        refine g_bipush (n := 30) (v := 116) rfl rfl ?_
        refine g_icne (n := 33) 37 rfl (by decide) (fun h7 => ?_) (fun h7 => ?_)
        ·
          refine g_iconst (n := 38) (v := -1) rfl rfl ?_
          refine g_iret (n := 39) rfl (fun h => nomatch h) ?_
          exact ⟨congrArg (fun z => some (Value.int z)) (by unfold pName; simp_all), rfl, rfl⟩
        ·
          refine g_iconst (n := 34) (v := 2) rfl rfl ?_
          refine g_goto 38 rfl (by decide) ?_
          refine g_iret (n := 39) rfl (fun h => nomatch h) ?_
          exact ⟨congrArg (fun z => some (Value.int z)) (by unfold pName; simp_all), rfl, rfl⟩
      ·
        refine g_iconst (n := 24) (v := 1) rfl rfl ?_
        refine g_goto 38 rfl (by decide) ?_
        refine g_iret (n := 39) rfl (fun h => nomatch h) ?_
        exact ⟨congrArg (fun z => some (Value.int z)) (by unfold pName; simp_all), rfl, rfl⟩
    ·
      refine g_iconst (n := 14) (v := 0) rfl rfl ?_
      refine g_goto 38 rfl (by decide) ?_
      refine g_iret (n := 39) rfl (fun h => nomatch h) ?_
      exact ⟨congrArg (fun z => some (Value.int z)) (by unfold pName; simp_all), rfl, rfl⟩
def qP (I : mg_I) (nm : Nat) (op : Int32) (r : Int32 × pS) : Option Value → mg_I → Nat → Prop := fun a I' nm' => ∃ o', a = some (.int r.1) ∧ I' = pW I (nI r.2.1) r.2.2 o' ∧ nm' = nm ∧ (r.2.2 < 0 → o' = op)
/-- a method reads as u does, from depth h on -/
def PC (sc : List Value) (I : mg_I) (nm n h t : Nat) (op : Int32) (u : pS → Int32 × pS) : Prop := ∀ (s : pS) (o : Int32), s.1 ≤ n → (s.2 < 0 → o = op) → SP sc h t [.ref 124] (pW I (nI s.1) s.2 o) nm (qP I nm op (u s))
theorem g_P {sc : List Value} {own : Nat} {ini rz : Bool} {code : List (Nat × Instr)} {d n : Nat} {ls : List Value} {I : mg_I} {nm : Nat} {Q : Option Value → mg_I → Nat → Prop} {r : List Value} {op : Int32} {q : Int32 × pS} (k : ∀ o', (q.2.2 < 0 → o' = op) → GG sc own ini rz code d n ls (.int q.1 :: r) (pW I (nI q.2.1) q.2.2 o') nm Q) : ∀ a I2 nm2, qP I nm op q a I2 nm2 → GG sc own ini rz code d n ls (a.toList ++ r) I2 nm2 Q := by
  rintro a I2 nm2 ⟨o', rfl, rfl, rfl, h⟩
  exact k o' h
theorem g_loc1 {sc : List Value} {own : Nat} {ini rz : Bool} {code : List (Nat × Instr)} {d n : Nat} {ls st : List Value} {I : mg_I} {nm : Nat} {Q : Option Value → mg_I → Nat → Prop} {a : Value} {v w : Int32} (h : v = w) (k : GG sc own ini rz code d n (a :: .int w :: ls) st I nm Q) : GG sc own ini rz code d n (a :: .int v :: ls) st I nm Q := by
  rw [h]
  exact k
theorem c_either {sc : List Value} {I : mg_I} {nm base n h : Nat} {op : Int32} {u : pS → Int32 × pS} (hp : pH I base n) (hu : PC sc I nm n (h + 2) 154 op u) (hg : pGo n u) : PC sc I nm n (h + 3) 153 op (pLv kOr vOr (pb I base) n u) := by
  intro s0 o0 ha0 ho0
  have hp3 := hp.2.2
  refine SP.of (h := h + 2) (t := 153) (q := (yX12_either, cX12_either, 3, (some .int), 12, 1161, mi_k153)) rfl (by decide) (show ¬ (3 : Nat) < 1 by decide) (fun d hd => ?_)
  show GG sc 12 false false mi_k153 d 0 [.ref 124, .null, .null] [] (pW I (nI s0.1) s0.2 o0) nm (qP I nm op (pLv kOr vOr (pb I base) n u s0))
  have H : ∀ (m : Nat) (v : Int32) (s : pS) (o : Int32) (x2 : Value), n < m + s.1 → s.1 ≤ n → (s.2 < 0 → o = op) → GG sc 12 false false mi_k153 d 5 [.ref 124, .int v, x2] [] (pW I (nI s.1) s.2 o) nm (qP I nm op (pLp kOr vOr (pb I base) n u m v s)) := by
    intro m
    induction m with
    | zero => intro v s o x2 h1 h2; omega
    | succ m ih =>
      intro v s o x2 hm ha ho
      by_cases hk : kOr (pHere (pb I base) n s)
      · have hl := pHere_lt (b := pb I base) (n := n) (s := s) (fun z => absurd (z ▸ hk) (by decide))
        rw [pLp, if_pos hk]
        have hg1 := hg (s.1 + 1, s.2) (by show s.1 + 1 ≤ n; omega)
        have hu1 := fun o hh => hu (s.1 + 1, s.2) o (by show s.1 + 1 ≤ n; omega) hh
        generalize u (s.1 + 1, s.2) = r at hg1 hu1 ⊢
        have hg2 : s.1 + 1 ≤ r.2.1 := hg1.1
        refine g_aload_n (n := 6) rfl rfl ?_
        refine g_bipush (n := 8) (v := 124) rfl rfl ?_
        refine g_cv1 (n := 11) (t := 151) (ci := 12) rfl (by decide +kernel) (by decide +kernel) (by decide) (by decide) (by decide +kernel) (by rfl) (c_takes1 hp (by omega) hk) (by omega) (g_E ?_)
        refine g_ifeq1 (n := 14) 36 rfl (by decide) ?_
        refine g_aload_n (n := 15) rfl rfl ?_
        refine g_cv0 (n := 18) (t := 154) (ci := 12) rfl (by decide +kernel) (by decide +kernel) (by decide) (by decide) (by decide +kernel) (by rfl) (hu1 o (fun hh => ho hh)) (by omega) (g_P fun o1 ho1 => ?_)
        refine g_istore_n2 (n := 19) rfl rfl ?_
        refine g_iload_n (n := 20) rfl rfl ?_
        refine g_ifne (n := 23) 27 rfl (by decide) (fun h1 => ?_) (fun h1 => ?_)
        ·
          refine g_iconst (n := 28) (v := 1) rfl rfl ?_
          refine g_goto 32 rfl (by decide) ?_
          refine g_istore_n1 (n := 33) rfl rfl ?_
          refine g_goto 5 rfl (by decide) ?_
          refine g_loc1 (w := vOr (pHere (pb I base) n s) v r.1) (by unfold vOr; first | exact (bI_t (by simp_all)).symm | exact (bI_f (by simp_all)).symm | simp_all) ?_
          exact ih _ _ _ _ (by omega) hg1.2.1 ho1
        ·
          refine g_iload_n (n := 24) rfl rfl ?_
          refine g_ifeq (n := 27) 31 rfl (by decide) (fun h2 => ?_) (fun h2 => ?_)
          ·
            refine g_iconst (n := 32) (v := 0) rfl rfl ?_
            refine g_istore_n1 (n := 33) rfl rfl ?_
            refine g_goto 5 rfl (by decide) ?_
            refine g_loc1 (w := vOr (pHere (pb I base) n s) v r.1) (by unfold vOr; first | exact (bI_t (by simp_all)).symm | exact (bI_f (by simp_all)).symm | simp_all) ?_
            exact ih _ _ _ _ (by omega) hg1.2.1 ho1
          ·
            refine g_iconst (n := 28) (v := 1) rfl rfl ?_
            refine g_goto 32 rfl (by decide) ?_
            refine g_istore_n1 (n := 33) rfl rfl ?_
            refine g_goto 5 rfl (by decide) ?_
            refine g_loc1 (w := vOr (pHere (pb I base) n s) v r.1) (by unfold vOr; first | exact (bI_t (by simp_all)).symm | exact (bI_f (by simp_all)).symm | simp_all) ?_
            exact ih _ _ _ _ (by omega) hg1.2.1 ho1
      · rw [pLp, if_neg hk]
        refine g_aload_n (n := 6) rfl rfl ?_
        refine g_bipush (n := 8) (v := 124) rfl rfl ?_
        refine g_cv1 (n := 11) (t := 151) (ci := 12) rfl (by decide +kernel) (by decide +kernel) (by decide) (by decide) (by decide +kernel) (by rfl) (c_takes0 hp (by omega) hk) (by omega) (g_E ?_)
        refine g_ifeq0 (n := 14) 36 rfl (by decide) ?_
        refine g_iload_n (n := 37) rfl rfl ?_
        refine g_iret (n := 38) rfl (fun h => nomatch h) ?_
        first | exact ⟨o, rfl, rfl, rfl, ho⟩ | (exfalso; simp_all; done)
  have hg0 := hg s0 ha0
  refine g_aload_n (n := 1) rfl rfl ?_
  refine g_cv0 (n := 4) (t := 154) (ci := 12) rfl (by decide +kernel) (by decide +kernel) (by decide) (by decide) (by decide +kernel) (by rfl) (hu s0 o0 ha0 ho0) (by omega) (g_P fun o1 ho1 => ?_)
  refine g_istore_n1 (n := 5) rfl rfl ?_
  exact H 51 _ _ o1 _ (by omega) hg0.2.1 ho1
theorem c_both {sc : List Value} {I : mg_I} {nm base n h : Nat} {op : Int32} {u : pS → Int32 × pS} (hp : pH I base n) (hu : PC sc I nm n (h + 2) 155 op u) (hg : pGo n u) : PC sc I nm n (h + 3) 154 op (pLv kAnd vAnd (pb I base) n u) := by
  intro s0 o0 ha0 ho0
  have hp3 := hp.2.2
  refine SP.of (h := h + 2) (t := 154) (q := (yX12_both, cX12_both, 3, (some .int), 12, 1165, mi_k154)) rfl (by decide) (show ¬ (3 : Nat) < 1 by decide) (fun d hd => ?_)
  show GG sc 12 false false mi_k154 d 0 [.ref 124, .null, .null] [] (pW I (nI s0.1) s0.2 o0) nm (qP I nm op (pLv kAnd vAnd (pb I base) n u s0))
  have H : ∀ (m : Nat) (v : Int32) (s : pS) (o : Int32) (x2 : Value), n < m + s.1 → s.1 ≤ n → (s.2 < 0 → o = op) → GG sc 12 false false mi_k154 d 5 [.ref 124, .int v, x2] [] (pW I (nI s.1) s.2 o) nm (qP I nm op (pLp kAnd vAnd (pb I base) n u m v s)) := by
    intro m
    induction m with
    | zero => intro v s o x2 h1 h2; omega
    | succ m ih =>
      intro v s o x2 hm ha ho
      by_cases hk : kAnd (pHere (pb I base) n s)
      · have hl := pHere_lt (b := pb I base) (n := n) (s := s) (fun z => absurd (z ▸ hk) (by decide))
        rw [pLp, if_pos hk]
        have hg1 := hg (s.1 + 1, s.2) (by show s.1 + 1 ≤ n; omega)
        have hu1 := fun o hh => hu (s.1 + 1, s.2) o (by show s.1 + 1 ≤ n; omega) hh
        generalize u (s.1 + 1, s.2) = r at hg1 hu1 ⊢
        have hg2 : s.1 + 1 ≤ r.2.1 := hg1.1
        refine g_aload_n (n := 6) rfl rfl ?_
        refine g_bipush (n := 8) (v := 38) rfl rfl ?_
        refine g_cv1 (n := 11) (t := 151) (ci := 12) rfl (by decide +kernel) (by decide +kernel) (by decide) (by decide) (by decide +kernel) (by rfl) (c_takes1 hp (by omega) hk) (by omega) (g_E ?_)
        refine g_ifeq1 (n := 14) 36 rfl (by decide) ?_
        refine g_aload_n (n := 15) rfl rfl ?_
        refine g_cv0 (n := 18) (t := 155) (ci := 12) rfl (by decide +kernel) (by decide +kernel) (by decide) (by decide) (by decide +kernel) (by rfl) (hu1 o (fun hh => ho hh)) (by omega) (g_P fun o1 ho1 => ?_)
        refine g_istore_n2 (n := 19) rfl rfl ?_
        refine g_iload_n (n := 20) rfl rfl ?_
        refine g_ifeq (n := 23) 31 rfl (by decide) (fun h1 => ?_) (fun h1 => ?_)
        ·
          refine g_iconst (n := 32) (v := 0) rfl rfl ?_
          refine g_istore_n1 (n := 33) rfl rfl ?_
          refine g_goto 5 rfl (by decide) ?_
          refine g_loc1 (w := vAnd (pHere (pb I base) n s) v r.1) (by unfold vAnd; first | exact (bI_t (by simp_all)).symm | exact (bI_f (by simp_all)).symm | simp_all) ?_
          exact ih _ _ _ _ (by omega) hg1.2.1 ho1
        ·
          refine g_iload_n (n := 24) rfl rfl ?_
          refine g_ifeq (n := 27) 31 rfl (by decide) (fun h2 => ?_) (fun h2 => ?_)
          ·
            refine g_iconst (n := 32) (v := 0) rfl rfl ?_
            refine g_istore_n1 (n := 33) rfl rfl ?_
            refine g_goto 5 rfl (by decide) ?_
            refine g_loc1 (w := vAnd (pHere (pb I base) n s) v r.1) (by unfold vAnd; first | exact (bI_t (by simp_all)).symm | exact (bI_f (by simp_all)).symm | simp_all) ?_
            exact ih _ _ _ _ (by omega) hg1.2.1 ho1
          ·
            refine g_iconst (n := 28) (v := 1) rfl rfl ?_
            refine g_goto 32 rfl (by decide) ?_
            refine g_istore_n1 (n := 33) rfl rfl ?_
            refine g_goto 5 rfl (by decide) ?_
            refine g_loc1 (w := vAnd (pHere (pb I base) n s) v r.1) (by unfold vAnd; first | exact (bI_t (by simp_all)).symm | exact (bI_f (by simp_all)).symm | simp_all) ?_
            exact ih _ _ _ _ (by omega) hg1.2.1 ho1
      · rw [pLp, if_neg hk]
        refine g_aload_n (n := 6) rfl rfl ?_
        refine g_bipush (n := 8) (v := 38) rfl rfl ?_
        refine g_cv1 (n := 11) (t := 151) (ci := 12) rfl (by decide +kernel) (by decide +kernel) (by decide) (by decide) (by decide +kernel) (by rfl) (c_takes0 hp (by omega) hk) (by omega) (g_E ?_)
        refine g_ifeq0 (n := 14) 36 rfl (by decide) ?_
        refine g_iload_n (n := 37) rfl rfl ?_
        refine g_iret (n := 38) rfl (fun h => nomatch h) ?_
        first | exact ⟨o, rfl, rfl, rfl, ho⟩ | (exfalso; simp_all; done)
  have hg0 := hg s0 ha0
  refine g_aload_n (n := 1) rfl rfl ?_
  refine g_cv0 (n := 4) (t := 155) (ci := 12) rfl (by decide +kernel) (by decide +kernel) (by decide) (by decide) (by decide +kernel) (by rfl) (hu s0 o0 ha0 ho0) (by omega) (g_P fun o1 ho1 => ?_)
  refine g_istore_n1 (n := 5) rfl rfl ?_
  exact H 51 _ _ o1 _ (by omega) hg0.2.1 ho1
theorem c_sum {sc : List Value} {I : mg_I} {nm base n h : Nat} {op : Int32} {u : pS → Int32 × pS} (hp : pH I base n) (hu : PC sc I nm n (h + 2) 157 op u) (hg : pGo n u) : PC sc I nm n (h + 3) 156 op (pLv kSum vSum (pb I base) n u) := by
  intro s0 o0 ha0 ho0
  have hp3 := hp.2.2
  refine SP.of (h := h + 2) (t := 156) (q := (yX12_sum, cX12_sum, 4, (some .int), 12, 1173, mi_k156)) rfl (by decide) (show ¬ (4 : Nat) < 1 by decide) (fun d hd => ?_)
  show GG sc 12 false false mi_k156 d 0 [.ref 124, .null, .null, .null] [] (pW I (nI s0.1) s0.2 o0) nm (qP I nm op (pLv kSum vSum (pb I base) n u s0))
  have H : ∀ (m : Nat) (v : Int32) (s : pS) (o : Int32) (x2 x3 : Value), n < m + s.1 → s.1 ≤ n → (s.2 < 0 → o = op) → GG sc 12 false false mi_k156 d 5 [.ref 124, .int v, x2, x3] [] (pW I (nI s.1) s.2 o) nm (qP I nm op (pLp kSum vSum (pb I base) n u m v s)) := by
    intro m
    induction m with
    | zero => intro v s o x2 x3 h1 h2; omega
    | succ m ih =>
      intro v s o x2 x3 hm ha ho
      by_cases hk : kSum (pHere (pb I base) n s)
      · have hl := pHere_lt (b := pb I base) (n := n) (s := s) (fun z => absurd (z ▸ hk) (by decide))
        rw [pLp, if_pos hk]
        have hg1 := hg (s.1 + 1, s.2) (by show s.1 + 1 ≤ n; omega)
        have hu1 := fun o hh => hu (s.1 + 1, s.2) o (by show s.1 + 1 ≤ n; omega) hh
        generalize u (s.1 + 1, s.2) = r at hg1 hu1 ⊢
        have hg2 : s.1 + 1 ≤ r.2.1 := hg1.1
        generalize hc : pHere (pb I base) n s = c at hk ⊢
        refine g_aload_n (n := 6) rfl rfl ?_
        refine g_cv0 (n := 9) (t := 149) (ci := 12) rfl (by decide +kernel) (by decide +kernel) (by decide) (by decide) (by decide +kernel) (by rfl) (c_here hp (by omega)) (by omega) (g_E ?_)
        refine g_top hc ?_
        refine g_bipush (n := 11) (v := 43) rfl rfl ?_
        refine g_iceq (n := 14) 23 rfl (by decide) (fun h1 => ?_) (fun h1 => ?_)
        ·
          refine g_aload_n (n := 24) rfl rfl ?_
          refine g_cv0 (n := 27) (t := 149) (ci := 12) rfl (by decide +kernel) (by decide +kernel) (by decide) (by decide) (by decide +kernel) (by rfl) (c_here hp (by omega)) (by omega) (g_E ?_)
          refine g_top hc ?_
          refine g_istore_n2 (n := 28) rfl rfl ?_
          refine g_aload_n (n := 29) rfl rfl ?_
          refine g_dupa (n := 30) rfl ?_
          refine g_getv (n := 33) (ci := 12) (j := 6) (v := nI s.1) rfl rfl (by decide +kernel) rfl (by decide) (by decide) ?_
          refine g_iconst (n := 34) (v := 1) rfl rfl ?_
          refine g_iaddN (n := 35) (x := s.1) (y := 1) rfl ?_
          refine g_puti (n := 38) (ci := 12) (j := 6) rfl (by decide +kernel) rfl (by decide) (by decide) (by decide +kernel) rfl ?_
          rw [pW_6]
          refine g_aload_n (n := 39) rfl rfl ?_
          refine g_cv0 (n := 42) (t := 157) (ci := 12) rfl (by decide +kernel) (by decide +kernel) (by decide) (by decide) (by decide +kernel) (by rfl) (hu1 o (fun hh => ho hh)) (by omega) (g_P fun o1 ho1 => ?_)
          refine g_istore_n3 (n := 43) rfl rfl ?_
          refine g_iload_n (n := 44) rfl rfl ?_
          refine g_bipush (n := 46) (v := 43) rfl rfl ?_
          refine g_icne (n := 49) 55 rfl (by decide) (fun h2 => ?_) (fun h2 => ?_)
          ·
            refine g_iload_n (n := 56) rfl rfl ?_
            refine g_iload_n (n := 57) rfl rfl ?_
            refine g_isub (n := 58) rfl ?_
            refine g_istore_n1 (n := 59) rfl rfl ?_
            refine g_goto 5 rfl (by decide) ?_
            refine g_loc1 (w := vSum c v r.1) (by unfold vSum; first | exact (bI_t (by simp_all)).symm | exact (bI_f (by simp_all)).symm | simp_all) ?_
            exact ih _ _ _ _ _ (by omega) hg1.2.1 ho1
          ·
            refine g_iload_n (n := 50) rfl rfl ?_
            refine g_iload_n (n := 51) rfl rfl ?_
            refine g_iadd (n := 52) rfl ?_
            refine g_goto 58 rfl (by decide) ?_
            refine g_istore_n1 (n := 59) rfl rfl ?_
            refine g_goto 5 rfl (by decide) ?_
            refine g_loc1 (w := vSum c v r.1) (by unfold vSum; first | exact (bI_t (by simp_all)).symm | exact (bI_f (by simp_all)).symm | simp_all) ?_
            exact ih _ _ _ _ _ (by omega) hg1.2.1 ho1
        ·
          refine g_aload_n (n := 15) rfl rfl ?_
          refine g_cv0 (n := 18) (t := 149) (ci := 12) rfl (by decide +kernel) (by decide +kernel) (by decide) (by decide) (by decide +kernel) (by rfl) (c_here hp (by omega)) (by omega) (g_E ?_)
          refine g_top hc ?_
          refine g_bipush (n := 20) (v := 45) rfl rfl ?_
          refine g_icne (n := 23) 62 rfl (by decide) (fun h3 => ?_) (fun h3 => ?_)
          ·
            refine g_iload_n (n := 63) rfl rfl ?_
            refine g_iret (n := 64) rfl (fun h => nomatch h) ?_
            (exfalso; unfold kSum at hk; simp_all; done)
          ·
            refine g_aload_n (n := 24) rfl rfl ?_
            refine g_cv0 (n := 27) (t := 149) (ci := 12) rfl (by decide +kernel) (by decide +kernel) (by decide) (by decide) (by decide +kernel) (by rfl) (c_here hp (by omega)) (by omega) (g_E ?_)
            refine g_top hc ?_
            refine g_istore_n2 (n := 28) rfl rfl ?_
            refine g_aload_n (n := 29) rfl rfl ?_
            refine g_dupa (n := 30) rfl ?_
            refine g_getv (n := 33) (ci := 12) (j := 6) (v := nI s.1) rfl rfl (by decide +kernel) rfl (by decide) (by decide) ?_
            refine g_iconst (n := 34) (v := 1) rfl rfl ?_
            refine g_iaddN (n := 35) (x := s.1) (y := 1) rfl ?_
            refine g_puti (n := 38) (ci := 12) (j := 6) rfl (by decide +kernel) rfl (by decide) (by decide) (by decide +kernel) rfl ?_
            rw [pW_6]
            refine g_aload_n (n := 39) rfl rfl ?_
            refine g_cv0 (n := 42) (t := 157) (ci := 12) rfl (by decide +kernel) (by decide +kernel) (by decide) (by decide) (by decide +kernel) (by rfl) (hu1 o (fun hh => ho hh)) (by omega) (g_P fun o1 ho1 => ?_)
            refine g_istore_n3 (n := 43) rfl rfl ?_
            refine g_iload_n (n := 44) rfl rfl ?_
            refine g_bipush (n := 46) (v := 43) rfl rfl ?_
            refine g_icne (n := 49) 55 rfl (by decide) (fun h4 => ?_) (fun h4 => ?_)
            ·
              refine g_iload_n (n := 56) rfl rfl ?_
              refine g_iload_n (n := 57) rfl rfl ?_
              refine g_isub (n := 58) rfl ?_
              refine g_istore_n1 (n := 59) rfl rfl ?_
              refine g_goto 5 rfl (by decide) ?_
              refine g_loc1 (w := vSum c v r.1) (by unfold vSum; first | exact (bI_t (by simp_all)).symm | exact (bI_f (by simp_all)).symm | simp_all) ?_
              exact ih _ _ _ _ _ (by omega) hg1.2.1 ho1
            ·
              refine g_iload_n (n := 50) rfl rfl ?_
              refine g_iload_n (n := 51) rfl rfl ?_
              refine g_iadd (n := 52) rfl ?_
              refine g_goto 58 rfl (by decide) ?_
              refine g_istore_n1 (n := 59) rfl rfl ?_
              refine g_goto 5 rfl (by decide) ?_
              refine g_loc1 (w := vSum c v r.1) (by unfold vSum; first | exact (bI_t (by simp_all)).symm | exact (bI_f (by simp_all)).symm | simp_all) ?_
              exact ih _ _ _ _ _ (by omega) hg1.2.1 ho1
      · rw [pLp, if_neg hk]
        generalize hc : pHere (pb I base) n s = c at hk ⊢
        refine g_aload_n (n := 6) rfl rfl ?_
        refine g_cv0 (n := 9) (t := 149) (ci := 12) rfl (by decide +kernel) (by decide +kernel) (by decide) (by decide) (by decide +kernel) (by rfl) (c_here hp (by omega)) (by omega) (g_E ?_)
        refine g_top hc ?_
        refine g_bipush (n := 11) (v := 43) rfl rfl ?_
        refine g_iceq (n := 14) 23 rfl (by decide) (fun h1 => ?_) (fun h1 => ?_)
        ·
          (exfalso; unfold kSum at hk; simp_all; done)
        ·
          refine g_aload_n (n := 15) rfl rfl ?_
          refine g_cv0 (n := 18) (t := 149) (ci := 12) rfl (by decide +kernel) (by decide +kernel) (by decide) (by decide) (by decide +kernel) (by rfl) (c_here hp (by omega)) (by omega) (g_E ?_)
          refine g_top hc ?_
          refine g_bipush (n := 20) (v := 45) rfl rfl ?_
          refine g_icne (n := 23) 62 rfl (by decide) (fun h2 => ?_) (fun h2 => ?_)
          ·
            refine g_iload_n (n := 63) rfl rfl ?_
            refine g_iret (n := 64) rfl (fun h => nomatch h) ?_
            first | exact ⟨o, rfl, rfl, rfl, ho⟩ | (exfalso; simp_all; done)
          ·
            (exfalso; unfold kSum at hk; simp_all; done)
  have hg0 := hg s0 ha0
  refine g_aload_n (n := 1) rfl rfl ?_
  refine g_cv0 (n := 4) (t := 157) (ci := 12) rfl (by decide +kernel) (by decide +kernel) (by decide) (by decide) (by decide +kernel) (by rfl) (hu s0 o0 ha0 ho0) (by omega) (g_P fun o1 ho1 => ?_)
  refine g_istore_n1 (n := 5) rfl rfl ?_
  exact H 51 _ _ o1 _ _ (by omega) hg0.2.1 ho1
theorem c_product {sc : List Value} {I : mg_I} {nm base n h : Nat} {op : Int32} {u : pS → Int32 × pS} (hp : pH I base n) (hu : PC sc I nm n (h + 2) 158 op u) (hg : pGo n u) : PC sc I nm n (h + 3) 157 op (pLv kMul vMul (pb I base) n u) := by
  intro s0 o0 ha0 ho0
  have hp3 := hp.2.2
  refine SP.of (h := h + 2) (t := 157) (q := (yX12_product, cX12_product, 4, (some .int), 12, 1177, mi_k157)) rfl (by decide) (show ¬ (4 : Nat) < 1 by decide) (fun d hd => ?_)
  show GG sc 12 false false mi_k157 d 0 [.ref 124, .null, .null, .null] [] (pW I (nI s0.1) s0.2 o0) nm (qP I nm op (pLv kMul vMul (pb I base) n u s0))
  have H : ∀ (m : Nat) (v : Int32) (s : pS) (o : Int32) (x2 x3 : Value), n < m + s.1 → s.1 ≤ n → (s.2 < 0 → o = op) → GG sc 12 false false mi_k157 d 5 [.ref 124, .int v, x2, x3] [] (pW I (nI s.1) s.2 o) nm (qP I nm op (pLp kMul vMul (pb I base) n u m v s)) := by
    intro m
    induction m with
    | zero => intro v s o x2 x3 h1 h2; omega
    | succ m ih =>
      intro v s o x2 x3 hm ha ho
      by_cases hk : kMul (pHere (pb I base) n s)
      · have hl := pHere_lt (b := pb I base) (n := n) (s := s) (fun z => absurd (z ▸ hk) (by decide))
        rw [pLp, if_pos hk]
        have hg1 := hg (s.1 + 1, s.2) (by show s.1 + 1 ≤ n; omega)
        have hu1 := fun o hh => hu (s.1 + 1, s.2) o (by show s.1 + 1 ≤ n; omega) hh
        generalize u (s.1 + 1, s.2) = r at hg1 hu1 ⊢
        have hg2 : s.1 + 1 ≤ r.2.1 := hg1.1
        generalize hc : pHere (pb I base) n s = c at hk ⊢
        refine g_aload_n (n := 6) rfl rfl ?_
        refine g_cv0 (n := 9) (t := 149) (ci := 12) rfl (by decide +kernel) (by decide +kernel) (by decide) (by decide) (by decide +kernel) (by rfl) (c_here hp (by omega)) (by omega) (g_E ?_)
        refine g_top hc ?_
        refine g_bipush (n := 11) (v := 42) rfl rfl ?_
        refine g_iceq (n := 14) 32 rfl (by decide) (fun h1 => ?_) (fun h1 => ?_)
        ·
          refine g_aload_n (n := 33) rfl rfl ?_
          refine g_cv0 (n := 36) (t := 149) (ci := 12) rfl (by decide +kernel) (by decide +kernel) (by decide) (by decide) (by decide +kernel) (by rfl) (c_here hp (by omega)) (by omega) (g_E ?_)
          refine g_top hc ?_
          refine g_istore_n2 (n := 37) rfl rfl ?_
          refine g_aload_n (n := 38) rfl rfl ?_
          refine g_dupa (n := 39) rfl ?_
          refine g_getv (n := 42) (ci := 12) (j := 6) (v := nI s.1) rfl rfl (by decide +kernel) rfl (by decide) (by decide) ?_
          refine g_iconst (n := 43) (v := 1) rfl rfl ?_
          refine g_iaddN (n := 44) (x := s.1) (y := 1) rfl ?_
          refine g_puti (n := 47) (ci := 12) (j := 6) rfl (by decide +kernel) rfl (by decide) (by decide) (by decide +kernel) rfl ?_
          rw [pW_6]
          refine g_aload_n (n := 48) rfl rfl ?_
          refine g_cv0 (n := 51) (t := 158) (ci := 12) rfl (by decide +kernel) (by decide +kernel) (by decide) (by decide) (by decide +kernel) (by rfl) (hu1 o (fun hh => ho hh)) (by omega) (g_P fun o1 ho1 => ?_)
          refine g_istore_n3 (n := 52) rfl rfl ?_
          refine g_iload_n (n := 53) rfl rfl ?_
          refine g_bipush (n := 55) (v := 42) rfl rfl ?_
          refine g_icne (n := 58) 64 rfl (by decide) (fun h2 => ?_) (fun h2 => ?_)
          ·
            refine g_iload_n (n := 65) rfl rfl ?_
            refine g_ifne (n := 68) 72 rfl (by decide) (fun h3 => ?_) (fun h3 => ?_)
            ·
              refine g_iload_n (n := 73) rfl rfl ?_
              refine g_bipush (n := 75) (v := 47) rfl rfl ?_
              refine g_icne (n := 78) 84 rfl (by decide) (fun h4 => ?_) (fun h4 => ?_)
              ·
                refine g_iload_n (n := 85) rfl rfl ?_
                refine g_iload_n (n := 86) rfl rfl ?_
                refine g_irem (n := 87) rfl (by first | decide | assumption) ?_
                refine g_istore_n1 (n := 88) rfl rfl ?_
                refine g_goto 5 rfl (by decide) ?_
                refine g_loc1 (w := vMul c v r.1) (by unfold vMul; first | exact (bI_t (by simp_all)).symm | exact (bI_f (by simp_all)).symm | simp_all) ?_
                exact ih _ _ _ _ _ (by omega) hg1.2.1 ho1
              ·
                refine g_iload_n (n := 79) rfl rfl ?_
                refine g_iload_n (n := 80) rfl rfl ?_
                refine g_idiv (n := 81) rfl (by first | decide | assumption) ?_
                refine g_goto 87 rfl (by decide) ?_
                refine g_istore_n1 (n := 88) rfl rfl ?_
                refine g_goto 5 rfl (by decide) ?_
                refine g_loc1 (w := vMul c v r.1) (by unfold vMul; first | exact (bI_t (by simp_all)).symm | exact (bI_f (by simp_all)).symm | simp_all) ?_
                exact ih _ _ _ _ _ (by omega) hg1.2.1 ho1
            ·
              refine g_iconst (n := 69) (v := 0) rfl rfl ?_
              refine g_goto 87 rfl (by decide) ?_
              refine g_istore_n1 (n := 88) rfl rfl ?_
              refine g_goto 5 rfl (by decide) ?_
              refine g_loc1 (w := vMul c v r.1) (by unfold vMul; first | exact (bI_t (by simp_all)).symm | exact (bI_f (by simp_all)).symm | simp_all) ?_
              exact ih _ _ _ _ _ (by omega) hg1.2.1 ho1
          ·
            refine g_iload_n (n := 59) rfl rfl ?_
            refine g_iload_n (n := 60) rfl rfl ?_
            refine g_imul (n := 61) rfl ?_
            refine g_goto 87 rfl (by decide) ?_
            refine g_istore_n1 (n := 88) rfl rfl ?_
            refine g_goto 5 rfl (by decide) ?_
            refine g_loc1 (w := vMul c v r.1) (by unfold vMul; first | exact (bI_t (by simp_all)).symm | exact (bI_f (by simp_all)).symm | simp_all) ?_
            exact ih _ _ _ _ _ (by omega) hg1.2.1 ho1
        ·
          refine g_aload_n (n := 15) rfl rfl ?_
          refine g_cv0 (n := 18) (t := 149) (ci := 12) rfl (by decide +kernel) (by decide +kernel) (by decide) (by decide) (by decide +kernel) (by rfl) (c_here hp (by omega)) (by omega) (g_E ?_)
          refine g_top hc ?_
          refine g_bipush (n := 20) (v := 47) rfl rfl ?_
          refine g_iceq (n := 23) 32 rfl (by decide) (fun h5 => ?_) (fun h5 => ?_)
          ·
            refine g_aload_n (n := 33) rfl rfl ?_
            refine g_cv0 (n := 36) (t := 149) (ci := 12) rfl (by decide +kernel) (by decide +kernel) (by decide) (by decide) (by decide +kernel) (by rfl) (c_here hp (by omega)) (by omega) (g_E ?_)
            refine g_top hc ?_
            refine g_istore_n2 (n := 37) rfl rfl ?_
            refine g_aload_n (n := 38) rfl rfl ?_
            refine g_dupa (n := 39) rfl ?_
            refine g_getv (n := 42) (ci := 12) (j := 6) (v := nI s.1) rfl rfl (by decide +kernel) rfl (by decide) (by decide) ?_
            refine g_iconst (n := 43) (v := 1) rfl rfl ?_
            refine g_iaddN (n := 44) (x := s.1) (y := 1) rfl ?_
            refine g_puti (n := 47) (ci := 12) (j := 6) rfl (by decide +kernel) rfl (by decide) (by decide) (by decide +kernel) rfl ?_
            rw [pW_6]
            refine g_aload_n (n := 48) rfl rfl ?_
            refine g_cv0 (n := 51) (t := 158) (ci := 12) rfl (by decide +kernel) (by decide +kernel) (by decide) (by decide) (by decide +kernel) (by rfl) (hu1 o (fun hh => ho hh)) (by omega) (g_P fun o1 ho1 => ?_)
            refine g_istore_n3 (n := 52) rfl rfl ?_
            refine g_iload_n (n := 53) rfl rfl ?_
            refine g_bipush (n := 55) (v := 42) rfl rfl ?_
            refine g_icne (n := 58) 64 rfl (by decide) (fun h6 => ?_) (fun h6 => ?_)
            ·
              refine g_iload_n (n := 65) rfl rfl ?_
              refine g_ifne (n := 68) 72 rfl (by decide) (fun h7 => ?_) (fun h7 => ?_)
              ·
                refine g_iload_n (n := 73) rfl rfl ?_
                refine g_bipush (n := 75) (v := 47) rfl rfl ?_
                refine g_icne (n := 78) 84 rfl (by decide) (fun h8 => ?_) (fun h8 => ?_)
                ·
                  refine g_iload_n (n := 85) rfl rfl ?_
                  refine g_iload_n (n := 86) rfl rfl ?_
                  refine g_irem (n := 87) rfl (by first | decide | assumption) ?_
                  refine g_istore_n1 (n := 88) rfl rfl ?_
                  refine g_goto 5 rfl (by decide) ?_
                  refine g_loc1 (w := vMul c v r.1) (by unfold vMul; first | exact (bI_t (by simp_all)).symm | exact (bI_f (by simp_all)).symm | simp_all) ?_
                  exact ih _ _ _ _ _ (by omega) hg1.2.1 ho1
                ·
                  refine g_iload_n (n := 79) rfl rfl ?_
                  refine g_iload_n (n := 80) rfl rfl ?_
                  refine g_idiv (n := 81) rfl (by first | decide | assumption) ?_
                  refine g_goto 87 rfl (by decide) ?_
                  refine g_istore_n1 (n := 88) rfl rfl ?_
                  refine g_goto 5 rfl (by decide) ?_
                  refine g_loc1 (w := vMul c v r.1) (by unfold vMul; first | exact (bI_t (by simp_all)).symm | exact (bI_f (by simp_all)).symm | simp_all) ?_
                  exact ih _ _ _ _ _ (by omega) hg1.2.1 ho1
              ·
                refine g_iconst (n := 69) (v := 0) rfl rfl ?_
                refine g_goto 87 rfl (by decide) ?_
                refine g_istore_n1 (n := 88) rfl rfl ?_
                refine g_goto 5 rfl (by decide) ?_
                refine g_loc1 (w := vMul c v r.1) (by unfold vMul; first | exact (bI_t (by simp_all)).symm | exact (bI_f (by simp_all)).symm | simp_all) ?_
                exact ih _ _ _ _ _ (by omega) hg1.2.1 ho1
            ·
              refine g_iload_n (n := 59) rfl rfl ?_
              refine g_iload_n (n := 60) rfl rfl ?_
              refine g_imul (n := 61) rfl ?_
              refine g_goto 87 rfl (by decide) ?_
              refine g_istore_n1 (n := 88) rfl rfl ?_
              refine g_goto 5 rfl (by decide) ?_
              refine g_loc1 (w := vMul c v r.1) (by unfold vMul; first | exact (bI_t (by simp_all)).symm | exact (bI_f (by simp_all)).symm | simp_all) ?_
              exact ih _ _ _ _ _ (by omega) hg1.2.1 ho1
          ·
            refine g_aload_n (n := 24) rfl rfl ?_
            refine g_cv0 (n := 27) (t := 149) (ci := 12) rfl (by decide +kernel) (by decide +kernel) (by decide) (by decide) (by decide +kernel) (by rfl) (c_here hp (by omega)) (by omega) (g_E ?_)
            refine g_top hc ?_
            refine g_bipush (n := 29) (v := 37) rfl rfl ?_
            refine g_icne (n := 32) 91 rfl (by decide) (fun h9 => ?_) (fun h9 => ?_)
            ·
              refine g_iload_n (n := 92) rfl rfl ?_
              refine g_iret (n := 93) rfl (fun h => nomatch h) ?_
              (exfalso; unfold kMul at hk; simp_all; done)
            ·
              refine g_aload_n (n := 33) rfl rfl ?_
              refine g_cv0 (n := 36) (t := 149) (ci := 12) rfl (by decide +kernel) (by decide +kernel) (by decide) (by decide) (by decide +kernel) (by rfl) (c_here hp (by omega)) (by omega) (g_E ?_)
              refine g_top hc ?_
              refine g_istore_n2 (n := 37) rfl rfl ?_
              refine g_aload_n (n := 38) rfl rfl ?_
              refine g_dupa (n := 39) rfl ?_
              refine g_getv (n := 42) (ci := 12) (j := 6) (v := nI s.1) rfl rfl (by decide +kernel) rfl (by decide) (by decide) ?_
              refine g_iconst (n := 43) (v := 1) rfl rfl ?_
              refine g_iaddN (n := 44) (x := s.1) (y := 1) rfl ?_
              refine g_puti (n := 47) (ci := 12) (j := 6) rfl (by decide +kernel) rfl (by decide) (by decide) (by decide +kernel) rfl ?_
              rw [pW_6]
              refine g_aload_n (n := 48) rfl rfl ?_
              refine g_cv0 (n := 51) (t := 158) (ci := 12) rfl (by decide +kernel) (by decide +kernel) (by decide) (by decide) (by decide +kernel) (by rfl) (hu1 o (fun hh => ho hh)) (by omega) (g_P fun o1 ho1 => ?_)
              refine g_istore_n3 (n := 52) rfl rfl ?_
              refine g_iload_n (n := 53) rfl rfl ?_
              refine g_bipush (n := 55) (v := 42) rfl rfl ?_
              refine g_icne (n := 58) 64 rfl (by decide) (fun h10 => ?_) (fun h10 => ?_)
              ·
                refine g_iload_n (n := 65) rfl rfl ?_
                refine g_ifne (n := 68) 72 rfl (by decide) (fun h11 => ?_) (fun h11 => ?_)
                ·
                  refine g_iload_n (n := 73) rfl rfl ?_
                  refine g_bipush (n := 75) (v := 47) rfl rfl ?_
                  refine g_icne (n := 78) 84 rfl (by decide) (fun h12 => ?_) (fun h12 => ?_)
                  ·
                    refine g_iload_n (n := 85) rfl rfl ?_
                    refine g_iload_n (n := 86) rfl rfl ?_
                    refine g_irem (n := 87) rfl (by first | decide | assumption) ?_
                    refine g_istore_n1 (n := 88) rfl rfl ?_
                    refine g_goto 5 rfl (by decide) ?_
                    refine g_loc1 (w := vMul c v r.1) (by unfold vMul; first | exact (bI_t (by simp_all)).symm | exact (bI_f (by simp_all)).symm | simp_all) ?_
                    exact ih _ _ _ _ _ (by omega) hg1.2.1 ho1
                  ·
                    refine g_iload_n (n := 79) rfl rfl ?_
                    refine g_iload_n (n := 80) rfl rfl ?_
                    refine g_idiv (n := 81) rfl (by first | decide | assumption) ?_
                    refine g_goto 87 rfl (by decide) ?_
                    refine g_istore_n1 (n := 88) rfl rfl ?_
                    refine g_goto 5 rfl (by decide) ?_
                    refine g_loc1 (w := vMul c v r.1) (by unfold vMul; first | exact (bI_t (by simp_all)).symm | exact (bI_f (by simp_all)).symm | simp_all) ?_
                    exact ih _ _ _ _ _ (by omega) hg1.2.1 ho1
                ·
                  refine g_iconst (n := 69) (v := 0) rfl rfl ?_
                  refine g_goto 87 rfl (by decide) ?_
                  refine g_istore_n1 (n := 88) rfl rfl ?_
                  refine g_goto 5 rfl (by decide) ?_
                  refine g_loc1 (w := vMul c v r.1) (by unfold vMul; first | exact (bI_t (by simp_all)).symm | exact (bI_f (by simp_all)).symm | simp_all) ?_
                  exact ih _ _ _ _ _ (by omega) hg1.2.1 ho1
              ·
                refine g_iload_n (n := 59) rfl rfl ?_
                refine g_iload_n (n := 60) rfl rfl ?_
                refine g_imul (n := 61) rfl ?_
                refine g_goto 87 rfl (by decide) ?_
                refine g_istore_n1 (n := 88) rfl rfl ?_
                refine g_goto 5 rfl (by decide) ?_
                refine g_loc1 (w := vMul c v r.1) (by unfold vMul; first | exact (bI_t (by simp_all)).symm | exact (bI_f (by simp_all)).symm | simp_all) ?_
                exact ih _ _ _ _ _ (by omega) hg1.2.1 ho1
      · rw [pLp, if_neg hk]
        generalize hc : pHere (pb I base) n s = c at hk ⊢
        refine g_aload_n (n := 6) rfl rfl ?_
        refine g_cv0 (n := 9) (t := 149) (ci := 12) rfl (by decide +kernel) (by decide +kernel) (by decide) (by decide) (by decide +kernel) (by rfl) (c_here hp (by omega)) (by omega) (g_E ?_)
        refine g_top hc ?_
        refine g_bipush (n := 11) (v := 42) rfl rfl ?_
        refine g_iceq (n := 14) 32 rfl (by decide) (fun h1 => ?_) (fun h1 => ?_)
        ·
          (exfalso; unfold kMul at hk; simp_all; done)
        ·
          refine g_aload_n (n := 15) rfl rfl ?_
          refine g_cv0 (n := 18) (t := 149) (ci := 12) rfl (by decide +kernel) (by decide +kernel) (by decide) (by decide) (by decide +kernel) (by rfl) (c_here hp (by omega)) (by omega) (g_E ?_)
          refine g_top hc ?_
          refine g_bipush (n := 20) (v := 47) rfl rfl ?_
          refine g_iceq (n := 23) 32 rfl (by decide) (fun h2 => ?_) (fun h2 => ?_)
          ·
            (exfalso; unfold kMul at hk; simp_all; done)
          ·
            refine g_aload_n (n := 24) rfl rfl ?_
            refine g_cv0 (n := 27) (t := 149) (ci := 12) rfl (by decide +kernel) (by decide +kernel) (by decide) (by decide) (by decide +kernel) (by rfl) (c_here hp (by omega)) (by omega) (g_E ?_)
            refine g_top hc ?_
            refine g_bipush (n := 29) (v := 37) rfl rfl ?_
            refine g_icne (n := 32) 91 rfl (by decide) (fun h3 => ?_) (fun h3 => ?_)
            ·
              refine g_iload_n (n := 92) rfl rfl ?_
              refine g_iret (n := 93) rfl (fun h => nomatch h) ?_
              first | exact ⟨o, rfl, rfl, rfl, ho⟩ | (exfalso; simp_all; done)
            ·
              (exfalso; unfold kMul at hk; simp_all; done)
  have hg0 := hg s0 ha0
  refine g_aload_n (n := 1) rfl rfl ?_
  refine g_cv0 (n := 4) (t := 158) (ci := 12) rfl (by decide +kernel) (by decide +kernel) (by decide) (by decide) (by decide +kernel) (by rfl) (hu s0 o0 ha0 ho0) (by omega) (g_P fun o1 ho1 => ?_)
  refine g_istore_n1 (n := 5) rfl rfl ?_
  exact H 51 _ _ o1 _ _ (by omega) hg0.2.1 ho1
end
section
/-! the text's value: compares, units, whole texts -/
theorem PC.up {sc : List Value} {I : mg_I} {nm n h h' t : Nat} {op : Int32} {u : pS → Int32 × pS} (hu : PC sc I nm n h t op u) (hh : h ≤ h') : PC sc I nm n h' t op u := fun s o ha ho d hd => hu s o ha ho d (by omega)
theorem c_compared {sc : List Value} {I : mg_I} {nm base n h : Nat} {op : Int32} {u : pS → Int32 × pS} (hp : pH I base n) (hu : PC sc I nm n (h + 1) 156 op (pSum (pb I base) n u)) (hg : pGo n u) : PC sc I nm n (h + 1 + 1) 155 op (pCmp (pb I base) n u) := by
  intro s0 o0 ha0 ho0
  have hp3 := hp.2.2
  refine SP.of (h := h + 1) (t := 155) (q := (yX12_compared, cX12_compared, 4, (some .int), 12, 1169, mi_k155)) rfl (by decide) (show ¬ (4 : Nat) < 1 by decide) (fun d hd => ?_)
  show GG sc 12 false false mi_k155 d 0 [.ref 124, .null, .null, .null] [] (pW I (nI s0.1) s0.2 o0) nm (qP I nm op (pCmp (pb I base) n u s0))
  unfold pCmp
  have hg0 := pSum_go (b := pb I base) hg s0 ha0
  have hu0 := hu s0 o0 ha0 ho0
  generalize pSum (pb I base) n u s0 = r0 at hg0 hu0 ⊢
  have hg2 : r0.2.1 ≤ n := hg0.2.1
  refine g_aload_n (n := 1) rfl rfl ?_
  refine g_cv0 (n := 4) (t := 156) (ci := 12) rfl (by decide +kernel) (by decide +kernel) (by decide) (by decide) (by decide +kernel) (by rfl) hu0 (by omega) (g_P fun o1 ho1 => ?_)
  generalize hc : pHere (pb I base) n r0.2 = c
  by_cases hk : kCmp c
  ·
    rw [if_pos hk]
    have hl := pHere_lt (b := pb I base) (n := n) (s := r0.2) (fun z => absurd ((hc.symm.trans z) ▸ hk) (by decide))
    have hg3 := pSum_go (b := pb I base) hg (r0.2.1 + 1, r0.2.2) (by show r0.2.1 + 1 ≤ n; omega)
    have hu1 := hu (r0.2.1 + 1, r0.2.2) o1 (by show r0.2.1 + 1 ≤ n; omega) ho1
    generalize pSum (pb I base) n u (r0.2.1 + 1, r0.2.2) = r1 at hg3 hu1 ⊢
    unfold kCmp at hk
    refine g_istore_n1 (n := 5) rfl rfl ?_
    refine g_aload_n (n := 6) rfl rfl ?_
    refine g_cv0 (n := 9) (t := 149) (ci := 12) rfl (by decide +kernel) (by decide +kernel) (by decide) (by decide) (by decide +kernel) (by rfl) (c_here hp (by omega)) (by omega) (g_E ?_)
    refine g_top hc ?_
    refine g_istore_n2 (n := 10) rfl rfl ?_
    refine g_iload_n (n := 11) rfl rfl ?_
    refine g_bipush (n := 13) (v := 60) rfl rfl ?_
    refine g_iceq (n := 16) 30 rfl (by decide) (fun h1 => ?_) (fun h1 => ?_)
    ·
      refine g_aload_n (n := 31) rfl rfl ?_
      refine g_dupa (n := 32) rfl ?_
      refine g_getv (n := 35) (ci := 12) (j := 6) (v := nI r0.2.1) rfl rfl (by decide +kernel) rfl (by decide) (by decide) ?_
      refine g_iconst (n := 36) (v := 1) rfl rfl ?_
      refine g_iaddN (n := 37) (x := r0.2.1) (y := 1) rfl ?_
      refine g_puti (n := 40) (ci := 12) (j := 6) rfl (by decide +kernel) rfl (by decide) (by decide) (by decide +kernel) rfl ?_
      rw [pW_6]
      refine g_aload_n (n := 41) rfl rfl ?_
      refine g_cv0 (n := 44) (t := 156) (ci := 12) rfl (by decide +kernel) (by decide +kernel) (by decide) (by decide) (by decide +kernel) (by rfl) hu1 (by omega) (g_P fun o2 ho2 => ?_)
      refine g_istore_n3 (n := 45) rfl rfl ?_
      refine g_iload_n (n := 46) rfl rfl ?_
      refine g_bipush (n := 48) (v := 60) rfl rfl ?_
      refine g_icne (n := 51) 59 rfl (by decide) (fun h2 => ?_) (fun h2 => ?_)
      ·
        refine g_iload_n (n := 60) rfl rfl ?_
        refine g_bipush (n := 62) (v := 61) rfl rfl ?_
        refine g_icne (n := 65) 73 rfl (by decide) (fun h3 => ?_) (fun h3 => ?_)
        ·
          refine g_iload_n (n := 74) rfl rfl ?_
          refine g_iload_n (n := 75) rfl rfl ?_
          refine g_icle (n := 78) 82 rfl (by decide) (fun h4 => ?_) (fun h4 => ?_)
          ·
            refine g_iconst (n := 83) (v := 0) rfl rfl ?_
            refine g_iret (n := 84) rfl (fun h => nomatch h) ?_
            first | exact ⟨o1, rfl, rfl, rfl, ho1⟩ | (exfalso; simp_all; done) | exact ⟨o2, congrArg (fun z => some (Value.int z)) (by unfold vCmp; first | exact (bI_t (by simp only [Int32.lt_iff_toInt_lt, Int32.le_iff_toInt_le] at *; omega)).symm | simp_all [bI, Int32.not_lt, Int32.not_le]), rfl, rfl, ho2⟩
          ·
            refine g_iconst (n := 79) (v := 1) rfl rfl ?_
            refine g_goto 83 rfl (by decide) ?_
            refine g_iret (n := 84) rfl (fun h => nomatch h) ?_
            first | exact ⟨o1, rfl, rfl, rfl, ho1⟩ | (exfalso; simp_all; done) | exact ⟨o2, congrArg (fun z => some (Value.int z)) (by unfold vCmp; first | exact (bI_t (by simp only [Int32.lt_iff_toInt_lt, Int32.le_iff_toInt_le] at *; omega)).symm | simp_all [bI, Int32.not_lt, Int32.not_le]), rfl, rfl, ho2⟩
        ·
          refine g_iload_n (n := 66) rfl rfl ?_
          refine g_iload_n (n := 67) rfl rfl ?_
          refine g_icne (n := 70) 82 rfl (by decide) (fun h5 => ?_) (fun h5 => ?_)
          ·
            refine g_iconst (n := 83) (v := 0) rfl rfl ?_
            refine g_iret (n := 84) rfl (fun h => nomatch h) ?_
            first | exact ⟨o1, rfl, rfl, rfl, ho1⟩ | (exfalso; simp_all; done) | exact ⟨o2, congrArg (fun z => some (Value.int z)) (by unfold vCmp; first | exact (bI_t (by simp only [Int32.lt_iff_toInt_lt, Int32.le_iff_toInt_le] at *; omega)).symm | simp_all [bI, Int32.not_lt, Int32.not_le]), rfl, rfl, ho2⟩
          ·
            refine g_goto 78 rfl (by decide) ?_
            refine g_iconst (n := 79) (v := 1) rfl rfl ?_
            refine g_goto 83 rfl (by decide) ?_
            refine g_iret (n := 84) rfl (fun h => nomatch h) ?_
            first | exact ⟨o1, rfl, rfl, rfl, ho1⟩ | (exfalso; simp_all; done) | exact ⟨o2, congrArg (fun z => some (Value.int z)) (by unfold vCmp; first | exact (bI_t (by simp only [Int32.lt_iff_toInt_lt, Int32.le_iff_toInt_le] at *; omega)).symm | simp_all [bI, Int32.not_lt, Int32.not_le]), rfl, rfl, ho2⟩
      ·
        refine g_iload_n (n := 52) rfl rfl ?_
        refine g_iload_n (n := 53) rfl rfl ?_
        refine g_icge (n := 56) 82 rfl (by decide) (fun h6 => ?_) (fun h6 => ?_)
        ·
          refine g_iconst (n := 83) (v := 0) rfl rfl ?_
          refine g_iret (n := 84) rfl (fun h => nomatch h) ?_
          first | exact ⟨o1, rfl, rfl, rfl, ho1⟩ | (exfalso; simp_all; done) | exact ⟨o2, congrArg (fun z => some (Value.int z)) (by unfold vCmp; first | exact (bI_t (by simp only [Int32.lt_iff_toInt_lt, Int32.le_iff_toInt_le] at *; omega)).symm | simp_all [bI, Int32.not_lt, Int32.not_le]), rfl, rfl, ho2⟩
        ·
          refine g_goto 78 rfl (by decide) ?_
          refine g_iconst (n := 79) (v := 1) rfl rfl ?_
          refine g_goto 83 rfl (by decide) ?_
          refine g_iret (n := 84) rfl (fun h => nomatch h) ?_
          first | exact ⟨o1, rfl, rfl, rfl, ho1⟩ | (exfalso; simp_all; done) | exact ⟨o2, congrArg (fun z => some (Value.int z)) (by unfold vCmp; first | exact (bI_t (by simp only [Int32.lt_iff_toInt_lt, Int32.le_iff_toInt_le] at *; omega)).symm | simp_all [bI, Int32.not_lt, Int32.not_le]), rfl, rfl, ho2⟩
    ·
      refine g_iload_n (n := 17) rfl rfl ?_
      refine g_bipush (n := 19) (v := 61) rfl rfl ?_
      refine g_iceq (n := 22) 30 rfl (by decide) (fun h7 => ?_) (fun h7 => ?_)
      ·
        refine g_aload_n (n := 31) rfl rfl ?_
        refine g_dupa (n := 32) rfl ?_
        refine g_getv (n := 35) (ci := 12) (j := 6) (v := nI r0.2.1) rfl rfl (by decide +kernel) rfl (by decide) (by decide) ?_
        refine g_iconst (n := 36) (v := 1) rfl rfl ?_
        refine g_iaddN (n := 37) (x := r0.2.1) (y := 1) rfl ?_
        refine g_puti (n := 40) (ci := 12) (j := 6) rfl (by decide +kernel) rfl (by decide) (by decide) (by decide +kernel) rfl ?_
        rw [pW_6]
        refine g_aload_n (n := 41) rfl rfl ?_
        refine g_cv0 (n := 44) (t := 156) (ci := 12) rfl (by decide +kernel) (by decide +kernel) (by decide) (by decide) (by decide +kernel) (by rfl) hu1 (by omega) (g_P fun o2 ho2 => ?_)
        refine g_istore_n3 (n := 45) rfl rfl ?_
        refine g_iload_n (n := 46) rfl rfl ?_
        refine g_bipush (n := 48) (v := 60) rfl rfl ?_
        refine g_icne (n := 51) 59 rfl (by decide) (fun h8 => ?_) (fun h8 => ?_)
        ·
          refine g_iload_n (n := 60) rfl rfl ?_
          refine g_bipush (n := 62) (v := 61) rfl rfl ?_
          refine g_icne (n := 65) 73 rfl (by decide) (fun h9 => ?_) (fun h9 => ?_)
          ·
            refine g_iload_n (n := 74) rfl rfl ?_
            refine g_iload_n (n := 75) rfl rfl ?_
            refine g_icle (n := 78) 82 rfl (by decide) (fun h10 => ?_) (fun h10 => ?_)
            ·
              refine g_iconst (n := 83) (v := 0) rfl rfl ?_
              refine g_iret (n := 84) rfl (fun h => nomatch h) ?_
              first | exact ⟨o1, rfl, rfl, rfl, ho1⟩ | (exfalso; simp_all; done) | exact ⟨o2, congrArg (fun z => some (Value.int z)) (by unfold vCmp; first | exact (bI_t (by simp only [Int32.lt_iff_toInt_lt, Int32.le_iff_toInt_le] at *; omega)).symm | simp_all [bI, Int32.not_lt, Int32.not_le]), rfl, rfl, ho2⟩
            ·
              refine g_iconst (n := 79) (v := 1) rfl rfl ?_
              refine g_goto 83 rfl (by decide) ?_
              refine g_iret (n := 84) rfl (fun h => nomatch h) ?_
              first | exact ⟨o1, rfl, rfl, rfl, ho1⟩ | (exfalso; simp_all; done) | exact ⟨o2, congrArg (fun z => some (Value.int z)) (by unfold vCmp; first | exact (bI_t (by simp only [Int32.lt_iff_toInt_lt, Int32.le_iff_toInt_le] at *; omega)).symm | simp_all [bI, Int32.not_lt, Int32.not_le]), rfl, rfl, ho2⟩
          ·
            refine g_iload_n (n := 66) rfl rfl ?_
            refine g_iload_n (n := 67) rfl rfl ?_
            refine g_icne (n := 70) 82 rfl (by decide) (fun h11 => ?_) (fun h11 => ?_)
            ·
              refine g_iconst (n := 83) (v := 0) rfl rfl ?_
              refine g_iret (n := 84) rfl (fun h => nomatch h) ?_
              first | exact ⟨o1, rfl, rfl, rfl, ho1⟩ | (exfalso; simp_all; done) | exact ⟨o2, congrArg (fun z => some (Value.int z)) (by unfold vCmp; first | exact (bI_t (by simp only [Int32.lt_iff_toInt_lt, Int32.le_iff_toInt_le] at *; omega)).symm | simp_all [bI, Int32.not_lt, Int32.not_le]), rfl, rfl, ho2⟩
            ·
              refine g_goto 78 rfl (by decide) ?_
              refine g_iconst (n := 79) (v := 1) rfl rfl ?_
              refine g_goto 83 rfl (by decide) ?_
              refine g_iret (n := 84) rfl (fun h => nomatch h) ?_
              first | exact ⟨o1, rfl, rfl, rfl, ho1⟩ | (exfalso; simp_all; done) | exact ⟨o2, congrArg (fun z => some (Value.int z)) (by unfold vCmp; first | exact (bI_t (by simp only [Int32.lt_iff_toInt_lt, Int32.le_iff_toInt_le] at *; omega)).symm | simp_all [bI, Int32.not_lt, Int32.not_le]), rfl, rfl, ho2⟩
        ·
          refine g_iload_n (n := 52) rfl rfl ?_
          refine g_iload_n (n := 53) rfl rfl ?_
          refine g_icge (n := 56) 82 rfl (by decide) (fun h12 => ?_) (fun h12 => ?_)
          ·
            refine g_iconst (n := 83) (v := 0) rfl rfl ?_
            refine g_iret (n := 84) rfl (fun h => nomatch h) ?_
            first | exact ⟨o1, rfl, rfl, rfl, ho1⟩ | (exfalso; simp_all; done) | exact ⟨o2, congrArg (fun z => some (Value.int z)) (by unfold vCmp; first | exact (bI_t (by simp only [Int32.lt_iff_toInt_lt, Int32.le_iff_toInt_le] at *; omega)).symm | simp_all [bI, Int32.not_lt, Int32.not_le]), rfl, rfl, ho2⟩
          ·
            refine g_goto 78 rfl (by decide) ?_
            refine g_iconst (n := 79) (v := 1) rfl rfl ?_
            refine g_goto 83 rfl (by decide) ?_
            refine g_iret (n := 84) rfl (fun h => nomatch h) ?_
            first | exact ⟨o1, rfl, rfl, rfl, ho1⟩ | (exfalso; simp_all; done) | exact ⟨o2, congrArg (fun z => some (Value.int z)) (by unfold vCmp; first | exact (bI_t (by simp only [Int32.lt_iff_toInt_lt, Int32.le_iff_toInt_le] at *; omega)).symm | simp_all [bI, Int32.not_lt, Int32.not_le]), rfl, rfl, ho2⟩
      ·
        refine g_iload_n (n := 23) rfl rfl ?_
        refine g_bipush (n := 25) (v := 62) rfl rfl ?_
        refine g_iceq (n := 28) 30 rfl (by decide) (fun h13 => ?_) (fun h13 => ?_)
        ·
          refine g_aload_n (n := 31) rfl rfl ?_
          refine g_dupa (n := 32) rfl ?_
          refine g_getv (n := 35) (ci := 12) (j := 6) (v := nI r0.2.1) rfl rfl (by decide +kernel) rfl (by decide) (by decide) ?_
          refine g_iconst (n := 36) (v := 1) rfl rfl ?_
          refine g_iaddN (n := 37) (x := r0.2.1) (y := 1) rfl ?_
          refine g_puti (n := 40) (ci := 12) (j := 6) rfl (by decide +kernel) rfl (by decide) (by decide) (by decide +kernel) rfl ?_
          rw [pW_6]
          refine g_aload_n (n := 41) rfl rfl ?_
          refine g_cv0 (n := 44) (t := 156) (ci := 12) rfl (by decide +kernel) (by decide +kernel) (by decide) (by decide) (by decide +kernel) (by rfl) hu1 (by omega) (g_P fun o2 ho2 => ?_)
          refine g_istore_n3 (n := 45) rfl rfl ?_
          refine g_iload_n (n := 46) rfl rfl ?_
          refine g_bipush (n := 48) (v := 60) rfl rfl ?_
          refine g_icne (n := 51) 59 rfl (by decide) (fun h14 => ?_) (fun h14 => ?_)
          ·
            refine g_iload_n (n := 60) rfl rfl ?_
            refine g_bipush (n := 62) (v := 61) rfl rfl ?_
            refine g_icne (n := 65) 73 rfl (by decide) (fun h15 => ?_) (fun h15 => ?_)
            ·
              refine g_iload_n (n := 74) rfl rfl ?_
              refine g_iload_n (n := 75) rfl rfl ?_
              refine g_icle (n := 78) 82 rfl (by decide) (fun h16 => ?_) (fun h16 => ?_)
              ·
                refine g_iconst (n := 83) (v := 0) rfl rfl ?_
                refine g_iret (n := 84) rfl (fun h => nomatch h) ?_
                first | exact ⟨o1, rfl, rfl, rfl, ho1⟩ | (exfalso; simp_all; done) | exact ⟨o2, congrArg (fun z => some (Value.int z)) (by unfold vCmp; first | exact (bI_t (by simp only [Int32.lt_iff_toInt_lt, Int32.le_iff_toInt_le] at *; omega)).symm | simp_all [bI, Int32.not_lt, Int32.not_le]), rfl, rfl, ho2⟩
              ·
                refine g_iconst (n := 79) (v := 1) rfl rfl ?_
                refine g_goto 83 rfl (by decide) ?_
                refine g_iret (n := 84) rfl (fun h => nomatch h) ?_
                first | exact ⟨o1, rfl, rfl, rfl, ho1⟩ | (exfalso; simp_all; done) | exact ⟨o2, congrArg (fun z => some (Value.int z)) (by unfold vCmp; first | exact (bI_t (by simp only [Int32.lt_iff_toInt_lt, Int32.le_iff_toInt_le] at *; omega)).symm | simp_all [bI, Int32.not_lt, Int32.not_le]), rfl, rfl, ho2⟩
            ·
              refine g_iload_n (n := 66) rfl rfl ?_
              refine g_iload_n (n := 67) rfl rfl ?_
              refine g_icne (n := 70) 82 rfl (by decide) (fun h17 => ?_) (fun h17 => ?_)
              ·
                refine g_iconst (n := 83) (v := 0) rfl rfl ?_
                refine g_iret (n := 84) rfl (fun h => nomatch h) ?_
                first | exact ⟨o1, rfl, rfl, rfl, ho1⟩ | (exfalso; simp_all; done) | exact ⟨o2, congrArg (fun z => some (Value.int z)) (by unfold vCmp; first | exact (bI_t (by simp only [Int32.lt_iff_toInt_lt, Int32.le_iff_toInt_le] at *; omega)).symm | simp_all [bI, Int32.not_lt, Int32.not_le]), rfl, rfl, ho2⟩
              ·
                refine g_goto 78 rfl (by decide) ?_
                refine g_iconst (n := 79) (v := 1) rfl rfl ?_
                refine g_goto 83 rfl (by decide) ?_
                refine g_iret (n := 84) rfl (fun h => nomatch h) ?_
                first | exact ⟨o1, rfl, rfl, rfl, ho1⟩ | (exfalso; simp_all; done) | exact ⟨o2, congrArg (fun z => some (Value.int z)) (by unfold vCmp; first | exact (bI_t (by simp only [Int32.lt_iff_toInt_lt, Int32.le_iff_toInt_le] at *; omega)).symm | simp_all [bI, Int32.not_lt, Int32.not_le]), rfl, rfl, ho2⟩
          ·
            refine g_iload_n (n := 52) rfl rfl ?_
            refine g_iload_n (n := 53) rfl rfl ?_
            refine g_icge (n := 56) 82 rfl (by decide) (fun h18 => ?_) (fun h18 => ?_)
            ·
              refine g_iconst (n := 83) (v := 0) rfl rfl ?_
              refine g_iret (n := 84) rfl (fun h => nomatch h) ?_
              first | exact ⟨o1, rfl, rfl, rfl, ho1⟩ | (exfalso; simp_all; done) | exact ⟨o2, congrArg (fun z => some (Value.int z)) (by unfold vCmp; first | exact (bI_t (by simp only [Int32.lt_iff_toInt_lt, Int32.le_iff_toInt_le] at *; omega)).symm | simp_all [bI, Int32.not_lt, Int32.not_le]), rfl, rfl, ho2⟩
            ·
              refine g_goto 78 rfl (by decide) ?_
              refine g_iconst (n := 79) (v := 1) rfl rfl ?_
              refine g_goto 83 rfl (by decide) ?_
              refine g_iret (n := 84) rfl (fun h => nomatch h) ?_
              first | exact ⟨o1, rfl, rfl, rfl, ho1⟩ | (exfalso; simp_all; done) | exact ⟨o2, congrArg (fun z => some (Value.int z)) (by unfold vCmp; first | exact (bI_t (by simp only [Int32.lt_iff_toInt_lt, Int32.le_iff_toInt_le] at *; omega)).symm | simp_all [bI, Int32.not_lt, Int32.not_le]), rfl, rfl, ho2⟩
        ·
          refine g_iload_n (n := 29) rfl rfl ?_
          refine g_iret (n := 30) rfl (fun h => nomatch h) ?_
          first | exact ⟨o1, rfl, rfl, rfl, ho1⟩ | (exfalso; simp_all; done) | exact ⟨o2, congrArg (fun z => some (Value.int z)) (by unfold vCmp; first | exact (bI_t (by simp only [Int32.lt_iff_toInt_lt, Int32.le_iff_toInt_le] at *; omega)).symm | simp_all [bI, Int32.not_lt, Int32.not_le]), rfl, rfl, ho2⟩
  ·
    rw [if_neg hk]
    unfold kCmp at hk
    refine g_istore_n1 (n := 5) rfl rfl ?_
    refine g_aload_n (n := 6) rfl rfl ?_
    refine g_cv0 (n := 9) (t := 149) (ci := 12) rfl (by decide +kernel) (by decide +kernel) (by decide) (by decide) (by decide +kernel) (by rfl) (c_here hp (by omega)) (by omega) (g_E ?_)
    refine g_top hc ?_
    refine g_istore_n2 (n := 10) rfl rfl ?_
    refine g_iload_n (n := 11) rfl rfl ?_
    refine g_bipush (n := 13) (v := 60) rfl rfl ?_
    refine g_iceq (n := 16) 30 rfl (by decide) (fun h19 => ?_) (fun h19 => ?_)
    ·
      refine g_aload_n (n := 31) rfl rfl ?_
      refine g_dupa (n := 32) rfl ?_
      refine g_getv (n := 35) (ci := 12) (j := 6) (v := nI r0.2.1) rfl rfl (by decide +kernel) rfl (by decide) (by decide) ?_
      refine g_iconst (n := 36) (v := 1) rfl rfl ?_
      refine g_iaddN (n := 37) (x := r0.2.1) (y := 1) rfl ?_
      refine g_puti (n := 40) (ci := 12) (j := 6) rfl (by decide +kernel) rfl (by decide) (by decide) (by decide +kernel) rfl ?_
      rw [pW_6]
      refine g_aload_n (n := 41) rfl rfl ?_
      (exfalso; simp_all; done)
    ·
      refine g_iload_n (n := 17) rfl rfl ?_
      refine g_bipush (n := 19) (v := 61) rfl rfl ?_
      refine g_iceq (n := 22) 30 rfl (by decide) (fun h20 => ?_) (fun h20 => ?_)
      ·
        refine g_aload_n (n := 31) rfl rfl ?_
        refine g_dupa (n := 32) rfl ?_
        refine g_getv (n := 35) (ci := 12) (j := 6) (v := nI r0.2.1) rfl rfl (by decide +kernel) rfl (by decide) (by decide) ?_
        refine g_iconst (n := 36) (v := 1) rfl rfl ?_
        refine g_iaddN (n := 37) (x := r0.2.1) (y := 1) rfl ?_
        refine g_puti (n := 40) (ci := 12) (j := 6) rfl (by decide +kernel) rfl (by decide) (by decide) (by decide +kernel) rfl ?_
        rw [pW_6]
        refine g_aload_n (n := 41) rfl rfl ?_
        (exfalso; simp_all; done)
      ·
        refine g_iload_n (n := 23) rfl rfl ?_
        refine g_bipush (n := 25) (v := 62) rfl rfl ?_
        refine g_iceq (n := 28) 30 rfl (by decide) (fun h21 => ?_) (fun h21 => ?_)
        ·
          refine g_aload_n (n := 31) rfl rfl ?_
          refine g_dupa (n := 32) rfl ?_
          refine g_getv (n := 35) (ci := 12) (j := 6) (v := nI r0.2.1) rfl rfl (by decide +kernel) rfl (by decide) (by decide) ?_
          refine g_iconst (n := 36) (v := 1) rfl rfl ?_
          refine g_iaddN (n := 37) (x := r0.2.1) (y := 1) rfl ?_
          refine g_puti (n := 40) (ci := 12) (j := 6) rfl (by decide +kernel) rfl (by decide) (by decide) (by decide +kernel) rfl ?_
          rw [pW_6]
          refine g_aload_n (n := 41) rfl rfl ?_
          (exfalso; simp_all; done)
        ·
          refine g_iload_n (n := 29) rfl rfl ?_
          refine g_iret (n := 30) rfl (fun h => nomatch h) ?_
          first | exact ⟨o1, rfl, rfl, rfl, ho1⟩ | (exfalso; simp_all; done) | exact ⟨o2, congrArg (fun z => some (Value.int z)) (by unfold vCmp; first | exact (bI_t (by simp only [Int32.lt_iff_toInt_lt, Int32.le_iff_toInt_le] at *; omega)).symm | simp_all [bI, Int32.not_lt, Int32.not_le]), rfl, rfl, ho2⟩
theorem pName_in {t c : Int32} : pName t c = 0 ∨ pName t c = 1 ∨ pName t c = 2 ∨ pName t c = -1 := by
  unfold pName
  split
  · split
    · exact Or.inl rfl
    · split
      · exact Or.inr (Or.inl rfl)
      · split
        · exact Or.inr (Or.inr (Or.inl rfl))
        · exact Or.inr (Or.inr (Or.inr rfl))
  · split
    · exact Or.inl rfl
    · split
      · exact Or.inr (Or.inl rfl)
      · split
        · exact Or.inr (Or.inr (Or.inl rfl))
        · exact Or.inr (Or.inr (Or.inr rfl))
theorem pName_ix {t c : Int32} (h : ¬ pName t c < 0) : pName t c = nI (pName t c).toNatClampNeg ∧ (pName t c).toNatClampNeg < 3 := by
  rcases pName_in (t := t) (c := c) with e | e | e | e <;> rw [e] at h ⊢ <;> first | exact ⟨by decide, by decide⟩ | exact absurd (by decide) h
def pDf (q : Int32 × Nat × pS) : Int32 × pS := if q.2.1 = 0 then (0, pWrong q.2.2) else (q.1, q.2.2)
theorem c_digits {sc : List Value} {I : mg_I} {nm base n d : Nat} {op c : Int32} {x2 : Value} (hp : pH I base n) (hx2 : x2.category = 1) (hd : 2 ≤ d) : ∀ (m k : Nat) (v : Int32) (s : pS) (o : Int32), m + k = 4 → s.1 ≤ n → (s.2 < 0 → o = op) → GG sc 12 false false mi_k158 d 150 [.ref 124, .int c, x2, .int v, .int (nI k)] [] (pW I (nI s.1) s.2 o) nm (qP I nm op (pDf (pDg (pb I base) n m k v s))) := by
  have hp3 := hp.2.2
  intro m
  induction m with
  | zero =>
    intro k v s o hm ha ho
    rw [pDg]
    refine g_iload (n := 152) rfl rfl ?_
    refine g_iconst (n := 153) (v := 4) rfl rfl ?_
    refine g_icge (n := 156) 202 rfl (by decide) (fun h1 => ?_) (fun h1 => ?_)
    ·
      refine g_iload (n := 204) rfl rfl ?_
      refine g_ifne (n := 207) 214 rfl (by decide) (fun h2 => ?_) (fun h2 => ?_)
      ·
        have h9 := h2
        refine g_iload_n (n := 215) rfl rfl ?_
        refine g_iret (n := 216) rfl (fun h => nomatch h) ?_
        unfold pDf; first | (rw [if_pos (show k = 0 from by first | exact (nI_eq (by omega) (by omega)).mp h9 | omega)]; exact ⟨o, rfl, rfl, rfl, fun hh => ho (by unfold pWrong at hh; split at hh <;> first | assumption | exact hh)⟩) | (rw [if_neg (show ¬ k = 0 from fun z => h9 (by rw [z]; rfl))]; exact ⟨o, rfl, rfl, rfl, ho⟩)
      ·
        have h9 := h2
        refine g_aload_n (n := 208) rfl rfl ?_
        refine g_cv0 (n := 211) (t := 150) (ci := 12) rfl (by decide +kernel) (by decide +kernel) (by decide) (by decide) (by decide +kernel) (by rfl) (c_wrong hp (by omega)) (by omega) (g_E ?_)
        refine g_goto 215 rfl (by decide) ?_
        refine g_iret (n := 216) rfl (fun h => nomatch h) ?_
        unfold pDf; first | (rw [if_pos (show k = 0 from by first | exact (nI_eq (by omega) (by omega)).mp h9 | omega)]; exact ⟨o, rfl, rfl, rfl, fun hh => ho (by unfold pWrong at hh; split at hh <;> first | assumption | exact hh)⟩) | (rw [if_neg (show ¬ k = 0 from fun z => h9 (by rw [z]; rfl))]; exact ⟨o, rfl, rfl, rfl, ho⟩)
    ·
      exact absurd (nI_le (a := 4) (b := k) (by omega) (by omega)) h1
  | succ m ih =>
    intro k v s o hm ha ho
    by_cases hk : 48 ≤ (pHere (pb I base) n s).toInt ∧ (pHere (pb I base) n s).toInt ≤ 57
    · rw [pDg, if_pos hk]
      have hl := pHere_lt (b := pb I base) (n := n) (s := s) (fun z => by rw [z] at hk; revert hk; decide)
      refine g_iload (n := 152) rfl rfl ?_
      refine g_iconst (n := 153) (v := 4) rfl rfl ?_
      refine g_icge (n := 156) 202 rfl (by decide) (fun h1 => ?_) (fun h1 => ?_)
      ·
        exact absurd (fN_le (n := 4) rfl (by omega) (by omega) h1) (by omega)
      ·
        refine g_aload_n (n := 157) rfl rfl ?_
        refine g_cv0 (n := 160) (t := 149) (ci := 12) rfl (by decide +kernel) (by decide +kernel) (by decide) (by decide) (by decide +kernel) (by rfl) (c_here hp (by omega)) (by omega) (g_E ?_)
        refine g_top (w := pHere (pb I base) n s) rfl ?_
        refine g_i2l (n := 161) rfl ?_
        refine g_ldc2 (n := 164) (v := 48) (pl := 1198) rfl (by decide +kernel) ?_
        refine g_ldc2 (n := 167) (v := 57) (pl := 1199) rfl (by decide +kernel) ?_
        refine g_cs3 (n := 170) (t := 141) (x := (1141, 1142, 84)) rfl (by decide +kernel) (by decide +kernel) (by rfl) (c_inI (a := 48) (b := 57) rfl rfl) (by omega) (g_E ?_)
        refine g_top (bI_t hk) ?_
        refine g_ifeq1 (n := 173) 202 rfl (by decide) ?_
        refine g_bipush (n := 175) (v := 10) rfl rfl ?_
        refine g_iload_n (n := 176) rfl rfl ?_
        refine g_imul (n := 177) rfl ?_
        refine g_aload_n (n := 178) rfl rfl ?_
        refine g_cv0 (n := 181) (t := 149) (ci := 12) rfl (by decide +kernel) (by decide +kernel) (by decide) (by decide) (by decide +kernel) (by rfl) (c_here hp (by omega)) (by omega) (g_E ?_)
        refine g_top (w := pHere (pb I base) n s) rfl ?_
        refine g_iadd (n := 182) rfl ?_
        refine g_bipush (n := 184) (v := 48) rfl rfl ?_
        refine g_isub (n := 185) rfl ?_
        refine g_istore_n3 (n := 186) rfl hx2 ?_
        refine g_aload_n (n := 187) rfl rfl ?_
        refine g_dupa (n := 188) rfl ?_
        refine g_getv (n := 191) (ci := 12) (j := 6) (v := nI s.1) rfl rfl (by decide +kernel) rfl (by decide) (by decide) ?_
        refine g_iconst (n := 192) (v := 1) rfl rfl ?_
        refine g_iaddN (n := 193) (x := s.1) (y := 1) rfl ?_
        refine g_puti (n := 196) (ci := 12) (j := 6) rfl (by decide +kernel) rfl (by decide) (by decide) (by decide +kernel) rfl ?_
        rw [pW_6]
        refine g_iinc4 (n := 199) rfl rfl (nI_inc _) ?_
        refine g_goto 150 rfl (by decide) ?_
        exact ih (k + 1) _ (s.1 + 1, s.2) o (by omega) (by show s.1 + 1 ≤ n; omega) ho
    · rw [pDg, if_neg hk]
      refine g_iload (n := 152) rfl rfl ?_
      refine g_iconst (n := 153) (v := 4) rfl rfl ?_
      refine g_icge (n := 156) 202 rfl (by decide) (fun h1 => ?_) (fun h1 => ?_)
      ·
        exact absurd (fN_le (n := 4) rfl (by omega) (by omega) h1) (by omega)
      ·
        refine g_aload_n (n := 157) rfl rfl ?_
        refine g_cv0 (n := 160) (t := 149) (ci := 12) rfl (by decide +kernel) (by decide +kernel) (by decide) (by decide) (by decide +kernel) (by rfl) (c_here hp (by omega)) (by omega) (g_E ?_)
        refine g_top (w := pHere (pb I base) n s) rfl ?_
        refine g_i2l (n := 161) rfl ?_
        refine g_ldc2 (n := 164) (v := 48) (pl := 1198) rfl (by decide +kernel) ?_
        refine g_ldc2 (n := 167) (v := 57) (pl := 1199) rfl (by decide +kernel) ?_
        refine g_cs3 (n := 170) (t := 141) (x := (1141, 1142, 84)) rfl (by decide +kernel) (by decide +kernel) (by rfl) (c_inI (a := 48) (b := 57) rfl rfl) (by omega) (g_E ?_)
        refine g_top (bI_f hk) ?_
        refine g_ifeq0 (n := 173) 202 rfl (by decide) ?_
        refine g_iload (n := 204) rfl rfl ?_
        refine g_ifne (n := 207) 214 rfl (by decide) (fun h2 => ?_) (fun h2 => ?_)
        ·
          have h9 := h2
          refine g_iload_n (n := 215) rfl rfl ?_
          refine g_iret (n := 216) rfl (fun h => nomatch h) ?_
          unfold pDf; first | (rw [if_pos (show k = 0 from by first | exact (nI_eq (by omega) (by omega)).mp h9 | omega)]; exact ⟨o, rfl, rfl, rfl, fun hh => ho (by unfold pWrong at hh; split at hh <;> first | assumption | exact hh)⟩) | (rw [if_neg (show ¬ k = 0 from fun z => h9 (by rw [z]; rfl))]; exact ⟨o, rfl, rfl, rfl, ho⟩)
        ·
          have h9 := h2
          refine g_aload_n (n := 208) rfl rfl ?_
          refine g_cv0 (n := 211) (t := 150) (ci := 12) rfl (by decide +kernel) (by decide +kernel) (by decide) (by decide) (by decide +kernel) (by rfl) (c_wrong hp (by omega)) (by omega) (g_E ?_)
          refine g_goto 215 rfl (by decide) ?_
          refine g_iret (n := 216) rfl (fun h => nomatch h) ?_
          unfold pDf; first | (rw [if_pos (show k = 0 from by first | exact (nI_eq (by omega) (by omega)).mp h9 | omega)]; exact ⟨o, rfl, rfl, rfl, fun hh => ho (by unfold pWrong at hh; split at hh <;> first | assumption | exact hh)⟩) | (rw [if_neg (show ¬ k = 0 from fun z => h9 (by rw [z]; rfl))]; exact ⟨o, rfl, rfl, rfl, ho⟩)
theorem c_atom {sc : List Value} {I : mg_I} {nm base n d : Nat} {op c : Int32} {x2 x3 x4 : Value} {s : pS} {o : Int32} (hp : pH I base n) (hc : pHere (pb I base) n s = c) (hd : 2 ≤ d) (ha : s.1 ≤ n) (ho : s.2 < 0 → o = op) : GG sc 12 false false mi_k158 d 118 [.ref 124, .int c, x2, x3, x4] [] (pW I (nI s.1) s.2 o) nm (qP I nm op (pAtom (pb I base) n (I 124 10) (I 129) s)) := by
  have hp3 := hp.2.2
  unfold pAtom
  rw [hc]
  by_cases hk : pName (I 124 10) c < 0
  · rw [if_pos hk]
    refine g_aload_n (n := 119) rfl rfl ?_
    refine g_iload_n (n := 120) rfl rfl ?_
    refine g_cv1 (n := 123) (t := 152) (ci := 12) rfl (by decide +kernel) (by decide +kernel) (by decide) (by decide) (by decide +kernel) (by rfl) c_nameOf (by omega) (g_E ?_)
    refine g_istore_n2 (n := 124) rfl rfl ?_
    refine g_iload_n (n := 125) rfl rfl ?_
    refine g_iflt (n := 128) 145 rfl (by decide) (fun h1 => ?_) (fun h1 => ?_)
    ·
      refine g_iconst (n := 146) (v := 0) rfl rfl ?_
      refine g_istore_n3 (n := 147) rfl rfl ?_
      refine g_iconst (n := 148) (v := 0) rfl rfl ?_
      refine g_istore4 (n := 150) rfl rfl ?_
      exact c_digits (base := base) hp rfl hd 4 0 0 s o (by omega) ha ho
    ·
      exact absurd hk h1
  · rw [if_neg hk]
    have hl := pHere_lt (b := pb I base) (n := n) (s := s) (fun z => by rw [hc] at z; rw [z, pName_m1] at hk; exact hk (by decide))
    refine g_aload_n (n := 119) rfl rfl ?_
    refine g_iload_n (n := 120) rfl rfl ?_
    refine g_cv1 (n := 123) (t := 152) (ci := 12) rfl (by decide +kernel) (by decide +kernel) (by decide) (by decide) (by decide +kernel) (by rfl) c_nameOf (by omega) (g_E ?_)
    refine g_istore_n2 (n := 124) rfl rfl ?_
    refine g_iload_n (n := 125) rfl rfl ?_
    refine g_iflt (n := 128) 145 rfl (by decide) (fun h1 => ?_) (fun h1 => ?_)
    ·
      exact absurd h1 (by first | exact hk | exact fun z => z hk)
    ·
      refine g_aload_n (n := 129) rfl rfl ?_
      refine g_dupa (n := 130) rfl ?_
      refine g_getv (n := 133) (ci := 12) (j := 6) (v := nI s.1) rfl rfl (by decide +kernel) rfl (by decide) (by decide) ?_
      refine g_iconst (n := 134) (v := 1) rfl rfl ?_
      refine g_iaddN (n := 135) (x := s.1) (y := 1) rfl ?_
      refine g_puti (n := 138) (ci := 12) (j := 6) rfl (by decide +kernel) rfl (by decide) (by decide) (by decide +kernel) rfl ?_
      rw [pW_6]
      refine g_aload_n (n := 139) rfl rfl ?_
      refine g_getr (n := 142) (ci := 12) (j := 11) (b := 129) rfl (by decide +kernel) (by decide) (by decide) (by decide +kernel) ?_
      refine g_iload_n (n := 143) rfl rfl ?_
      refine g_iald (n := 144) (pName (I 124 10) c).toNatClampNeg rfl (by decide) (pName_ix hk).1 (pName_ix hk).2 ?_
      refine g_iret (n := 145) rfl (fun h => nomatch h) ?_
      exact ⟨o, rfl, rfl, rfl, ho⟩
theorem c_pOr {sc : List Value} {I : mg_I} {nm base n h : Nat} {op : Int32} {u : pS → Int32 × pS} (hp : pH I base n) (hu : PC sc I nm n (h + 3) 158 op u) (hg : pGo n u) : PC sc I nm n (h + 8) 153 op (pOr (pb I base) n u) := by
  have h1 : PC sc I nm n (h + 4) 157 op (pMul (pb I base) n u) := c_product (h := h + 1) hp hu hg
  have h2 : PC sc I nm n (h + 5) 156 op (pSum (pb I base) n u) := c_sum (h := h + 2) hp h1 (pMul_go hg)
  have h3 : PC sc I nm n (h + 6) 155 op (pCmp (pb I base) n u) := c_compared (h := h + 4) hp h2 hg
  have h4 : PC sc I nm n (h + 7) 154 op (pAnd (pb I base) n u) := c_both (h := h + 4) hp h3 (pCmp_go hg)
  exact c_either (h := h + 5) hp h4 (pAnd_go hg)
theorem pWrong_ge {s : pS} (h : s.1 < 2 ^ 31) : ¬ (pWrong s).2 < 0 := by
  unfold pWrong
  show ¬ (if s.2 < 0 then nI s.1 else s.2) < 0
  split
  · exact nI_pos h
  next h => exact h
theorem c_unit {sc : List Value} {I : mg_I} {nm base n : Nat} (hp : pH I base n) : ∀ k, k ≤ 5 → PC sc I nm n (6 * k + 3) 158 (nI (5 - k)) (pU (pb I base) n (I 124 10) (I 129) k) := by
  have hp3 := hp.2.2
  intro k
  induction k with
  | zero =>
    intro hk5 s0 o0 ha0 ho0
    refine SP.of (h := 2) (t := 158) (q := (yX12_unit, cX12_unit, 5, (some .int), 12, 1181, mi_k158)) rfl (by decide) (show ¬ (5 : Nat) < 1 by decide) (fun d hd => ?_)
    show GG sc 12 false false mi_k158 d 0 [.ref 124, .null, .null, .null, .null] [] (pW I (nI s0.1) s0.2 o0) nm (qP I nm (nI (5 - 0)) (pU (pb I base) n (I 124 10) (I 129) 0 s0))
    unfold pU
    generalize hc : pHere (pb I base) n s0 = c
    by_cases hk : kOp c
    · rw [if_pos hk]
      have hl := pHere_lt (b := pb I base) (n := n) (s := s0) (fun z => absurd ((hc.symm.trans z) ▸ hk) (by decide))
      have ho5 := ho0 hl.2
      have hk2 : ¬ ¬ o0 = 5 := fun z => z ho5
      refine g_aload_n (n := 1) rfl rfl ?_
      refine g_cv0 (n := 4) (t := 149) (ci := 12) rfl (by decide +kernel) (by decide +kernel) (by decide) (by decide) (by decide +kernel) (by rfl) (c_here hp (by omega)) (by omega) (g_E ?_)
      refine g_top (w := c) hc ?_
      refine g_istore_n1 (n := 5) rfl rfl ?_
      refine g_iload_n (n := 6) rfl rfl ?_
      refine g_bipush (n := 8) (v := 33) rfl rfl ?_
      refine g_iceq (n := 11) 17 rfl (by decide) (fun h1 => ?_) (fun h1 => ?_)
      ·
        refine g_aload_n (n := 18) rfl rfl ?_
        refine g_getv (n := 21) (ci := 12) (j := 9) (v := o0) rfl rfl (by decide +kernel) rfl (by decide) (by decide) ?_
        refine g_iconst (n := 22) (v := 5) rfl rfl ?_
        refine g_icne (n := 25) 30 rfl (by decide) (fun h2 => ?_) (fun h2 => ?_)
        ·
          exact absurd h2 hk2
        ·
          refine g_aload_n (n := 26) rfl rfl ?_
          refine g_cv0 (n := 29) (t := 150) (ci := 12) rfl (by decide +kernel) (by decide +kernel) (by decide) (by decide) (by decide +kernel) (by rfl) (c_wrong hp (by omega)) (by omega) (g_E ?_)
          refine g_iret (n := 30) rfl (fun h => nomatch h) ?_
          exact ⟨o0, rfl, rfl, rfl, fun _ => ho5⟩
      ·
        refine g_iload_n (n := 12) rfl rfl ?_
        refine g_bipush (n := 14) (v := 40) rfl rfl ?_
        refine g_icne (n := 17) 118 rfl (by decide) (fun h3 => ?_) (fun h3 => ?_)
        ·
          exfalso; unfold kOp at hk; simp_all; done
        ·
          refine g_aload_n (n := 18) rfl rfl ?_
          refine g_getv (n := 21) (ci := 12) (j := 9) (v := o0) rfl rfl (by decide +kernel) rfl (by decide) (by decide) ?_
          refine g_iconst (n := 22) (v := 5) rfl rfl ?_
          refine g_icne (n := 25) 30 rfl (by decide) (fun h4 => ?_) (fun h4 => ?_)
          ·
            exact absurd h4 hk2
          ·
            refine g_aload_n (n := 26) rfl rfl ?_
            refine g_cv0 (n := 29) (t := 150) (ci := 12) rfl (by decide +kernel) (by decide +kernel) (by decide) (by decide) (by decide +kernel) (by rfl) (c_wrong hp (by omega)) (by omega) (g_E ?_)
            refine g_iret (n := 30) rfl (fun h => nomatch h) ?_
            exact ⟨o0, rfl, rfl, rfl, fun _ => ho5⟩
    · rw [if_neg hk]
      refine g_aload_n (n := 1) rfl rfl ?_
      refine g_cv0 (n := 4) (t := 149) (ci := 12) rfl (by decide +kernel) (by decide +kernel) (by decide) (by decide) (by decide +kernel) (by rfl) (c_here hp (by omega)) (by omega) (g_E ?_)
      refine g_top (w := c) hc ?_
      refine g_istore_n1 (n := 5) rfl rfl ?_
      refine g_iload_n (n := 6) rfl rfl ?_
      refine g_bipush (n := 8) (v := 33) rfl rfl ?_
      refine g_iceq (n := 11) 17 rfl (by decide) (fun h1 => ?_) (fun h1 => ?_)
      ·
        exfalso; unfold kOp at hk; simp_all; done
      ·
        refine g_iload_n (n := 12) rfl rfl ?_
        refine g_bipush (n := 14) (v := 40) rfl rfl ?_
        refine g_icne (n := 17) 118 rfl (by decide) (fun h2 => ?_) (fun h2 => ?_)
        ·
          exact c_atom (base := base) hp hc (by omega) ha0 ho0
        ·
          exfalso; unfold kOp at hk; simp_all; done
  | succ k ih =>
    intro hk5 s0 o0 ha0 ho0
    refine SP.of (h := 6 * k + 8) (t := 158) (q := (yX12_unit, cX12_unit, 5, (some .int), 12, 1181, mi_k158)) rfl (by decide) (show ¬ (5 : Nat) < 1 by decide) (fun d hd => ?_)
    show GG sc 12 false false mi_k158 d 0 [.ref 124, .null, .null, .null, .null] [] (pW I (nI s0.1) s0.2 o0) nm (qP I nm (nI (5 - (k + 1))) (pU (pb I base) n (I 124 10) (I 129) (k + 1) s0))
    have hu := ih (by omega)
    have hgu := pU_go (b := pb I base) (n := n) (t := I 124 10) (nm3 := I 129) k
    have hor := c_pOr (base := base) hp hu hgu
    have hgo := pOr_go (b := pb I base) hgu
    unfold pU
    generalize pU (pb I base) n (I 124 10) (I 129) k = u at hu hgu hor hgo ⊢
    generalize pOr (pb I base) n u = v at hor hgo ⊢
    generalize hc : pHere (pb I base) n s0 = c
    by_cases hk : kOp c
    · rw [if_pos hk]
      have hl := pHere_lt (b := pb I base) (n := n) (s := s0) (fun z => absurd ((hc.symm.trans z) ▸ hk) (by decide))
      have ho5 := ho0 hl.2
      have hk2 : ¬ o0 = 5 := fun z => by
        have h7 := (nI_eq (by omega) (by omega)).mp (show nI (5 - (k + 1)) = nI 5 from ho5.symm.trans z)
        omega
      have ho6 : o0 + 1 = nI (5 - k) := by rw [ho5, nI_1, show 5 - (k + 1) + 1 = 5 - k by omega]
      have ho7 : ∀ x : Int32, x = nI (5 - k) → x - 1 = nI (5 - (k + 1)) := fun x hx => by rw [hx, show 5 - k = 5 - (k + 1) + 1 by omega, nI_pred]
      by_cases h40 : c = 40
      · rw [if_pos h40]
        have hg1 := hgo (s0.1 + 1, s0.2) (by show s0.1 + 1 ≤ n; omega)
        have hu1 := hor (s0.1 + 1, s0.2) (o0 + 1) (by show s0.1 + 1 ≤ n; omega) (fun _ => ho6)
        generalize v (s0.1 + 1, s0.2) = r at hg1 hu1 ⊢
        have hg2 : r.2.1 ≤ n := hg1.2.1
        refine g_aload_n (n := 1) rfl rfl ?_
        refine g_cv0 (n := 4) (t := 149) (ci := 12) rfl (by decide +kernel) (by decide +kernel) (by decide) (by decide) (by decide +kernel) (by rfl) (c_here hp (by omega)) (by omega) (g_E ?_)
        refine g_top (w := c) hc ?_
        refine g_istore_n1 (n := 5) rfl rfl ?_
        refine g_iload_n (n := 6) rfl rfl ?_
        refine g_bipush (n := 8) (v := 33) rfl rfl ?_
        refine g_iceq (n := 11) 17 rfl (by decide) (fun h1 => ?_) (fun h1 => ?_)
        ·
          refine g_aload_n (n := 18) rfl rfl ?_
          refine g_getv (n := 21) (ci := 12) (j := 9) (v := o0) rfl rfl (by decide +kernel) rfl (by decide) (by decide) ?_
          refine g_iconst (n := 22) (v := 5) rfl rfl ?_
          refine g_icne (n := 25) 30 rfl (by decide) (fun h2 => ?_) (fun h2 => ?_)
          ·
            refine g_aload_n (n := 31) rfl rfl ?_
            refine g_dupa (n := 32) rfl ?_
            refine g_getv (n := 35) (ci := 12) (j := 9) (v := o0) rfl rfl (by decide +kernel) rfl (by decide) (by decide) ?_
            refine g_iconst (n := 36) (v := 1) rfl rfl ?_
            refine g_iadd (n := 37) rfl ?_
            refine g_puti (n := 40) (ci := 12) (j := 9) rfl (by decide +kernel) rfl (by decide) (by decide) (by decide +kernel) rfl ?_
            rw [pW_9]
            refine g_aload_n (n := 41) rfl rfl ?_
            refine g_dupa (n := 42) rfl ?_
            refine g_getv (n := 45) (ci := 12) (j := 6) (v := nI s0.1) rfl rfl (by decide +kernel) rfl (by decide) (by decide) ?_
            refine g_iconst (n := 46) (v := 1) rfl rfl ?_
            refine g_iaddN (n := 47) (x := s0.1) (y := 1) rfl ?_
            refine g_puti (n := 50) (ci := 12) (j := 6) rfl (by decide +kernel) rfl (by decide) (by decide) (by decide +kernel) rfl ?_
            rw [pW_6]
            refine g_iload_n (n := 51) rfl rfl ?_
            refine g_bipush (n := 53) (v := 40) rfl rfl ?_
            refine g_icne (n := 56) 63 rfl (by decide) (fun h3 => ?_) (fun h3 => ?_)
            ·
              exact absurd h3 (by first | exact h40 | exact fun z => z h40)
            ·
              refine g_aload_n (n := 57) rfl rfl ?_
              refine g_cv0 (n := 60) (t := 153) (ci := 12) rfl (by decide +kernel) (by decide +kernel) (by decide) (by decide) (by decide +kernel) (by rfl) hu1 (by omega) (g_P fun o1 ho1 => ?_)
              refine g_goto 67 rfl (by decide) ?_
              refine g_istore_n2 (n := 68) rfl rfl ?_
              refine g_iload_n (n := 69) rfl rfl ?_
              refine g_bipush (n := 71) (v := 40) rfl rfl ?_
              refine g_icne (n := 74) 88 rfl (by decide) (fun h4 => ?_) (fun h4 => ?_)
              ·
                exact absurd h4 (by first | exact h40 | exact fun z => z h40)
              ·
                refine g_aload_n (n := 75) rfl rfl ?_
                refine g_bipush (n := 77) (v := 41) rfl rfl ?_
                by_cases h41 : pHere (pb I base) n r.2 = 41
                ·
                  rw [if_pos h41]
                  refine g_cv1 (n := 80) (t := 151) (ci := 12) rfl (by decide +kernel) (by decide +kernel) (by decide) (by decide) (by decide +kernel) (by rfl) (c_takes1 hp (by omega) h41) (by omega) (g_E ?_)
                  refine g_ifne1 (n := 83) 88 rfl (by decide) ?_
                  refine g_aload_n (n := 89) rfl rfl ?_
                  refine g_dupa (n := 90) rfl ?_
                  refine g_getv (n := 93) (ci := 12) (j := 9) (v := o1) rfl rfl (by decide +kernel) rfl (by decide) (by decide) ?_
                  refine g_iconst (n := 94) (v := 1) rfl rfl ?_
                  refine g_isub (n := 95) rfl ?_
                  refine g_puti (n := 98) (ci := 12) (j := 9) rfl (by decide +kernel) rfl (by decide) (by decide) (by decide +kernel) rfl ?_
                  rw [pW_9]
                  refine g_iload_n (n := 99) rfl rfl ?_
                  refine g_bipush (n := 101) (v := 40) rfl rfl ?_
                  refine g_icne (n := 104) 108 rfl (by decide) (fun h5 => ?_) (fun h5 => ?_)
                  ·
                    exact absurd h5 (by first | exact h40 | exact fun z => z h40)
                  ·
                    refine g_iload_n (n := 105) rfl rfl ?_
                    refine g_goto 117 rfl (by decide) ?_
                    refine g_iret (n := 118) rfl (fun h => nomatch h) ?_
                    exact ⟨o1 - 1, rfl, rfl, rfl, fun hh => ho7 _ (ho1 hh)⟩
                ·
                  rw [if_neg h41]
                  refine g_cv1 (n := 80) (t := 151) (ci := 12) rfl (by decide +kernel) (by decide +kernel) (by decide) (by decide) (by decide +kernel) (by rfl) (c_takes0 hp (by omega) h41) (by omega) (g_E ?_)
                  refine g_ifne0 (n := 83) 88 rfl (by decide) ?_
                  refine g_aload_n (n := 84) rfl rfl ?_
                  refine g_cv0 (n := 87) (t := 150) (ci := 12) rfl (by decide +kernel) (by decide +kernel) (by decide) (by decide) (by decide +kernel) (by rfl) (c_wrong hp (by omega)) (by omega) (g_E ?_)
                  refine g_iret (n := 88) rfl (fun h => nomatch h) ?_
                  exact ⟨o1, rfl, rfl, rfl, fun hh => absurd hh (pWrong_ge (by omega))⟩
          ·
            exact absurd h2 hk2
        ·
          refine g_iload_n (n := 12) rfl rfl ?_
          refine g_bipush (n := 14) (v := 40) rfl rfl ?_
          refine g_icne (n := 17) 118 rfl (by decide) (fun h6 => ?_) (fun h6 => ?_)
          ·
            exfalso; unfold kOp at hk; simp_all; done
          ·
            refine g_aload_n (n := 18) rfl rfl ?_
            refine g_getv (n := 21) (ci := 12) (j := 9) (v := o0) rfl rfl (by decide +kernel) rfl (by decide) (by decide) ?_
            refine g_iconst (n := 22) (v := 5) rfl rfl ?_
            refine g_icne (n := 25) 30 rfl (by decide) (fun h7 => ?_) (fun h7 => ?_)
            ·
              refine g_aload_n (n := 31) rfl rfl ?_
              refine g_dupa (n := 32) rfl ?_
              refine g_getv (n := 35) (ci := 12) (j := 9) (v := o0) rfl rfl (by decide +kernel) rfl (by decide) (by decide) ?_
              refine g_iconst (n := 36) (v := 1) rfl rfl ?_
              refine g_iadd (n := 37) rfl ?_
              refine g_puti (n := 40) (ci := 12) (j := 9) rfl (by decide +kernel) rfl (by decide) (by decide) (by decide +kernel) rfl ?_
              rw [pW_9]
              refine g_aload_n (n := 41) rfl rfl ?_
              refine g_dupa (n := 42) rfl ?_
              refine g_getv (n := 45) (ci := 12) (j := 6) (v := nI s0.1) rfl rfl (by decide +kernel) rfl (by decide) (by decide) ?_
              refine g_iconst (n := 46) (v := 1) rfl rfl ?_
              refine g_iaddN (n := 47) (x := s0.1) (y := 1) rfl ?_
              refine g_puti (n := 50) (ci := 12) (j := 6) rfl (by decide +kernel) rfl (by decide) (by decide) (by decide +kernel) rfl ?_
              rw [pW_6]
              refine g_iload_n (n := 51) rfl rfl ?_
              refine g_bipush (n := 53) (v := 40) rfl rfl ?_
              refine g_icne (n := 56) 63 rfl (by decide) (fun h8 => ?_) (fun h8 => ?_)
              ·
                exact absurd h8 (by first | exact h40 | exact fun z => z h40)
              ·
                refine g_aload_n (n := 57) rfl rfl ?_
                refine g_cv0 (n := 60) (t := 153) (ci := 12) rfl (by decide +kernel) (by decide +kernel) (by decide) (by decide) (by decide +kernel) (by rfl) hu1 (by omega) (g_P fun o1 ho1 => ?_)
                refine g_goto 67 rfl (by decide) ?_
                refine g_istore_n2 (n := 68) rfl rfl ?_
                refine g_iload_n (n := 69) rfl rfl ?_
                refine g_bipush (n := 71) (v := 40) rfl rfl ?_
                refine g_icne (n := 74) 88 rfl (by decide) (fun h9 => ?_) (fun h9 => ?_)
                ·
                  exact absurd h9 (by first | exact h40 | exact fun z => z h40)
                ·
                  refine g_aload_n (n := 75) rfl rfl ?_
                  refine g_bipush (n := 77) (v := 41) rfl rfl ?_
                  by_cases h41 : pHere (pb I base) n r.2 = 41
                  ·
                    rw [if_pos h41]
                    refine g_cv1 (n := 80) (t := 151) (ci := 12) rfl (by decide +kernel) (by decide +kernel) (by decide) (by decide) (by decide +kernel) (by rfl) (c_takes1 hp (by omega) h41) (by omega) (g_E ?_)
                    refine g_ifne1 (n := 83) 88 rfl (by decide) ?_
                    refine g_aload_n (n := 89) rfl rfl ?_
                    refine g_dupa (n := 90) rfl ?_
                    refine g_getv (n := 93) (ci := 12) (j := 9) (v := o1) rfl rfl (by decide +kernel) rfl (by decide) (by decide) ?_
                    refine g_iconst (n := 94) (v := 1) rfl rfl ?_
                    refine g_isub (n := 95) rfl ?_
                    refine g_puti (n := 98) (ci := 12) (j := 9) rfl (by decide +kernel) rfl (by decide) (by decide) (by decide +kernel) rfl ?_
                    rw [pW_9]
                    refine g_iload_n (n := 99) rfl rfl ?_
                    refine g_bipush (n := 101) (v := 40) rfl rfl ?_
                    refine g_icne (n := 104) 108 rfl (by decide) (fun h10 => ?_) (fun h10 => ?_)
                    ·
                      exact absurd h10 (by first | exact h40 | exact fun z => z h40)
                    ·
                      refine g_iload_n (n := 105) rfl rfl ?_
                      refine g_goto 117 rfl (by decide) ?_
                      refine g_iret (n := 118) rfl (fun h => nomatch h) ?_
                      exact ⟨o1 - 1, rfl, rfl, rfl, fun hh => ho7 _ (ho1 hh)⟩
                  ·
                    rw [if_neg h41]
                    refine g_cv1 (n := 80) (t := 151) (ci := 12) rfl (by decide +kernel) (by decide +kernel) (by decide) (by decide) (by decide +kernel) (by rfl) (c_takes0 hp (by omega) h41) (by omega) (g_E ?_)
                    refine g_ifne0 (n := 83) 88 rfl (by decide) ?_
                    refine g_aload_n (n := 84) rfl rfl ?_
                    refine g_cv0 (n := 87) (t := 150) (ci := 12) rfl (by decide +kernel) (by decide +kernel) (by decide) (by decide) (by decide +kernel) (by rfl) (c_wrong hp (by omega)) (by omega) (g_E ?_)
                    refine g_iret (n := 88) rfl (fun h => nomatch h) ?_
                    exact ⟨o1, rfl, rfl, rfl, fun hh => absurd hh (pWrong_ge (by omega))⟩
            ·
              exact absurd h7 hk2
      · rw [if_neg h40]
        have hg1 := hgu (s0.1 + 1, s0.2) (by show s0.1 + 1 ≤ n; omega)
        have hu1 := hu (s0.1 + 1, s0.2) (o0 + 1) (by show s0.1 + 1 ≤ n; omega) (fun _ => ho6)
        generalize u (s0.1 + 1, s0.2) = r at hg1 hu1 ⊢
        have hg2 : r.2.1 ≤ n := hg1.2.1
        refine g_aload_n (n := 1) rfl rfl ?_
        refine g_cv0 (n := 4) (t := 149) (ci := 12) rfl (by decide +kernel) (by decide +kernel) (by decide) (by decide) (by decide +kernel) (by rfl) (c_here hp (by omega)) (by omega) (g_E ?_)
        refine g_top (w := c) hc ?_
        refine g_istore_n1 (n := 5) rfl rfl ?_
        refine g_iload_n (n := 6) rfl rfl ?_
        refine g_bipush (n := 8) (v := 33) rfl rfl ?_
        refine g_iceq (n := 11) 17 rfl (by decide) (fun h1 => ?_) (fun h1 => ?_)
        ·
          refine g_aload_n (n := 18) rfl rfl ?_
          refine g_getv (n := 21) (ci := 12) (j := 9) (v := o0) rfl rfl (by decide +kernel) rfl (by decide) (by decide) ?_
          refine g_iconst (n := 22) (v := 5) rfl rfl ?_
          refine g_icne (n := 25) 30 rfl (by decide) (fun h2 => ?_) (fun h2 => ?_)
          ·
            refine g_aload_n (n := 31) rfl rfl ?_
            refine g_dupa (n := 32) rfl ?_
            refine g_getv (n := 35) (ci := 12) (j := 9) (v := o0) rfl rfl (by decide +kernel) rfl (by decide) (by decide) ?_
            refine g_iconst (n := 36) (v := 1) rfl rfl ?_
            refine g_iadd (n := 37) rfl ?_
            refine g_puti (n := 40) (ci := 12) (j := 9) rfl (by decide +kernel) rfl (by decide) (by decide) (by decide +kernel) rfl ?_
            rw [pW_9]
            refine g_aload_n (n := 41) rfl rfl ?_
            refine g_dupa (n := 42) rfl ?_
            refine g_getv (n := 45) (ci := 12) (j := 6) (v := nI s0.1) rfl rfl (by decide +kernel) rfl (by decide) (by decide) ?_
            refine g_iconst (n := 46) (v := 1) rfl rfl ?_
            refine g_iaddN (n := 47) (x := s0.1) (y := 1) rfl ?_
            refine g_puti (n := 50) (ci := 12) (j := 6) rfl (by decide +kernel) rfl (by decide) (by decide) (by decide +kernel) rfl ?_
            rw [pW_6]
            refine g_iload_n (n := 51) rfl rfl ?_
            refine g_bipush (n := 53) (v := 40) rfl rfl ?_
            refine g_icne (n := 56) 63 rfl (by decide) (fun h3 => ?_) (fun h3 => ?_)
            ·
              refine g_aload_n (n := 64) rfl rfl ?_
              refine g_cv0 (n := 67) (t := 158) (ci := 12) rfl (by decide +kernel) (by decide +kernel) (by decide) (by decide) (by decide +kernel) (by rfl) hu1 (by omega) (g_P fun o1 ho1 => ?_)
              refine g_istore_n2 (n := 68) rfl rfl ?_
              refine g_iload_n (n := 69) rfl rfl ?_
              refine g_bipush (n := 71) (v := 40) rfl rfl ?_
              refine g_icne (n := 74) 88 rfl (by decide) (fun h4 => ?_) (fun h4 => ?_)
              ·
                refine g_aload_n (n := 89) rfl rfl ?_
                refine g_dupa (n := 90) rfl ?_
                refine g_getv (n := 93) (ci := 12) (j := 9) (v := o1) rfl rfl (by decide +kernel) rfl (by decide) (by decide) ?_
                refine g_iconst (n := 94) (v := 1) rfl rfl ?_
                refine g_isub (n := 95) rfl ?_
                refine g_puti (n := 98) (ci := 12) (j := 9) rfl (by decide +kernel) rfl (by decide) (by decide) (by decide +kernel) rfl ?_
                rw [pW_9]
                refine g_iload_n (n := 99) rfl rfl ?_
                refine g_bipush (n := 101) (v := 40) rfl rfl ?_
                refine g_icne (n := 104) 108 rfl (by decide) (fun h5 => ?_) (fun h5 => ?_)
                ·
                  refine g_iload_n (n := 109) rfl rfl ?_
                  refine g_ifne (n := 112) 116 rfl (by decide) (fun h6 => ?_) (fun h6 => ?_)
                  ·
                    refine g_iconst (n := 117) (v := 0) rfl rfl ?_
                    refine g_iret (n := 118) rfl (fun h => nomatch h) ?_
                    exact ⟨o1 - 1, congrArg (fun z => some (Value.int z)) (bI_f (by assumption)).symm, rfl, rfl, fun hh => ho7 _ (ho1 hh)⟩
                  ·
                    refine g_iconst (n := 113) (v := 1) rfl rfl ?_
                    refine g_goto 117 rfl (by decide) ?_
                    refine g_iret (n := 118) rfl (fun h => nomatch h) ?_
                    exact ⟨o1 - 1, congrArg (fun z => some (Value.int z)) (bI_t (by assumption)).symm, rfl, rfl, fun hh => ho7 _ (ho1 hh)⟩
                ·
                  exact absurd h5 (by first | exact h40 | exact fun z => z h40)
              ·
                exact absurd h4 (by first | exact h40 | exact fun z => z h40)
            ·
              exact absurd h3 (by first | exact h40 | exact fun z => z h40)
          ·
            exact absurd h2 hk2
        ·
          refine g_iload_n (n := 12) rfl rfl ?_
          refine g_bipush (n := 14) (v := 40) rfl rfl ?_
          refine g_icne (n := 17) 118 rfl (by decide) (fun h7 => ?_) (fun h7 => ?_)
          ·
            exfalso; unfold kOp at hk; simp_all; done
          ·
            refine g_aload_n (n := 18) rfl rfl ?_
            refine g_getv (n := 21) (ci := 12) (j := 9) (v := o0) rfl rfl (by decide +kernel) rfl (by decide) (by decide) ?_
            refine g_iconst (n := 22) (v := 5) rfl rfl ?_
            refine g_icne (n := 25) 30 rfl (by decide) (fun h8 => ?_) (fun h8 => ?_)
            ·
              refine g_aload_n (n := 31) rfl rfl ?_
              refine g_dupa (n := 32) rfl ?_
              refine g_getv (n := 35) (ci := 12) (j := 9) (v := o0) rfl rfl (by decide +kernel) rfl (by decide) (by decide) ?_
              refine g_iconst (n := 36) (v := 1) rfl rfl ?_
              refine g_iadd (n := 37) rfl ?_
              refine g_puti (n := 40) (ci := 12) (j := 9) rfl (by decide +kernel) rfl (by decide) (by decide) (by decide +kernel) rfl ?_
              rw [pW_9]
              refine g_aload_n (n := 41) rfl rfl ?_
              refine g_dupa (n := 42) rfl ?_
              refine g_getv (n := 45) (ci := 12) (j := 6) (v := nI s0.1) rfl rfl (by decide +kernel) rfl (by decide) (by decide) ?_
              refine g_iconst (n := 46) (v := 1) rfl rfl ?_
              refine g_iaddN (n := 47) (x := s0.1) (y := 1) rfl ?_
              refine g_puti (n := 50) (ci := 12) (j := 6) rfl (by decide +kernel) rfl (by decide) (by decide) (by decide +kernel) rfl ?_
              rw [pW_6]
              refine g_iload_n (n := 51) rfl rfl ?_
              refine g_bipush (n := 53) (v := 40) rfl rfl ?_
              refine g_icne (n := 56) 63 rfl (by decide) (fun h9 => ?_) (fun h9 => ?_)
              ·
                refine g_aload_n (n := 64) rfl rfl ?_
                refine g_cv0 (n := 67) (t := 158) (ci := 12) rfl (by decide +kernel) (by decide +kernel) (by decide) (by decide) (by decide +kernel) (by rfl) hu1 (by omega) (g_P fun o1 ho1 => ?_)
                refine g_istore_n2 (n := 68) rfl rfl ?_
                refine g_iload_n (n := 69) rfl rfl ?_
                refine g_bipush (n := 71) (v := 40) rfl rfl ?_
                refine g_icne (n := 74) 88 rfl (by decide) (fun h10 => ?_) (fun h10 => ?_)
                ·
                  refine g_aload_n (n := 89) rfl rfl ?_
                  refine g_dupa (n := 90) rfl ?_
                  refine g_getv (n := 93) (ci := 12) (j := 9) (v := o1) rfl rfl (by decide +kernel) rfl (by decide) (by decide) ?_
                  refine g_iconst (n := 94) (v := 1) rfl rfl ?_
                  refine g_isub (n := 95) rfl ?_
                  refine g_puti (n := 98) (ci := 12) (j := 9) rfl (by decide +kernel) rfl (by decide) (by decide) (by decide +kernel) rfl ?_
                  rw [pW_9]
                  refine g_iload_n (n := 99) rfl rfl ?_
                  refine g_bipush (n := 101) (v := 40) rfl rfl ?_
                  refine g_icne (n := 104) 108 rfl (by decide) (fun h11 => ?_) (fun h11 => ?_)
                  ·
                    refine g_iload_n (n := 109) rfl rfl ?_
                    refine g_ifne (n := 112) 116 rfl (by decide) (fun h12 => ?_) (fun h12 => ?_)
                    ·
                      refine g_iconst (n := 117) (v := 0) rfl rfl ?_
                      refine g_iret (n := 118) rfl (fun h => nomatch h) ?_
                      exact ⟨o1 - 1, congrArg (fun z => some (Value.int z)) (bI_f (by assumption)).symm, rfl, rfl, fun hh => ho7 _ (ho1 hh)⟩
                    ·
                      refine g_iconst (n := 113) (v := 1) rfl rfl ?_
                      refine g_goto 117 rfl (by decide) ?_
                      refine g_iret (n := 118) rfl (fun h => nomatch h) ?_
                      exact ⟨o1 - 1, congrArg (fun z => some (Value.int z)) (bI_t (by assumption)).symm, rfl, rfl, fun hh => ho7 _ (ho1 hh)⟩
                  ·
                    exact absurd h11 (by first | exact h40 | exact fun z => z h40)
                ·
                  exact absurd h10 (by first | exact h40 | exact fun z => z h40)
              ·
                exact absurd h9 (by first | exact h40 | exact fun z => z h40)
            ·
              exact absurd h8 hk2
    · rw [if_neg hk]
      refine g_aload_n (n := 1) rfl rfl ?_
      refine g_cv0 (n := 4) (t := 149) (ci := 12) rfl (by decide +kernel) (by decide +kernel) (by decide) (by decide) (by decide +kernel) (by rfl) (c_here hp (by omega)) (by omega) (g_E ?_)
      refine g_top (w := c) hc ?_
      refine g_istore_n1 (n := 5) rfl rfl ?_
      refine g_iload_n (n := 6) rfl rfl ?_
      refine g_bipush (n := 8) (v := 33) rfl rfl ?_
      refine g_iceq (n := 11) 17 rfl (by decide) (fun h1 => ?_) (fun h1 => ?_)
      ·
        exfalso; unfold kOp at hk; simp_all; done
      ·
        refine g_iload_n (n := 12) rfl rfl ?_
        refine g_bipush (n := 14) (v := 40) rfl rfl ?_
        refine g_icne (n := 17) 118 rfl (by decide) (fun h2 => ?_) (fun h2 => ?_)
        ·
          exact c_atom (base := base) hp hc (by omega) ha0 ho0
        ·
          exfalso; unfold kOp at hk; simp_all; done
end
section
/-! whole texts, and what they give -/
/-- the same but for what reading a text leaves behind -/
def mE (I I' : mg_I) : Prop := ∀ a j, ¬ (a = 129 ∨ (a = 124 ∧ 5 ≤ j ∧ j ≤ 10)) → I' a j = I a j
theorem mE.rfl' {I : mg_I} : mE I I := fun _ _ _ => rfl
theorem mE.trans {I J K : mg_I} (h : mE I J) (h2 : mE J K) : mE I K := fun a j x => (h2 a j x).trans (h a j x)
theorem mE.up {I J : mg_I} (h : mE I J) {a j : Nat} {v : Int32} : mE (mf_up I a j v) (mf_up J a j v) := by
  intro x k hx
  unfold mf_up
  split
  · rfl
  · exact h x k hx
theorem mE.row {I I' : mg_I} (h : mE I I') {a : Nat} (h1 : a ≠ 129) (h2 : a ≠ 124) : I' a = I a := by
  funext j
  exact h a j (fun z => z.elim h1 (fun y => h2 y.1))
theorem pU_names {b : Nat → Int32} {n : Nat} {t : Int32} {n1 n2 : Nat → Int32} (h : ∀ j, j < 3 → n1 j = n2 j) : ∀ k, pU b n t n1 k = pU b n t n2 k := by
  have ha : pAtom b n t n1 = pAtom b n t n2 := by
    funext s
    unfold pAtom
    by_cases hk : pName t (pHere b n s) < 0
    · rw [if_pos hk, if_pos hk]
    · rw [if_neg hk, if_neg hk, h _ (pName_ix hk).2]
  intro k
  induction k with
  | zero => funext s; unfold pU; rw [ha]
  | succ k ih => funext s; unfold pU; rw [ha, ih]
def fW (b : Nat → Int32) (n : Nat) (t : Int32) (nm3 : Nat → Int32) : Int32 × Int32 :=
  if (pOr b n (pU b n t nm3 5) (0, -1)).2.2 < 0 ∧ (pOr b n (pU b n t nm3 5) (0, -1)).2.1 < n then (0, nI (pOr b n (pU b n t nm3 5) (0, -1)).2.1) else ((pOr b n (pU b n t nm3 5) (0, -1)).1, (pOr b n (pU b n t nm3 5) (0, -1)).2.2)
def mW (I : mg_I) (base n : Nat) (t : Int32) : mg_I := mf_up (mf_up (mf_up I 124 5 (nI base)) 124 7 (nI n)) 124 10 t
theorem mW_eq {I : mg_I} {base n : Nat} {t : Int32} : mf_up (mf_up (mf_up (mf_up (mf_up (mf_up I 124 5 (nI base)) 124 6 0) 124 7 (nI n)) 124 8 (-1)) 124 9 0) 124 10 t = pW (mW I base n t) (nI 0) (-1) 0 := by
  funext x j
  unfold pW mW mf_up
  by_cases hx : x = 124
  · subst hx
    by_cases h6 : j = 6
    · subst h6; rfl
    · by_cases h8 : j = 8
      · subst h8; rfl
      · by_cases h9 : j = 9
        · subst h9; rfl
        · simp [h6, h8, h9]
  · simp [hx]
theorem pW_mE {I : mg_I} {base n : Nat} {t a f o : Int32} : mE I (pW (mW I base n t) a f o) := by
  intro x j h
  unfold pW mW mf_up
  by_cases hx : x = 124
  · subst hx
    have h6 : ¬ (5 ≤ j ∧ j ≤ 10) := fun z => h (Or.inr ⟨rfl, z⟩)
    rw [if_pos rfl, if_neg (by omega), if_neg (by omega), if_neg (by omega), if_neg (by omega), if_neg (by omega), if_neg (by omega)]
  · rw [if_neg hx, if_neg (fun z => hx z.1), if_neg (fun z => hx z.1), if_neg (fun z => hx z.1)]
def qW (v : Int32 × Int32) (I : mg_I) (nm : Nat) : Option Value → mg_I → Nat → Prop := fun r I' nm' => r = some (.int v.1) ∧ I' 124 8 = v.2 ∧ mE I I' ∧ nm' = nm
theorem c_worked {sc : List Value} {nm : Nat} {I : mg_I} {base n use : Nat} (hn : n ≤ 50) (hb : base + n ≤ 286) (hu : use < 2) : SP sc 40 159 [.ref 124, .int (nI base), .int (nI n), .int (nI use)] I nm (qW (fW (pb I base) n (nI use) (I 129)) I nm) := by
  refine SP.of (h := 39) (t := 159) (q := (yX12_worked, cX12_worked, 5, (some .int), 12, 1157, mi_k159)) rfl (by decide) (show ¬ (5 : Nat) < 4 by decide) (fun d hd => ?_)
  show GG sc 12 false false mi_k159 d 0 [.ref 124, .int (nI base), .int (nI n), .int (nI use), .null] [] I nm (qW (fW (pb I base) n (nI use) (I 129)) I nm)
  have hX : ∀ x4 : Value, GG sc 12 false false mi_k159 d 39 [.ref 124, .int (nI base), .int (nI n), .int (nI use), x4] [] (pW (mW I base n (nI use)) (nI 0) (-1) 0) nm (qW (fW (pb I base) n (nI use) (I 129)) I nm) := by
    intro x4
    have hp : pH (mW I base n (nI use)) base n := ⟨rfl, rfl, hn, hb⟩
    have hgu := pU_go (b := pb I base) (n := n) (t := nI use) (nm3 := I 129) 5
    have hg1 := pOr_go (b := pb I base) hgu (0, -1) (Nat.zero_le _)
    have hu1 : SP sc 38 153 [.ref 124] (pW (mW I base n (nI use)) (nI 0) (-1) 0) nm (qP (mW I base n (nI use)) nm (nI (5 - 5)) (pOr (pb I base) n (pU (pb I base) n (nI use) (I 129) 5) (0, -1))) := c_pOr (base := base) (h := 30) hp (c_unit (base := base) hp 5 (Nat.le_refl _)) hgu (0, -1) 0 (Nat.zero_le _) (fun _ => rfl)
    unfold fW
    generalize pOr (pb I base) n (pU (pb I base) n (nI use) (I 129) 5) (0, -1) = r at hg1 hu1 ⊢
    have hg2 : r.2.1 ≤ n := hg1.2.1
    refine g_aload_n (n := 40) rfl rfl ?_
    refine g_cv0 (n := 43) (t := 153) (ci := 12) rfl (by decide +kernel) (by decide +kernel) (by decide) (by decide) (by decide +kernel) (by rfl) hu1 (by omega) (g_P fun o1 ho1 => ?_)
    refine g_istore4 (n := 45) rfl rfl ?_
    refine g_aload_n (n := 46) rfl rfl ?_
    refine g_getv (n := 49) (ci := 12) (j := 8) (v := r.2.2) rfl rfl (by decide +kernel) rfl (by decide) (by decide) ?_
    refine g_ifge (n := 52) 68 rfl (by decide) (fun h1 => ?_) (fun h1 => ?_)
    ·
      refine g_iload (n := 70) rfl rfl ?_
      refine g_iret (n := 71) rfl (fun h => nomatch h) ?_
      first | exact ⟨congrArg (fun z => some (Value.int z)) (by rw [if_neg (fun z => absurd z.1 (Int32.not_lt.mpr h1))]), by rw [if_neg (fun z => absurd z.1 (Int32.not_lt.mpr h1))]; rfl, pW_mE, rfl⟩ | exact ⟨congrArg (fun z => some (Value.int z)) (by rw [if_neg (fun z => absurd z.2 (Nat.not_lt.mpr (fN_le rfl (by omega) (by omega) h2)))]), by rw [if_neg (fun z => absurd z.2 (Nat.not_lt.mpr (fN_le rfl (by omega) (by omega) h2)))]; rfl, pW_mE, rfl⟩
    ·
      refine g_aload_n (n := 53) rfl rfl ?_
      refine g_getv (n := 56) (ci := 12) (j := 6) (v := nI r.2.1) rfl rfl (by decide +kernel) rfl (by decide) (by decide) ?_
      refine g_aload_n (n := 57) rfl rfl ?_
      refine g_getv (n := 60) (ci := 12) (j := 7) (v := nI n) hp.2.1 rfl (by decide +kernel) rfl (by decide) (by decide) ?_
      refine g_icge (n := 63) 68 rfl (by decide) (fun h2 => ?_) (fun h2 => ?_)
      ·
        refine g_iload (n := 70) rfl rfl ?_
        refine g_iret (n := 71) rfl (fun h => nomatch h) ?_
        first | exact ⟨congrArg (fun z => some (Value.int z)) (by rw [if_neg (fun z => absurd z.1 (Int32.not_lt.mpr h1))]), by rw [if_neg (fun z => absurd z.1 (Int32.not_lt.mpr h1))]; rfl, pW_mE, rfl⟩ | exact ⟨congrArg (fun z => some (Value.int z)) (by rw [if_neg (fun z => absurd z.2 (Nat.not_lt.mpr (fN_le rfl (by omega) (by omega) h2)))]), by rw [if_neg (fun z => absurd z.2 (Nat.not_lt.mpr (fN_le rfl (by omega) (by omega) h2)))]; rfl, pW_mE, rfl⟩
      ·
        refine g_aload_n (n := 64) rfl rfl ?_
        refine g_cv0 (n := 67) (t := 150) (ci := 12) rfl (by decide +kernel) (by decide +kernel) (by decide) (by decide) (by decide +kernel) (by rfl) (c_wrong hp (by omega)) (by omega) (g_E ?_)
        refine g_iret (n := 68) rfl (fun h => nomatch h) ?_
        exact ⟨congrArg (fun z => some (Value.int z)) (by rw [if_pos ⟨Int32.not_le.mp h1, fN_nle rfl (by omega) (by omega) h2⟩]), by rw [if_pos ⟨Int32.not_le.mp h1, fN_nle rfl (by omega) (by omega) h2⟩]; exact if_pos (Int32.not_le.mp h1), pW_mE, rfl⟩
  rcases (show use = 0 ∨ use = 1 by omega) with rfl | rfl
  ·
    refine g_aload_n (n := 1) rfl rfl ?_
    refine g_iload_n (n := 2) rfl rfl ?_
    refine g_puti (n := 5) (ci := 12) (j := 5) rfl (by decide +kernel) rfl (by decide) (by decide) (by decide +kernel) rfl ?_
    refine g_aload_n (n := 6) rfl rfl ?_
    refine g_iconst (n := 7) (v := 0) rfl rfl ?_
    refine g_puti (n := 10) (ci := 12) (j := 6) rfl (by decide +kernel) rfl (by decide) (by decide) (by decide +kernel) rfl ?_
    refine g_aload_n (n := 11) rfl rfl ?_
    refine g_iload_n (n := 12) rfl rfl ?_
    refine g_puti (n := 15) (ci := 12) (j := 7) rfl (by decide +kernel) rfl (by decide) (by decide) (by decide +kernel) rfl ?_
    refine g_aload_n (n := 16) rfl rfl ?_
    refine g_iconst (n := 17) (v := -1) rfl rfl ?_
    refine g_puti (n := 20) (ci := 12) (j := 8) rfl (by decide +kernel) rfl (by decide) (by decide) (by decide +kernel) rfl ?_
    refine g_aload_n (n := 21) rfl rfl ?_
    refine g_iconst (n := 22) (v := 0) rfl rfl ?_
    refine g_puti (n := 25) (ci := 12) (j := 9) rfl (by decide +kernel) rfl (by decide) (by decide) (by decide +kernel) rfl ?_
    refine g_aload_n (n := 26) rfl rfl ?_
    refine g_iload_n (n := 27) rfl rfl ?_
    refine g_iconst (n := 28) (v := 1) rfl rfl ?_
    refine g_icne (n := 31) 35 rfl (by decide) (fun h1 => ?_) (fun h1 => ?_)
    ·
      refine g_iconst (n := 36) (v := 0) rfl rfl ?_
      refine g_puti (n := 39) (ci := 12) (j := 10) rfl (by decide +kernel) rfl (by decide) (by decide) (by decide +kernel) (by first | rfl | exact bI_fit) ?_
      refine (?_ : _)
      have hh := hX .null
      rw [← mW_eq] at hh
      exact hh
    ·
      exact absurd h1 (by decide)
  ·
    refine g_aload_n (n := 1) rfl rfl ?_
    refine g_iload_n (n := 2) rfl rfl ?_
    refine g_puti (n := 5) (ci := 12) (j := 5) rfl (by decide +kernel) rfl (by decide) (by decide) (by decide +kernel) rfl ?_
    refine g_aload_n (n := 6) rfl rfl ?_
    refine g_iconst (n := 7) (v := 0) rfl rfl ?_
    refine g_puti (n := 10) (ci := 12) (j := 6) rfl (by decide +kernel) rfl (by decide) (by decide) (by decide +kernel) rfl ?_
    refine g_aload_n (n := 11) rfl rfl ?_
    refine g_iload_n (n := 12) rfl rfl ?_
    refine g_puti (n := 15) (ci := 12) (j := 7) rfl (by decide +kernel) rfl (by decide) (by decide) (by decide +kernel) rfl ?_
    refine g_aload_n (n := 16) rfl rfl ?_
    refine g_iconst (n := 17) (v := -1) rfl rfl ?_
    refine g_puti (n := 20) (ci := 12) (j := 8) rfl (by decide +kernel) rfl (by decide) (by decide) (by decide +kernel) rfl ?_
    refine g_aload_n (n := 21) rfl rfl ?_
    refine g_iconst (n := 22) (v := 0) rfl rfl ?_
    refine g_puti (n := 25) (ci := 12) (j := 9) rfl (by decide +kernel) rfl (by decide) (by decide) (by decide +kernel) rfl ?_
    refine g_aload_n (n := 26) rfl rfl ?_
    refine g_iload_n (n := 27) rfl rfl ?_
    refine g_iconst (n := 28) (v := 1) rfl rfl ?_
    refine g_icne (n := 31) 35 rfl (by decide) (fun h1 => ?_) (fun h1 => ?_)
    ·
      exact absurd h1 (by decide)
    ·
      refine g_iconst (n := 32) (v := 1) rfl rfl ?_
      refine g_goto 36 rfl (by decide) ?_
      refine g_puti (n := 39) (ci := 12) (j := 10) rfl (by decide +kernel) rfl (by decide) (by decide) (by decide +kernel) (by first | rfl | exact bI_fit) ?_
      refine (?_ : _)
      have hh := hX .null
      rw [← mW_eq] at hh
      exact hh
def n3 (a b c : Int32) : Nat → Int32 := fun j => if j = 0 then a else if j = 1 then b else c
def fGive (d : Nat → Int32) (use : Nat) (a b c : Int32) : Int32 := if 0 < d (114 + use) then (fW (fun i => d (136 + 50 * use + i)) (d (114 + use)).toNatClampNeg (nI use) (n3 a b c)).1 else a
def fHeld (x lo hi : Int32) : Int32 := if x < lo then lo else if hi < x then hi else x
def fText (d : Nat → Int32) (use : Nat) (a b c : Int32) : Int32 := if use = 0 then fGive d use a b c else fHeld (fGive d use a b c) (-99) 99
def qM (v : Int32) (I : mg_I) (nm : Nat) : Option Value → mg_I → Nat → Prop := fun r I' nm' => r = some (.int v) ∧ mE I I' ∧ nm' = nm
theorem fW_names {b : Nat → Int32} {n : Nat} {t : Int32} {n1 n2 : Nat → Int32} (h : ∀ j, j < 3 → n1 j = n2 j) : fW b n t n1 = fW b n t n2 := by
  unfold fW
  rw [pU_names h]
theorem g_W {sc : List Value} {own : Nat} {ini rz : Bool} {code : List (Nat × Instr)} {d n : Nat} {ls : List Value} {I : mg_I} {nm0 : Nat} {Q : Option Value → mg_I → Nat → Prop} {r : List Value} {v : Int32 × Int32} (k : ∀ I', I' 124 8 = v.2 → mE I I' → GG sc own ini rz code d n ls (.int v.1 :: r) I' nm0 Q) : ∀ a I2 nm2, qW v I nm0 a I2 nm2 → GG sc own ini rz code d n ls (a.toList ++ r) I2 nm2 Q := by
  rintro a I2 nm2 ⟨rfl, h1, h2, rfl⟩
  exact k I2 h1 h2
theorem g_M {sc : List Value} {own : Nat} {ini rz : Bool} {code : List (Nat × Instr)} {d n : Nat} {ls : List Value} {I : mg_I} {nm0 : Nat} {Q : Option Value → mg_I → Nat → Prop} {r : List Value} {v : Int32} (k : ∀ I', mE I I' → GG sc own ini rz code d n ls (.int v :: r) I' nm0 Q) : ∀ a I2 nm2, qM v I nm0 a I2 nm2 → GG sc own ini rz code d n ls (a.toList ++ r) I2 nm2 Q := by
  rintro a I2 nm2 ⟨rfl, h2, rfl⟩
  exact k I2 h2
theorem mE_names {I : mg_I} {a b c : Int32} : mE I (mf_up (mf_up (mf_up I 129 0 a) 129 1 b) 129 2 c) := by
  intro x j h
  have hx : ¬ x = 129 := fun z => h (Or.inl z)
  unfold mf_up
  rw [if_neg (fun z => hx z.1), if_neg (fun z => hx z.1), if_neg (fun z => hx z.1)]
theorem n3_eq {I : mg_I} {a b c : Int32} : ∀ j, j < 3 → (mf_up (mf_up (mf_up I 129 0 a) 129 1 b) 129 2 c) 129 j = n3 a b c j := by
  intro j hj
  rcases (show j = 0 ∨ j = 1 ∨ j = 2 by omega) with rfl | rfl | rfl <;> rfl
theorem c_heldF {sc : List Value} {nm : Nat} {I : mg_I} {x lo hi : Int32} : SP sc 1 142 [.int x, .int lo, .int hi] I nm (qE (fHeld x lo hi) I nm) := c_held
theorem c_textGives {sc : List Value} {nm : Nat} {I : mg_I} {use : Nat} {a b c : Int32} (hu : use < 2) (hs : iR (I 125 (114 + use)) 51) : SP sc 41 162 [.ref 124, .int (nI use), .int a, .int b, .int c] I nm (qM (fText (I 125) use a b c) I nm) := by
  obtain ⟨m, hm, hm2, hm3⟩ := iR_nI hs
  rcases (show use = 0 ∨ use = 1 by omega) with rfl | rfl
  · refine SP.of (h := 40) (t := 162) (q := (yX12_textGives, cX12_textGives, 6, (some .int), 12, 1207, mi_k162)) rfl (by decide) (show ¬ (6 : Nat) < 5 by decide) (fun d hd => ?_)
    show GG sc 12 false false mi_k162 d 0 [.ref 124, .int (nI 0), .int a, .int b, .int c, .null] [] I nm (qM (fText (I 125) 0 a b c) I nm)
    refine g_iload_n (n := 1) rfl rfl ?_
    refine g_istore5 (n := 3) rfl rfl ?_
    refine g_aload_n (n := 4) rfl rfl ?_
    refine g_getr (n := 7) (ci := 12) (j := 0) (b := 125) rfl (by decide +kernel) (by decide) (by decide) (by decide +kernel) ?_
    refine g_bipush (n := 9) (v := 114) rfl rfl ?_
    refine g_iload_n (n := 10) rfl rfl ?_
    refine g_iaddN (n := 11) (x := 114) (y := 0) rfl ?_
    refine g_iald (n := 12) ((114 + 0)) rfl (by decide) rfl (by show _ < 286; omega) ?_
    refine g_ifle (n := 15) 61 rfl (by decide) (fun h1 => ?_) (fun h1 => ?_)
    ·
      have hv : fGive (I 125) 0 a b c = a := if_neg (Int32.not_lt.mpr h1)
      refine g_iload_n (n := 62) rfl rfl ?_
      refine g_ifne0 (n := 65) 70 rfl (by decide) ?_
      refine g_iload (n := 67) rfl rfl ?_
      refine g_goto 79 rfl (by decide) ?_
      refine g_iret (n := 80) rfl (fun h => nomatch h) ?_
      exact ⟨congrArg (fun z => some (Value.int z)) (by unfold fText; rw [if_pos rfl, hv] <;> rfl), (by first | exact mE.rfl' | exact mE_names.trans he), rfl⟩
    ·
      have hv : fGive (I 125) 0 a b c = (fW (fun i => I 125 (136 + 50 * 0 + i)) m (nI 0) (n3 a b c)).1 := by unfold fGive; rw [if_pos (Int32.not_le.mp h1), hm2, nI_clamp (by omega)]
      refine g_aload_n (n := 16) rfl rfl ?_
      refine g_getr (n := 19) (ci := 12) (j := 11) (b := 129) rfl (by decide +kernel) (by decide) (by decide) (by decide +kernel) ?_
      refine g_iconst (n := 20) (v := 0) rfl rfl ?_
      refine g_iload_n (n := 21) rfl rfl ?_
      refine g_iast (n := 22) (0) rfl (by decide) rfl (by show _ < 3; omega) ?_
      refine g_aload_n (n := 23) rfl rfl ?_
      refine g_getr (n := 26) (ci := 12) (j := 11) (b := 129) rfl (by decide +kernel) (by decide) (by decide) (by decide +kernel) ?_
      refine g_iconst (n := 27) (v := 1) rfl rfl ?_
      refine g_iload_n (n := 28) rfl rfl ?_
      refine g_iast (n := 29) (1) rfl (by decide) rfl (by show _ < 3; omega) ?_
      refine g_aload_n (n := 30) rfl rfl ?_
      refine g_getr (n := 33) (ci := 12) (j := 11) (b := 129) rfl (by decide +kernel) (by decide) (by decide) (by decide +kernel) ?_
      refine g_iconst (n := 34) (v := 2) rfl rfl ?_
      refine g_iload (n := 36) rfl rfl ?_
      refine g_iast (n := 37) (2) rfl (by decide) rfl (by show _ < 3; omega) ?_
      refine g_aload_n (n := 38) rfl rfl ?_
      refine g_sipush (n := 41) (v := 136) rfl rfl ?_
      refine g_bipush (n := 43) (v := 50) rfl rfl ?_
      refine g_iload_n (n := 44) rfl rfl ?_
      refine g_imulN (n := 45) (x := 50) (y := 0) rfl ?_
      refine g_iaddN (n := 46) (x := 136) (y := (50 * 0)) rfl ?_
      refine g_aload_n (n := 47) rfl rfl ?_
      refine g_getr (n := 50) (ci := 12) (j := 0) (b := 125) rfl (by decide +kernel) (by decide) (by decide) (by decide +kernel) ?_
      refine g_bipush (n := 52) (v := 114) rfl rfl ?_
      refine g_iload_n (n := 53) rfl rfl ?_
      refine g_iaddN (n := 54) (x := 114) (y := 0) rfl ?_
      refine g_iald (n := 55) ((114 + 0)) rfl (by decide) rfl (by show _ < 286; omega) ?_
      refine g_top (w := nI m) hm2 ?_
      refine g_iload_n (n := 56) rfl rfl ?_
      refine g_cv3 (n := 59) (t := 159) (ci := 12) rfl (by decide +kernel) (by decide +kernel) (by decide) (by decide) (by decide +kernel) (by rfl) (c_worked (base := 136 + 50 * 0) (n := m) (use := 0) (by omega) (by omega) (by omega)) (by omega) (g_W fun I1 _ he => ?_)
      rw [fW_names n3_eq]
      refine g_istore5 (n := 61) rfl rfl ?_
      refine g_iload_n (n := 62) rfl rfl ?_
      refine g_ifne0 (n := 65) 70 rfl (by decide) ?_
      refine g_iload (n := 67) rfl rfl ?_
      refine g_goto 79 rfl (by decide) ?_
      refine g_iret (n := 80) rfl (fun h => nomatch h) ?_
      exact ⟨congrArg (fun z => some (Value.int z)) (by unfold fText; rw [if_pos rfl, hv] <;> rfl), (by first | exact mE.rfl' | exact mE_names.trans he), rfl⟩
  · refine SP.of (h := 40) (t := 162) (q := (yX12_textGives, cX12_textGives, 6, (some .int), 12, 1207, mi_k162)) rfl (by decide) (show ¬ (6 : Nat) < 5 by decide) (fun d hd => ?_)
    show GG sc 12 false false mi_k162 d 0 [.ref 124, .int (nI 1), .int a, .int b, .int c, .null] [] I nm (qM (fText (I 125) 1 a b c) I nm)
    refine g_iload_n (n := 1) rfl rfl ?_
    refine g_istore5 (n := 3) rfl rfl ?_
    refine g_aload_n (n := 4) rfl rfl ?_
    refine g_getr (n := 7) (ci := 12) (j := 0) (b := 125) rfl (by decide +kernel) (by decide) (by decide) (by decide +kernel) ?_
    refine g_bipush (n := 9) (v := 114) rfl rfl ?_
    refine g_iload_n (n := 10) rfl rfl ?_
    refine g_iaddN (n := 11) (x := 114) (y := 1) rfl ?_
    refine g_iald (n := 12) ((114 + 1)) rfl (by decide) rfl (by show _ < 286; omega) ?_
    refine g_ifle (n := 15) 61 rfl (by decide) (fun h1 => ?_) (fun h1 => ?_)
    ·
      have hv : fGive (I 125) 1 a b c = a := if_neg (Int32.not_lt.mpr h1)
      refine g_iload_n (n := 62) rfl rfl ?_
      refine g_ifne1 (n := 65) 70 rfl (by decide) ?_
      refine g_iload (n := 72) rfl rfl ?_
      refine g_bipush (n := 74) (v := -99) rfl rfl ?_
      refine g_bipush (n := 76) (v := 99) rfl rfl ?_
      refine g_cs3 (n := 79) (t := 142) (x := (1208, 1209, 84)) rfl (by decide +kernel) (by decide +kernel) (by rfl) c_heldF (by omega) (g_E ?_)
      refine g_iret (n := 80) rfl (fun h => nomatch h) ?_
      exact ⟨congrArg (fun z => some (Value.int z)) (by unfold fText; rw [if_neg (by decide), hv] <;> rfl), (by first | exact mE.rfl' | exact mE_names.trans he), rfl⟩
    ·
      have hv : fGive (I 125) 1 a b c = (fW (fun i => I 125 (136 + 50 * 1 + i)) m (nI 1) (n3 a b c)).1 := by unfold fGive; rw [if_pos (Int32.not_le.mp h1), hm2, nI_clamp (by omega)]
      refine g_aload_n (n := 16) rfl rfl ?_
      refine g_getr (n := 19) (ci := 12) (j := 11) (b := 129) rfl (by decide +kernel) (by decide) (by decide) (by decide +kernel) ?_
      refine g_iconst (n := 20) (v := 0) rfl rfl ?_
      refine g_iload_n (n := 21) rfl rfl ?_
      refine g_iast (n := 22) (0) rfl (by decide) rfl (by show _ < 3; omega) ?_
      refine g_aload_n (n := 23) rfl rfl ?_
      refine g_getr (n := 26) (ci := 12) (j := 11) (b := 129) rfl (by decide +kernel) (by decide) (by decide) (by decide +kernel) ?_
      refine g_iconst (n := 27) (v := 1) rfl rfl ?_
      refine g_iload_n (n := 28) rfl rfl ?_
      refine g_iast (n := 29) (1) rfl (by decide) rfl (by show _ < 3; omega) ?_
      refine g_aload_n (n := 30) rfl rfl ?_
      refine g_getr (n := 33) (ci := 12) (j := 11) (b := 129) rfl (by decide +kernel) (by decide) (by decide) (by decide +kernel) ?_
      refine g_iconst (n := 34) (v := 2) rfl rfl ?_
      refine g_iload (n := 36) rfl rfl ?_
      refine g_iast (n := 37) (2) rfl (by decide) rfl (by show _ < 3; omega) ?_
      refine g_aload_n (n := 38) rfl rfl ?_
      refine g_sipush (n := 41) (v := 136) rfl rfl ?_
      refine g_bipush (n := 43) (v := 50) rfl rfl ?_
      refine g_iload_n (n := 44) rfl rfl ?_
      refine g_imulN (n := 45) (x := 50) (y := 1) rfl ?_
      refine g_iaddN (n := 46) (x := 136) (y := (50 * 1)) rfl ?_
      refine g_aload_n (n := 47) rfl rfl ?_
      refine g_getr (n := 50) (ci := 12) (j := 0) (b := 125) rfl (by decide +kernel) (by decide) (by decide) (by decide +kernel) ?_
      refine g_bipush (n := 52) (v := 114) rfl rfl ?_
      refine g_iload_n (n := 53) rfl rfl ?_
      refine g_iaddN (n := 54) (x := 114) (y := 1) rfl ?_
      refine g_iald (n := 55) ((114 + 1)) rfl (by decide) rfl (by show _ < 286; omega) ?_
      refine g_top (w := nI m) hm2 ?_
      refine g_iload_n (n := 56) rfl rfl ?_
      refine g_cv3 (n := 59) (t := 159) (ci := 12) rfl (by decide +kernel) (by decide +kernel) (by decide) (by decide) (by decide +kernel) (by rfl) (c_worked (base := 136 + 50 * 1) (n := m) (use := 1) (by omega) (by omega) (by omega)) (by omega) (g_W fun I1 _ he => ?_)
      rw [fW_names n3_eq]
      refine g_istore5 (n := 61) rfl rfl ?_
      refine g_iload_n (n := 62) rfl rfl ?_
      refine g_ifne1 (n := 65) 70 rfl (by decide) ?_
      refine g_iload (n := 72) rfl rfl ?_
      refine g_bipush (n := 74) (v := -99) rfl rfl ?_
      refine g_bipush (n := 76) (v := 99) rfl rfl ?_
      refine g_cs3 (n := 79) (t := 142) (x := (1208, 1209, 84)) rfl (by decide +kernel) (by decide +kernel) (by rfl) c_heldF (by omega) (g_E ?_)
      refine g_iret (n := 80) rfl (fun h => nomatch h) ?_
      exact ⟨congrArg (fun z => some (Value.int z)) (by unfold fText; rw [if_neg (by decide), hv] <;> rfl), (by first | exact mE.rfl' | exact mE_names.trans he), rfl⟩
def fRank (d : Nat → Int32) (g : Nat) : Int32 := fText d 0 (fLoad (fO d g 0) (fO d g 1)) (nI g) (fO d g 9)
theorem c_rankOf {sc : List Value} {nm : Nat}  {I : mg_I} {g : Nat} (hg : g < 8) (hk : fK (fO (I 125) g 0)) (hs : iR (I 125 114) 51) : SP sc 42 174 [.ref 124, .int (nI g)] I nm (qM (fRank (I 125) g) I nm) := by
  refine SP.of (h := 41) (t := 174) (q := (yX12_rankOf, cX12_rankOf, 2, (some .int), 12, 1279, mi_k174)) rfl (by decide) (show ¬ (2 : Nat) < 2 by decide) (fun d hd => ?_)
  show GG sc 12 false false mi_k174 d 0 [.ref 124, .int (nI g)] [] I nm (qM (fRank (I 125) g) I nm)
  refine g_aload_n (n := 1) rfl rfl ?_
  refine g_iconst (n := 2) (v := 0) rfl rfl ?_
  refine g_aload_n (n := 3) rfl rfl ?_
  refine g_iload_n (n := 4) rfl rfl ?_
  refine g_cv1 (n := 7) (t := 171) (ci := 12) rfl (by decide +kernel) (by decide +kernel) (by decide) (by decide) (by decide +kernel) (by rfl) (c_loadOf (g := g) (by omega) hk) (by omega) (g_E ?_)
  refine g_iload_n (n := 8) rfl rfl ?_
  refine g_aload_n (n := 9) rfl rfl ?_
  refine g_iload_n (n := 10) rfl rfl ?_
  refine g_bipush (n := 12) (v := 9) rfl rfl ?_
  refine g_cv2 (n := 15) (t := 145) (ci := 12) rfl (by decide +kernel) (by decide +kernel) (by decide) (by decide) (by decide +kernel) (by rfl) (c_of (g := g) (w := 9) (by omega) (by omega)) (by omega) (g_E ?_)
  refine g_cv4 (n := 18) (t := 162) (ci := 12) rfl (by decide +kernel) (by decide +kernel) (by decide) (by decide) (by decide +kernel) (by rfl) (c_textGives (use := 0) (by omega) hs) (by omega) (g_M fun I1 he => ?_)
  refine g_iret (n := 19) rfl (fun h => nomatch h) ?_
  exact ⟨rfl, he, rfl⟩
end
section
/-! the model's minute: its steps -/
def up (d : Nat → Int32) (j : Nat) (v : Int32) : Nat → Int32 := fun k => if k = j then v else d k
def mR (I : mg_I) (d : Nat → Int32) : mg_I := fun a j => if a = 125 then d j else I a j
theorem mR_125 {I : mg_I} {d : Nat → Int32} : mR I d 125 = d := rfl
theorem mR_self {I : mg_I} : mR I (I 125) = I := by
  funext a j
  unfold mR
  split
  next h => subst h; rfl
  · rfl
theorem mR_up {I : mg_I} {d : Nat → Int32} {j : Nat} {v : Int32} : mf_up (mR I d) 125 j v = mR I (up d j v) := by
  funext a k
  unfold mf_up mR up
  by_cases h1 : a = 125 <;> by_cases h2 : k = j <;> simp [h1, h2]
theorem mR_mE {I I' : mg_I} {d : Nat → Int32} (h : mE (mR I d) I') : ∃ J, I' = mR J d ∧ mE I J := by
  refine ⟨fun a j => if a = 125 then I 125 j else I' a j, ?_, ?_⟩
  · funext a j
    unfold mR
    split
    next h1 => subst h1; exact h 125 j (by omega)
    next h1 => exact (if_neg h1).symm
  · intro a j hx
    show (if a = 125 then I 125 j else I' a j) = I a j
    split
    next h1 => subst h1; rfl
    next h1 => exact (h a j hx).trans (if_neg h1)
theorem mE_mR {I J : mg_I} (h : mE I J) {d : Nat → Int32} : mE (mR I d) (mR J d) := by
  intro a j hx
  unfold mR
  split
  · rfl
  · exact h a j hx
abbrev gFace (d : Nat → Int32) (g : Nat) (y : Int32) (h : Nat) : Prop := fO d h 5 = 1 ∧ fO d h 6 = y ∧ fO d h 8 = 0 ∧ ¬ fFaces d h = fFaces d g
def fBit (g : Nat) : Int32 := 1 <<< (nI g &&& 31)
def fHome (d : Nat → Int32) (g : Nat) : Nat → Int32 :=
  up (up (up (up (up (up d (34 + 10 * g + 5) 0) (34 + 10 * g + 6) (-1)) (34 + 10 * g + 7) 0) (34 + 10 * g + 8) 0) (34 + 10 * g + 9) 0) 5 (up (up (up (up (up d (34 + 10 * g + 5) 0) (34 + 10 * g + 6) (-1)) (34 + 10 * g + 7) 0) (34 + 10 * g + 8) 0) (34 + 10 * g + 9) 0 5 &&& (fBit g ^^^ -1))
def fAbove (k : Int32) : Int32 := if 4 ≤ k then k - 3 else 0
def fAgainst (d : Nat → Int32) (g : Nat) (y : Int32) : Int32 := fFirst (gFace d g y) (fN d) 9 0
theorem c_sendHome {sc : List Value} {nm : Nat} {I : mg_I} {d0 : Nat → Int32} {g : Nat} (hg : g < 8) : SP sc 2 175 [.ref 124, .int (nI g)] (mR I d0) nm (qZ (mR I (fHome d0 g)) nm) := by
  refine SP.of (h := 1) (t := 175) (q := (yX12_sendHome, cX12_sendHome, 2, none, 12, 1258, mi_k175)) rfl (by decide) (show ¬ (2 : Nat) < 2 by decide) (fun d hd => ?_)
  show GG sc 12 false false mi_k175 d 0 [.ref 124, .int (nI g)] [] (mR I d0) nm (qZ (mR I (fHome d0 g)) nm)
  refine g_aload_n (n := 1) rfl rfl ?_
  refine g_iload_n (n := 2) rfl rfl ?_
  refine g_iconst (n := 3) (v := 5) rfl rfl ?_
  refine g_iconst (n := 4) (v := 0) rfl rfl ?_
  refine g_cv3 (n := 7) (t := 146) (ci := 12) rfl (by decide +kernel) (by decide +kernel) (by decide) (by decide) (by decide +kernel) (by rfl) (c_sets (g := g) (w := 5) (by omega) (by omega)) (by omega) (g_Z ?_)
  try simp only [mR_125, mR_up]
  refine g_aload_n (n := 8) rfl rfl ?_
  refine g_iload_n (n := 9) rfl rfl ?_
  refine g_bipush (n := 11) (v := 6) rfl rfl ?_
  refine g_iconst (n := 12) (v := -1) rfl rfl ?_
  refine g_cv3 (n := 15) (t := 146) (ci := 12) rfl (by decide +kernel) (by decide +kernel) (by decide) (by decide) (by decide +kernel) (by rfl) (c_sets (g := g) (w := 6) (by omega) (by omega)) (by omega) (g_Z ?_)
  try simp only [mR_125, mR_up]
  refine g_aload_n (n := 16) rfl rfl ?_
  refine g_iload_n (n := 17) rfl rfl ?_
  refine g_bipush (n := 19) (v := 7) rfl rfl ?_
  refine g_iconst (n := 20) (v := 0) rfl rfl ?_
  refine g_cv3 (n := 23) (t := 146) (ci := 12) rfl (by decide +kernel) (by decide +kernel) (by decide) (by decide) (by decide +kernel) (by rfl) (c_sets (g := g) (w := 7) (by omega) (by omega)) (by omega) (g_Z ?_)
  try simp only [mR_125, mR_up]
  refine g_aload_n (n := 24) rfl rfl ?_
  refine g_iload_n (n := 25) rfl rfl ?_
  refine g_bipush (n := 27) (v := 8) rfl rfl ?_
  refine g_iconst (n := 28) (v := 0) rfl rfl ?_
  refine g_cv3 (n := 31) (t := 146) (ci := 12) rfl (by decide +kernel) (by decide +kernel) (by decide) (by decide) (by decide +kernel) (by rfl) (c_sets (g := g) (w := 8) (by omega) (by omega)) (by omega) (g_Z ?_)
  try simp only [mR_125, mR_up]
  refine g_aload_n (n := 32) rfl rfl ?_
  refine g_iload_n (n := 33) rfl rfl ?_
  refine g_bipush (n := 35) (v := 9) rfl rfl ?_
  refine g_iconst (n := 36) (v := 0) rfl rfl ?_
  refine g_cv3 (n := 39) (t := 146) (ci := 12) rfl (by decide +kernel) (by decide +kernel) (by decide) (by decide) (by decide +kernel) (by rfl) (c_sets (g := g) (w := 9) (by omega) (by omega)) (by omega) (g_Z ?_)
  try simp only [mR_125, mR_up]
  refine g_aload_n (n := 40) rfl rfl ?_
  refine g_getr (n := 43) (ci := 12) (j := 0) (b := 125) rfl (by decide +kernel) (by decide) (by decide) (by decide +kernel) ?_
  refine g_iconst (n := 44) (v := 5) rfl rfl ?_
  refine g_dup2 (n := 45) rfl ?_
  refine g_iald (n := 46) (5) rfl (by decide) rfl (by show _ < 286; omega) ?_
  try simp only [mR_125, mR_up]
  refine g_iconst (n := 47) (v := 1) rfl rfl ?_
  refine g_iload_n (n := 48) rfl rfl ?_
  refine g_ishl (n := 49) rfl ?_
  refine g_iconst (n := 50) (v := -1) rfl rfl ?_
  refine g_ixor (n := 51) rfl ?_
  refine g_iand (n := 52) rfl ?_
  refine g_iast (n := 53) (5) rfl (by decide) rfl (by show _ < 286; omega) ?_
  try simp only [mR_125, mR_up]
  refine g_vret (n := 54) rfl ?_
  exact ⟨rfl, rfl, rfl⟩
theorem c_above {sc : List Value} {nm : Nat} {I : mg_I} {d0 : Nat → Int32} {k : Int32} : SP sc 1 179 [.int k] (mR I d0) nm (qE (fAbove k) (mR I d0) nm) := by
  refine SP.of (h := 0) (t := 179) (q := (yX12_above, cX12_above, 1, (some .int), 12, 1299, mi_k179)) rfl (by decide) (show ¬ (1 : Nat) < 1 by decide) (fun d hd => ?_)
  show GG sc 12 false false mi_k179 d 0 [.int k] [] (mR I d0) nm (qE (fAbove k) (mR I d0) nm)
  refine g_iload_n (n := 1) rfl rfl ?_
  refine g_iconst (n := 2) (v := 4) rfl rfl ?_
  refine g_icge (n := 5) 9 rfl (by decide) (fun h1 => ?_) (fun h1 => ?_)
  ·
    refine g_iload_n (n := 10) rfl rfl ?_
    refine g_iconst (n := 11) (v := 3) rfl rfl ?_
    refine g_isub (n := 12) rfl ?_
    refine g_iret (n := 13) rfl (fun h => nomatch h) ?_
    unfold fAbove; first | exact ⟨congrArg (fun z => some (Value.int z)) (if_pos h1).symm, rfl, rfl⟩ | exact ⟨congrArg (fun z => some (Value.int z)) (if_neg h1).symm, rfl, rfl⟩
  ·
    refine g_iconst (n := 6) (v := 0) rfl rfl ?_
    refine g_goto 12 rfl (by decide) ?_
    refine g_iret (n := 13) rfl (fun h => nomatch h) ?_
    unfold fAbove; first | exact ⟨congrArg (fun z => some (Value.int z)) (if_pos h1).symm, rfl, rfl⟩ | exact ⟨congrArg (fun z => some (Value.int z)) (if_neg h1).symm, rfl, rfl⟩
theorem c_against {sc : List Value} {nm : Nat} {I : mg_I} {d0 : Nat → Int32} {g : Nat} {y : Int32} (hg : g < 8) (hN : iR (d0 0) 9) : SP sc 3 184 [.ref 124, .int (nI g), .int y] (mR I d0) nm (qE (fAgainst d0 g y) (mR I d0) nm) := by
  refine SP.of (h := 2) (t := 184) (q := (yX12_against, cX12_against, 4, (some .int), 12, 1341, mi_k184)) rfl (by decide) (show ¬ (4 : Nat) < 3 by decide) (fun d hd => ?_)
  show GG sc 12 false false mi_k184 d 0 [.ref 124, .int (nI g), .int y, .null] [] (mR I d0) nm (qE (fAgainst d0 g y) (mR I d0) nm)
  have hn := (fN_eq hN).2
  have H : ∀ (m k : Nat), k ≤ fN d0 → fN d0 < m + k → GG sc 12 false false mi_k184 d 2 [.ref 124, .int (nI g), .int y, .int (nI k)] [] (mR I d0) nm (qE (fFirst (gFace d0 g y) (fN d0) m k) (mR I d0) nm) := by
    intro m
    induction m with
    | zero => intro k hk hm; omega
    | succ m ih =>
      intro k hk hm
      rw [fFirst]
      refine g_iload_n (n := 3) rfl rfl ?_
      refine g_aload_n (n := 4) rfl rfl ?_
      refine g_getr (n := 7) (ci := 12) (j := 0) (b := 125) rfl (by decide +kernel) (by decide) (by decide) (by decide +kernel) ?_
      refine g_iconst (n := 8) (v := 0) rfl rfl ?_
      refine g_iald (n := 9) (0) rfl (by decide) rfl (by show _ < 286; omega) ?_
      try simp only [mR_125, mR_up]
      refine g_icge (n := 12) 64 rfl (by decide) (fun h1 => ?_) (fun h1 => ?_)
      ·
        have hk2 : fN d0 ≤ k := fN_le (fN_eq hN).1 (by omega) (by omega) h1
        refine g_iconst (n := 65) (v := -1) rfl rfl ?_
        refine g_iret (n := 66) rfl (fun h => nomatch h) ?_
        rw [if_pos hk2]; exact ⟨rfl, rfl, rfl⟩
      ·
        have hk2 : k < fN d0 := fN_nle (fN_eq hN).1 (by omega) (by omega) h1
        rw [if_neg (by omega)]
        refine g_aload_n (n := 13) rfl rfl ?_
        refine g_iload_n (n := 14) rfl rfl ?_
        refine g_iconst (n := 15) (v := 5) rfl rfl ?_
        refine g_cv2 (n := 18) (t := 145) (ci := 12) rfl (by decide +kernel) (by decide +kernel) (by decide) (by decide) (by decide +kernel) (by rfl) (c_of (g := k) (w := 5) (by omega) (by omega)) (by omega) (g_E ?_)
        try simp only [mR_125, mR_up]
        refine g_iconst (n := 19) (v := 1) rfl rfl ?_
        refine g_icne (n := 22) 58 rfl (by decide) (fun h2 => ?_) (fun h2 => ?_)
        ·
          refine g_iinc3 (n := 61) rfl rfl (nI_inc _) ?_
          refine g_goto 2 rfl (by decide) ?_
          rw [if_neg (show ¬ gFace d0 g y k from fun z => by first | exact absurd z.1 (by assumption) | exact absurd z.2.1 (by assumption) | exact absurd z.2.2.1 (by assumption) | exact absurd (by assumption) z.2.2.2)]
          exact ih (k + 1) (by omega) (by omega)
        ·
          refine g_aload_n (n := 23) rfl rfl ?_
          refine g_iload_n (n := 24) rfl rfl ?_
          refine g_bipush (n := 26) (v := 6) rfl rfl ?_
          refine g_cv2 (n := 29) (t := 145) (ci := 12) rfl (by decide +kernel) (by decide +kernel) (by decide) (by decide) (by decide +kernel) (by rfl) (c_of (g := k) (w := 6) (by omega) (by omega)) (by omega) (g_E ?_)
          try simp only [mR_125, mR_up]
          refine g_iload_n (n := 30) rfl rfl ?_
          refine g_icne (n := 33) 58 rfl (by decide) (fun h3 => ?_) (fun h3 => ?_)
          ·
            refine g_iinc3 (n := 61) rfl rfl (nI_inc _) ?_
            refine g_goto 2 rfl (by decide) ?_
            rw [if_neg (show ¬ gFace d0 g y k from fun z => by first | exact absurd z.1 (by assumption) | exact absurd z.2.1 (by assumption) | exact absurd z.2.2.1 (by assumption) | exact absurd (by assumption) z.2.2.2)]
            exact ih (k + 1) (by omega) (by omega)
          ·
            refine g_aload_n (n := 34) rfl rfl ?_
            refine g_iload_n (n := 35) rfl rfl ?_
            refine g_bipush (n := 37) (v := 8) rfl rfl ?_
            refine g_cv2 (n := 40) (t := 145) (ci := 12) rfl (by decide +kernel) (by decide +kernel) (by decide) (by decide) (by decide +kernel) (by rfl) (c_of (g := k) (w := 8) (by omega) (by omega)) (by omega) (g_E ?_)
            try simp only [mR_125, mR_up]
            refine g_ifne (n := 43) 58 rfl (by decide) (fun h4 => ?_) (fun h4 => ?_)
            ·
              refine g_iinc3 (n := 61) rfl rfl (nI_inc _) ?_
              refine g_goto 2 rfl (by decide) ?_
              rw [if_neg (show ¬ gFace d0 g y k from fun z => by first | exact absurd z.1 (by assumption) | exact absurd z.2.1 (by assumption) | exact absurd z.2.2.1 (by assumption) | exact absurd (by assumption) z.2.2.2)]
              exact ih (k + 1) (by omega) (by omega)
            ·
              refine g_aload_n (n := 44) rfl rfl ?_
              refine g_iload_n (n := 45) rfl rfl ?_
              refine g_cv1 (n := 48) (t := 183) (ci := 12) rfl (by decide +kernel) (by decide +kernel) (by decide) (by decide) (by decide +kernel) (by rfl) (c_faces (g := k) (by omega)) (by omega) (g_E ?_)
              try simp only [mR_125, mR_up]
              refine g_aload_n (n := 49) rfl rfl ?_
              refine g_iload_n (n := 50) rfl rfl ?_
              refine g_cv1 (n := 53) (t := 183) (ci := 12) rfl (by decide +kernel) (by decide +kernel) (by decide) (by decide) (by decide +kernel) (by rfl) (c_faces (g := g) (by omega)) (by omega) (g_E ?_)
              try simp only [mR_125, mR_up]
              refine g_iceq (n := 56) 58 rfl (by decide) (fun h5 => ?_) (fun h5 => ?_)
              ·
                refine g_iinc3 (n := 61) rfl rfl (nI_inc _) ?_
                refine g_goto 2 rfl (by decide) ?_
                rw [if_neg (show ¬ gFace d0 g y k from fun z => by first | exact absurd z.1 (by assumption) | exact absurd z.2.1 (by assumption) | exact absurd z.2.2.1 (by assumption) | exact absurd (by assumption) z.2.2.2)]
                exact ih (k + 1) (by omega) (by omega)
              ·
                refine g_iload_n (n := 57) rfl rfl ?_
                refine g_iret (n := 58) rfl (fun h => nomatch h) ?_
                rw [if_pos (show gFace d0 g y k from ⟨by assumption, by assumption, by assumption, by assumption⟩)]; exact ⟨rfl, rfl, rfl⟩
  refine g_iconst (n := 1) (v := 0) rfl rfl ?_
  refine g_istore_n3 (n := 2) rfl rfl ?_
  exact H 9 0 (by omega) (by omega)
/-- no answer; the memory but for what texts leave behind -/
def qN (I : mg_I) (nm : Nat) : Option Value → mg_I → Nat → Prop := fun r I' nm' => r = none ∧ mE I I' ∧ nm' = nm
theorem g_N {sc : List Value} {own : Nat} {ini rz : Bool} {code : List (Nat × Instr)} {d n : Nat} {ls : List Value} {I : mg_I} {nm0 : Nat} {Q : Option Value → mg_I → Nat → Prop} {r : List Value} (k : ∀ I', mE I I' → GG sc own ini rz code d n ls r I' nm0 Q) : ∀ a I2 nm2, qN I nm0 a I2 nm2 → GG sc own ini rz code d n ls (a.toList ++ r) I2 nm2 Q := by
  rintro a I2 nm2 ⟨rfl, h2, rfl⟩
  exact k I2 h2
def fMeets (d : Nat → Int32) (g h : Nat) : Nat → Int32 :=
  if fRank d h < fRank d g ∨ (fRank d g = fRank d h ∧ g < h) then d
  else if fBack (fO d g 0) (fO d g 1) = 0 then up d 5 (d 5 ||| fBit g)
  else up (up (up d (34 + 10 * g + 8) 1) (34 + 10 * g + 9) (fO (up d (34 + 10 * g + 8) 1) g 9 + 1)) 3 (fHeld (up (up d (34 + 10 * g + 8) 1) (34 + 10 * g + 9) (fO (up d (34 + 10 * g + 8) 1) g 9 + 1) 3 + 1) 0 9999)
theorem c_meets {sc : List Value} {nm : Nat} {I : mg_I} {d0 : Nat → Int32} {g h : Nat} (hg : g < 8) (hh : h < 8) (hkg : fK (fO d0 g 0)) (hkh : fK (fO d0 h 0)) (hs : iR (d0 114) 51) : SP sc 44 186 [.ref 124, .int (nI g), .int (nI h)] (mR I d0) nm (qN (mR I (fMeets d0 g h)) nm) := by
  refine SP.of (h := 43) (t := 186) (q := (yX12_meets, cX12_meets, 5, none, 12, 1351, mi_k186)) rfl (by decide) (show ¬ (5 : Nat) < 3 by decide) (fun d hd => ?_)
  show GG sc 12 false false mi_k186 d 0 [.ref 124, .int (nI g), .int (nI h), .null, .null] [] (mR I d0) nm (qN (mR I (fMeets d0 g h)) nm)
  refine g_aload_n (n := 1) rfl rfl ?_
  refine g_iload_n (n := 2) rfl rfl ?_
  refine g_cv1 (n := 5) (t := 174) (ci := 12) rfl (by decide +kernel) (by decide +kernel) (by decide) (by decide) (by decide +kernel) (by rfl) (c_rankOf (g := g) (by omega) hkg hs) (by omega) (g_M fun I1 he => ?_)
  obtain ⟨J1, rfl, hJ1⟩ := mR_mE he
  clear he
  simp only [mR_125]
  refine g_istore_n3 (n := 6) rfl rfl ?_
  refine g_aload_n (n := 7) rfl rfl ?_
  refine g_iload_n (n := 8) rfl rfl ?_
  refine g_cv1 (n := 11) (t := 174) (ci := 12) rfl (by decide +kernel) (by decide +kernel) (by decide) (by decide) (by decide +kernel) (by rfl) (c_rankOf (g := h) (by omega) hkh hs) (by omega) (g_M fun I1 he => ?_)
  obtain ⟨J2, rfl, hJ2⟩ := mR_mE he
  clear he
  simp only [mR_125]
  refine g_istore4 (n := 13) rfl rfl ?_
  refine g_iload_n (n := 14) rfl rfl ?_
  refine g_iload (n := 16) rfl rfl ?_
  refine g_icgt (n := 19) 30 rfl (by decide) (fun h1 => ?_) (fun h1 => ?_)
  ·
    have hv : fMeets d0 g h = d0 := if_pos (Or.inl h1)
    refine g_vret (n := 31) rfl ?_
    rw [hv]; exact ⟨rfl, mE_mR (hJ1.trans hJ2), rfl⟩
  ·
    refine g_iload_n (n := 20) rfl rfl ?_
    refine g_iload (n := 22) rfl rfl ?_
    refine g_icne (n := 25) 31 rfl (by decide) (fun h2 => ?_) (fun h2 => ?_)
    ·
      have hc : ¬ (fRank d0 h < fRank d0 g ∨ (fRank d0 g = fRank d0 h ∧ g < h)) := fun z => z.elim h1 (fun y => h2 y.1)
      refine g_aload_n (n := 32) rfl rfl ?_
      refine g_iload_n (n := 33) rfl rfl ?_
      refine g_cv1 (n := 36) (t := 172) (ci := 12) rfl (by decide +kernel) (by decide +kernel) (by decide) (by decide) (by decide +kernel) (by rfl) (c_canBack (g := g) (by omega)) (by omega) (g_E ?_)
      try simp only [mR_125, mR_up]
      refine g_ifne (n := 39) 52 rfl (by decide) (fun h3 => ?_) (fun h3 => ?_)
      ·
        have hb := h3
        refine g_aload_n (n := 53) rfl rfl ?_
        refine g_iload_n (n := 54) rfl rfl ?_
        refine g_bipush (n := 56) (v := 8) rfl rfl ?_
        refine g_iconst (n := 57) (v := 1) rfl rfl ?_
        refine g_cv3 (n := 60) (t := 146) (ci := 12) rfl (by decide +kernel) (by decide +kernel) (by decide) (by decide) (by decide +kernel) (by rfl) (c_sets (g := g) (w := 8) (by omega) (by omega)) (by omega) (g_Z ?_)
        try simp only [mR_125, mR_up]
        refine g_aload_n (n := 61) rfl rfl ?_
        refine g_iload_n (n := 62) rfl rfl ?_
        refine g_bipush (n := 64) (v := 9) rfl rfl ?_
        refine g_aload_n (n := 65) rfl rfl ?_
        refine g_iload_n (n := 66) rfl rfl ?_
        refine g_bipush (n := 68) (v := 9) rfl rfl ?_
        refine g_cv2 (n := 71) (t := 145) (ci := 12) rfl (by decide +kernel) (by decide +kernel) (by decide) (by decide) (by decide +kernel) (by rfl) (c_of (g := g) (w := 9) (by omega) (by omega)) (by omega) (g_E ?_)
        try simp only [mR_125, mR_up]
        refine g_iconst (n := 72) (v := 1) rfl rfl ?_
        refine g_iadd (n := 73) rfl ?_
        refine g_cv3 (n := 76) (t := 146) (ci := 12) rfl (by decide +kernel) (by decide +kernel) (by decide) (by decide) (by decide +kernel) (by rfl) (c_sets (g := g) (w := 9) (by omega) (by omega)) (by omega) (g_Z ?_)
        try simp only [mR_125, mR_up]
        refine g_aload_n (n := 77) rfl rfl ?_
        refine g_getr (n := 80) (ci := 12) (j := 0) (b := 125) rfl (by decide +kernel) (by decide) (by decide) (by decide +kernel) ?_
        refine g_iconst (n := 81) (v := 3) rfl rfl ?_
        refine g_aload_n (n := 82) rfl rfl ?_
        refine g_getr (n := 85) (ci := 12) (j := 0) (b := 125) rfl (by decide +kernel) (by decide) (by decide) (by decide +kernel) ?_
        refine g_iconst (n := 86) (v := 3) rfl rfl ?_
        refine g_iald (n := 87) (3) rfl (by decide) rfl (by show _ < 286; omega) ?_
        try simp only [mR_125, mR_up]
        refine g_iconst (n := 88) (v := 1) rfl rfl ?_
        refine g_iadd (n := 89) rfl ?_
        refine g_iconst (n := 90) (v := 0) rfl rfl ?_
        refine g_sipush (n := 93) (v := 9999) rfl rfl ?_
        refine g_cs3 (n := 96) (t := 142) (x := (1208, 1209, 84)) rfl (by decide +kernel) (by decide +kernel) (by rfl) c_heldF (by omega) (g_E ?_)
        try simp only [mR_125, mR_up]
        refine g_iast (n := 97) (3) rfl (by decide) rfl (by show _ < 286; omega) ?_
        try simp only [mR_125, mR_up]
        refine g_vret (n := 98) rfl ?_
        refine ⟨rfl, ?_, rfl⟩; unfold fMeets; rw [if_neg hc, if_neg hb]; exact mE_mR (hJ1.trans hJ2)
      ·
        have hb := h3
        refine g_aload_n (n := 40) rfl rfl ?_
        refine g_getr (n := 43) (ci := 12) (j := 0) (b := 125) rfl (by decide +kernel) (by decide) (by decide) (by decide +kernel) ?_
        refine g_iconst (n := 44) (v := 5) rfl rfl ?_
        refine g_dup2 (n := 45) rfl ?_
        refine g_iald (n := 46) (5) rfl (by decide) rfl (by show _ < 286; omega) ?_
        try simp only [mR_125, mR_up]
        refine g_iconst (n := 47) (v := 1) rfl rfl ?_
        refine g_iload_n (n := 48) rfl rfl ?_
        refine g_ishl (n := 49) rfl ?_
        refine g_ior (n := 50) rfl ?_
        refine g_iast (n := 51) (5) rfl (by decide) rfl (by show _ < 286; omega) ?_
        try simp only [mR_125, mR_up]
        refine g_vret (n := 52) rfl ?_
        refine ⟨rfl, ?_, rfl⟩; unfold fMeets; rw [if_neg hc, if_pos hb]; exact mE_mR (hJ1.trans hJ2)
    ·
      refine g_iload_n (n := 26) rfl rfl ?_
      refine g_iload_n (n := 27) rfl rfl ?_
      refine g_icge (n := 30) 31 rfl (by decide) (fun h4 => ?_) (fun h4 => ?_)
      ·
        have hc : ¬ (fRank d0 h < fRank d0 g ∨ (fRank d0 g = fRank d0 h ∧ g < h)) := fun z => z.elim h1 (fun y => absurd (fN_le rfl (by omega) (by omega) h4) (by omega))
        refine g_aload_n (n := 32) rfl rfl ?_
        refine g_iload_n (n := 33) rfl rfl ?_
        refine g_cv1 (n := 36) (t := 172) (ci := 12) rfl (by decide +kernel) (by decide +kernel) (by decide) (by decide) (by decide +kernel) (by rfl) (c_canBack (g := g) (by omega)) (by omega) (g_E ?_)
        try simp only [mR_125, mR_up]
        refine g_ifne (n := 39) 52 rfl (by decide) (fun h5 => ?_) (fun h5 => ?_)
        ·
          have hb := h5
          refine g_aload_n (n := 53) rfl rfl ?_
          refine g_iload_n (n := 54) rfl rfl ?_
          refine g_bipush (n := 56) (v := 8) rfl rfl ?_
          refine g_iconst (n := 57) (v := 1) rfl rfl ?_
          refine g_cv3 (n := 60) (t := 146) (ci := 12) rfl (by decide +kernel) (by decide +kernel) (by decide) (by decide) (by decide +kernel) (by rfl) (c_sets (g := g) (w := 8) (by omega) (by omega)) (by omega) (g_Z ?_)
          try simp only [mR_125, mR_up]
          refine g_aload_n (n := 61) rfl rfl ?_
          refine g_iload_n (n := 62) rfl rfl ?_
          refine g_bipush (n := 64) (v := 9) rfl rfl ?_
          refine g_aload_n (n := 65) rfl rfl ?_
          refine g_iload_n (n := 66) rfl rfl ?_
          refine g_bipush (n := 68) (v := 9) rfl rfl ?_
          refine g_cv2 (n := 71) (t := 145) (ci := 12) rfl (by decide +kernel) (by decide +kernel) (by decide) (by decide) (by decide +kernel) (by rfl) (c_of (g := g) (w := 9) (by omega) (by omega)) (by omega) (g_E ?_)
          try simp only [mR_125, mR_up]
          refine g_iconst (n := 72) (v := 1) rfl rfl ?_
          refine g_iadd (n := 73) rfl ?_
          refine g_cv3 (n := 76) (t := 146) (ci := 12) rfl (by decide +kernel) (by decide +kernel) (by decide) (by decide) (by decide +kernel) (by rfl) (c_sets (g := g) (w := 9) (by omega) (by omega)) (by omega) (g_Z ?_)
          try simp only [mR_125, mR_up]
          refine g_aload_n (n := 77) rfl rfl ?_
          refine g_getr (n := 80) (ci := 12) (j := 0) (b := 125) rfl (by decide +kernel) (by decide) (by decide) (by decide +kernel) ?_
          refine g_iconst (n := 81) (v := 3) rfl rfl ?_
          refine g_aload_n (n := 82) rfl rfl ?_
          refine g_getr (n := 85) (ci := 12) (j := 0) (b := 125) rfl (by decide +kernel) (by decide) (by decide) (by decide +kernel) ?_
          refine g_iconst (n := 86) (v := 3) rfl rfl ?_
          refine g_iald (n := 87) (3) rfl (by decide) rfl (by show _ < 286; omega) ?_
          try simp only [mR_125, mR_up]
          refine g_iconst (n := 88) (v := 1) rfl rfl ?_
          refine g_iadd (n := 89) rfl ?_
          refine g_iconst (n := 90) (v := 0) rfl rfl ?_
          refine g_sipush (n := 93) (v := 9999) rfl rfl ?_
          refine g_cs3 (n := 96) (t := 142) (x := (1208, 1209, 84)) rfl (by decide +kernel) (by decide +kernel) (by rfl) c_heldF (by omega) (g_E ?_)
          try simp only [mR_125, mR_up]
          refine g_iast (n := 97) (3) rfl (by decide) rfl (by show _ < 286; omega) ?_
          try simp only [mR_125, mR_up]
          refine g_vret (n := 98) rfl ?_
          refine ⟨rfl, ?_, rfl⟩; unfold fMeets; rw [if_neg hc, if_neg hb]; exact mE_mR (hJ1.trans hJ2)
        ·
          have hb := h5
          refine g_aload_n (n := 40) rfl rfl ?_
          refine g_getr (n := 43) (ci := 12) (j := 0) (b := 125) rfl (by decide +kernel) (by decide) (by decide) (by decide +kernel) ?_
          refine g_iconst (n := 44) (v := 5) rfl rfl ?_
          refine g_dup2 (n := 45) rfl ?_
          refine g_iald (n := 46) (5) rfl (by decide) rfl (by show _ < 286; omega) ?_
          try simp only [mR_125, mR_up]
          refine g_iconst (n := 47) (v := 1) rfl rfl ?_
          refine g_iload_n (n := 48) rfl rfl ?_
          refine g_ishl (n := 49) rfl ?_
          refine g_ior (n := 50) rfl ?_
          refine g_iast (n := 51) (5) rfl (by decide) rfl (by show _ < 286; omega) ?_
          try simp only [mR_125, mR_up]
          refine g_vret (n := 52) rfl ?_
          refine ⟨rfl, ?_, rfl⟩; unfold fMeets; rw [if_neg hc, if_pos hb]; exact mE_mR (hJ1.trans hJ2)
      ·
        have hv : fMeets d0 g h = d0 := if_pos (Or.inr ⟨h2, fN_nle rfl (by omega) (by omega) h4⟩)
        refine g_vret (n := 31) rfl ?_
        rw [hv]; exact ⟨rfl, mE_mR (hJ1.trans hJ2), rfl⟩
theorem fO_up {d : Nat → Int32} {g w j : Nat} {v : Int32} (h : 34 + 10 * g + w ≠ j) : fO (up d j v) g w = fO d g w := if_neg h
theorem up_ne {d : Nat → Int32} {k j : Nat} {v : Int32} (h : k ≠ j) : up d j v k = d k := if_neg h
theorem up_at {d : Nat → Int32} {j : Nat} {v : Int32} : up d j v j = v := if_pos rfl
def fC1 (d : Nat → Int32) (g y : Nat) : Nat → Int32 := up (up d (34 + 10 * g + 6) (nI y)) (34 + 10 * g + 7) (fPace (fO d g 0) (fO d g 1) - 1)
def fC2 (d : Nat → Int32) (g y : Nat) : Nat → Int32 := up (fC1 d g y) (34 + 10 * g + 8) 0
def fComes (d : Nat → Int32) (g y : Nat) : Nat → Int32 := if 1 < fC1 d g y (10 + y) then up (fC2 d g y) 2 (fHeld (fC2 d g y 2 + fText (fC2 d g y) 1 (fLoad (fO (fC2 d g y) g 0) (fO (fC2 d g y) g 1)) (fBefore (fC2 d g y) y) (fC2 d g y 1)) (-99999) 99999) else fC1 d g y
theorem fC2_fO {d : Nat → Int32} {g y w : Nat} (h : w < 6) : fO (fC2 d g y) g w = fO d g w := by
  unfold fC2 fC1
  rw [fO_up (by omega), fO_up (by omega), fO_up (by omega)]
theorem fC2_hi {d : Nat → Int32} {g y k : Nat} (hg : g < 8) (h : 114 ≤ k) : fC2 d g y k = d k := by
  unfold fC2 fC1
  rw [up_ne (by omega), up_ne (by omega), up_ne (by omega)]
theorem c_comes {sc : List Value} {nm : Nat} {I : mg_I} {d0 : Nat → Int32} {g y : Nat} (hg : g < 8) (hy : y < 24) (hk : fK (fO d0 g 0)) (hs : iR (d0 115) 51) : SP sc 43 187 [.ref 124, .int (nI g), .int (nI y)] (mR I d0) nm (qN (mR I (fComes d0 g y)) nm) := by
  refine SP.of (h := 42) (t := 187) (q := (yX12_comes, cX12_comes, 3, none, 12, 1345, mi_k187)) rfl (by decide) (show ¬ (3 : Nat) < 3 by decide) (fun d hd => ?_)
  show GG sc 12 false false mi_k187 d 0 [.ref 124, .int (nI g), .int (nI y)] [] (mR I d0) nm (qN (mR I (fComes d0 g y)) nm)
  refine g_aload_n (n := 1) rfl rfl ?_
  refine g_iload_n (n := 2) rfl rfl ?_
  refine g_bipush (n := 4) (v := 6) rfl rfl ?_
  refine g_iload_n (n := 5) rfl rfl ?_
  refine g_cv3 (n := 8) (t := 146) (ci := 12) rfl (by decide +kernel) (by decide +kernel) (by decide) (by decide) (by decide +kernel) (by rfl) (c_sets (g := g) (w := 6) (by omega) (by omega)) (by omega) (g_Z ?_)
  try simp only [mR_125, mR_up]
  refine g_aload_n (n := 9) rfl rfl ?_
  refine g_iload_n (n := 10) rfl rfl ?_
  refine g_bipush (n := 12) (v := 7) rfl rfl ?_
  refine g_aload_n (n := 13) rfl rfl ?_
  refine g_iload_n (n := 14) rfl rfl ?_
  refine g_cv1 (n := 17) (t := 170) (ci := 12) rfl (by decide +kernel) (by decide +kernel) (by decide) (by decide) (by decide +kernel) (by rfl) (c_paceOf (g := g) (by omega) (by rw [mR_125, fO_up (by omega)]; exact hk)) (by omega) (g_E ?_)
  refine g_top (w := fPace (fO d0 g 0) (fO d0 g 1)) (by rw [mR_125, fO_up (by omega), fO_up (by omega)]) ?_
  refine g_iconst (n := 18) (v := 1) rfl rfl ?_
  refine g_isub (n := 19) rfl ?_
  refine g_cv3 (n := 22) (t := 146) (ci := 12) rfl (by decide +kernel) (by decide +kernel) (by decide) (by decide) (by decide +kernel) (by rfl) (c_sets (g := g) (w := 7) (by omega) (by omega)) (by omega) (g_Z ?_)
  try simp only [mR_125, mR_up]
  rw [show up (up d0 (34 + 10 * g + 6) (nI y)) (34 + 10 * g + 7) (fPace (fO d0 g 0) (fO d0 g 1) - 1) = fC1 d0 g y from rfl]
  refine g_aload_n (n := 23) rfl rfl ?_
  refine g_iload_n (n := 24) rfl rfl ?_
  refine g_cv1 (n := 27) (t := 164) (ci := 12) rfl (by decide +kernel) (by decide +kernel) (by decide) (by decide) (by decide +kernel) (by rfl) (c_isLedge (y := y) (by omega)) (by omega) (g_E ?_)
  try simp only [mR_125, mR_up]
  refine g_split (fun h1 => ?_) (fun h1 => ?_)
  ·
    refine g_ifeq1 (n := 30) 79 rfl (by decide) ?_
    have hb := h1
    refine g_aload_n (n := 31) rfl rfl ?_
    refine g_iload_n (n := 32) rfl rfl ?_
    refine g_bipush (n := 34) (v := 8) rfl rfl ?_
    refine g_iconst (n := 35) (v := 0) rfl rfl ?_
    refine g_cv3 (n := 38) (t := 146) (ci := 12) rfl (by decide +kernel) (by decide +kernel) (by decide) (by decide) (by decide +kernel) (by rfl) (c_sets (g := g) (w := 8) (by omega) (by omega)) (by omega) (g_Z ?_)
    try simp only [mR_125, mR_up]
    rw [show up (fC1 d0 g y) (34 + 10 * g + 8) 0 = fC2 d0 g y from rfl]
    refine g_aload_n (n := 39) rfl rfl ?_
    refine g_getr (n := 42) (ci := 12) (j := 0) (b := 125) rfl (by decide +kernel) (by decide) (by decide) (by decide +kernel) ?_
    refine g_iconst (n := 43) (v := 2) rfl rfl ?_
    refine g_aload_n (n := 44) rfl rfl ?_
    refine g_getr (n := 47) (ci := 12) (j := 0) (b := 125) rfl (by decide +kernel) (by decide) (by decide) (by decide +kernel) ?_
    refine g_iconst (n := 48) (v := 2) rfl rfl ?_
    refine g_iald (n := 49) (2) rfl (by decide) rfl (by show _ < 286; omega) ?_
    try simp only [mR_125, mR_up]
    refine g_aload_n (n := 50) rfl rfl ?_
    refine g_iconst (n := 51) (v := 1) rfl rfl ?_
    refine g_aload_n (n := 52) rfl rfl ?_
    refine g_iload_n (n := 53) rfl rfl ?_
    refine g_cv1 (n := 56) (t := 171) (ci := 12) rfl (by decide +kernel) (by decide +kernel) (by decide) (by decide) (by decide +kernel) (by rfl) (c_loadOf (g := g) (by omega) (by rw [mR_125, fC2_fO (by omega)]; exact hk)) (by omega) (g_E ?_)
    try simp only [mR_125, mR_up]
    refine g_aload_n (n := 57) rfl rfl ?_
    refine g_iload_n (n := 58) rfl rfl ?_
    refine g_cv1 (n := 61) (t := 166) (ci := 12) rfl (by decide +kernel) (by decide +kernel) (by decide) (by decide) (by decide +kernel) (by rfl) (c_ledgesBefore (y := y) (by omega)) (by omega) (g_E ?_)
    try simp only [mR_125, mR_up]
    refine g_aload_n (n := 62) rfl rfl ?_
    refine g_getr (n := 65) (ci := 12) (j := 0) (b := 125) rfl (by decide +kernel) (by decide) (by decide) (by decide +kernel) ?_
    refine g_iconst (n := 66) (v := 1) rfl rfl ?_
    refine g_iald (n := 67) (1) rfl (by decide) rfl (by show _ < 286; omega) ?_
    try simp only [mR_125, mR_up]
    refine g_cv4 (n := 70) (t := 162) (ci := 12) rfl (by decide +kernel) (by decide +kernel) (by decide) (by decide) (by decide +kernel) (by rfl) (c_textGives (use := 1) (by omega) (by rw [mR_125, fC2_hi hg (by omega)]; exact hs)) (by omega) (g_M fun I1 he => ?_)
    obtain ⟨J1, rfl, hJ1⟩ := mR_mE he
    clear he
    simp only [mR_125]
    refine g_iadd (n := 71) rfl ?_
    refine g_ldc (n := 73) (v := -99999) (pl := 1346) rfl (by decide +kernel) ?_
    refine g_ldc (n := 75) (v := 99999) (pl := 1347) rfl (by decide +kernel) ?_
    refine g_cs3 (n := 78) (t := 142) (x := (1208, 1209, 84)) rfl (by decide +kernel) (by decide +kernel) (by rfl) c_heldF (by omega) (g_E ?_)
    try simp only [mR_125, mR_up]
    refine g_iast (n := 79) (2) rfl (by decide) rfl (by show _ < 286; omega) ?_
    try simp only [mR_125, mR_up]
    refine g_vret (n := 80) rfl ?_
    refine ⟨rfl, ?_, rfl⟩; unfold fComes; rw [if_pos hb]; exact mE_mR hJ1
  ·
    refine g_ifeq0 (n := 30) 79 rfl (by decide) ?_
    have hb := h1
    refine g_vret (n := 80) rfl ?_
    refine ⟨rfl, ?_, rfl⟩; unfold fComes; rw [if_neg hb]; exact mE.rfl'
def fHr (d : Nat → Int32) (g : Nat) : Nat → Int32 → Int32
  | 0, _ => 0
  | m + 1, y => if 0 ≤ y.toInt ∧ y.toInt ≤ 23 then (if 1 < d (10 + y.toNatClampNeg) then 0 else if fAgainst d g y < 0 then fHr d g m (y + fFaces d g) else 1) else 0
def fHeard (d : Nat → Int32) (g : Nat) : Int32 := fHr d g 26 (fO d g 6 + fFaces d g)
theorem fFaces_in {d : Nat → Int32} {g : Nat} : fFaces d g = 1 ∨ fFaces d g = -1 := by
  unfold fFaces
  split
  · exact Or.inl rfl
  · exact Or.inr rfl
def fRem (f : Int32) (y : Int32) (m : Nat) : Prop := 1 ≤ m ∧ (0 ≤ y.toInt → y.toInt ≤ 23 → (f = 1 → 24 - y.toInt + 1 ≤ m) ∧ (f = -1 → y.toInt + 1 + 1 ≤ m))
theorem nI_m1 {k : Nat} : nI (k + 1) + (-1) = nI k := by
  rw [← nI_1]
  apply Int32.toBitVec_inj.mp
  simp [BitVec.add_assoc]
theorem fRem_s {f : Int32} (hf : f = 1 ∨ f = -1) {k m : Nat} (hk : k < 24) (h : fRem f (nI k) (m + 1)) : fRem f (nI k + f) m := by
  have e := nI_toInt (n := k) (by omega)
  have h2 := h.2 (by omega) (by omega)
  rcases hf with rfl | rfl
  · have h3 := h2.1 rfl
    rw [nI_1]
    have e2 := nI_toInt (n := k + 1) (by omega)
    exact ⟨by omega, fun _ _ => ⟨fun _ => by omega, fun z => absurd z (by decide)⟩⟩
  · have h3 := h2.2 rfl
    rcases k with _ | j
    · exact ⟨by omega, fun z _ => absurd z (by decide)⟩
    · rw [nI_m1]
      have e2 := nI_toInt (n := j) (by omega)
      exact ⟨by omega, fun _ _ => ⟨fun z => absurd z (by decide), fun _ => by omega⟩⟩
theorem c_isHeard {sc : List Value} {nm : Nat} {I : mg_I} {d0 : Nat → Int32} {g : Nat} (hg : g < 8) (hN : iR (d0 0) 9) : SP sc 4 185 [.ref 124, .int (nI g)] (mR I d0) nm (qE (fHeard d0 g) (mR I d0) nm) := by
  refine SP.of (h := 3) (t := 185) (q := (yX12_isHeard, cX12_isHeard, 3, (some .boolean), 12, 1333, mi_k185)) rfl (by decide) (show ¬ (3 : Nat) < 2 by decide) (fun d hd => ?_)
  show GG sc 12 false true mi_k185 d 0 [.ref 124, .int (nI g), .null] [] (mR I d0) nm (qE (fHeard d0 g) (mR I d0) nm)
  have hr : fRem (fFaces d0 g) (fO d0 g 6 + fFaces d0 g) 26 := ⟨by omega, fun _ _ => ⟨fun _ => by omega, fun _ => by omega⟩⟩
  have H : ∀ (m : Nat) (y : Int32), fRem (fFaces d0 g) y m → GG sc 12 false true mi_k185 d 14 [.ref 124, .int (nI g), .int y] [] (mR I d0) nm (qE (fHr d0 g m y) (mR I d0) nm) := by
    intro m
    induction m with
    | zero => intro y h; exact absurd h.1 (by omega)
    | succ m ih =>
      intro y hm
      refine g_iload_n (n := 15) rfl rfl ?_
      refine g_cs1 (n := 18) (t := 144) (x := (1219, 1220, 84)) rfl (by decide +kernel) (by decide +kernel) (by rfl) c_isYard (by omega) (g_E ?_)
      try simp only [mR_125, mR_up]
      refine g_split (fun h1 => ?_) (fun h1 => ?_)
      ·
        refine g_ifeq1 (n := 21) 51 rfl (by decide) ?_
        obtain ⟨k, hk, rfl, hkc⟩ := iR_nI (x := y) (n := 24) ⟨h1.1, by omega⟩
        rw [fHr, if_pos h1, hkc]
        refine g_aload_n (n := 22) rfl rfl ?_
        refine g_iload_n (n := 23) rfl rfl ?_
        refine g_cv1 (n := 26) (t := 164) (ci := 12) rfl (by decide +kernel) (by decide +kernel) (by decide) (by decide) (by decide +kernel) (by rfl) (c_isLedge (y := k) (by omega)) (by omega) (g_E ?_)
        try simp only [mR_125, mR_up]
        refine g_split (fun h2 => ?_) (fun h2 => ?_)
        ·
          refine g_ifne1 (n := 29) 51 rfl (by decide) ?_
          rw [if_pos h2]
          refine g_iconst (n := 52) (v := 0) rfl rfl ?_
          refine g_iret (n := 53) rfl (fun _ => by first | exact Or.inl rfl | exact Or.inr rfl | exact bI_01) ?_
          exact ⟨rfl, rfl, rfl⟩
        ·
          refine g_ifne0 (n := 29) 51 rfl (by decide) ?_
          rw [if_neg h2]
          refine g_aload_n (n := 30) rfl rfl ?_
          refine g_iload_n (n := 31) rfl rfl ?_
          refine g_iload_n (n := 32) rfl rfl ?_
          refine g_cv2 (n := 35) (t := 184) (ci := 12) rfl (by decide +kernel) (by decide +kernel) (by decide) (by decide) (by decide +kernel) (by rfl) (c_against (g := g) (by omega) hN) (by omega) (g_E ?_)
          try simp only [mR_125, mR_up]
          refine g_iflt (n := 38) 40 rfl (by decide) (fun h3 => ?_) (fun h3 => ?_)
          ·
            rw [if_pos h3]
            refine g_iload_n (n := 41) rfl rfl ?_
            refine g_aload_n (n := 42) rfl rfl ?_
            refine g_iload_n (n := 43) rfl rfl ?_
            refine g_cv1 (n := 46) (t := 183) (ci := 12) rfl (by decide +kernel) (by decide +kernel) (by decide) (by decide) (by decide +kernel) (by rfl) (c_faces (g := g) (by omega)) (by omega) (g_E ?_)
            try simp only [mR_125, mR_up]
            refine g_iadd (n := 47) rfl ?_
            refine g_istore_n2 (n := 48) rfl rfl ?_
            refine g_goto 14 rfl (by decide) ?_
            exact ih _ (fRem_s fFaces_in hk hm)
          ·
            rw [if_neg h3]
            refine g_iconst (n := 39) (v := 1) rfl rfl ?_
            refine g_iret (n := 40) rfl (fun _ => by first | exact Or.inl rfl | exact Or.inr rfl | exact bI_01) ?_
            exact ⟨rfl, rfl, rfl⟩
      ·
        refine g_ifeq0 (n := 21) 51 rfl (by decide) ?_
        rw [fHr, if_neg h1]
        refine g_iconst (n := 52) (v := 0) rfl rfl ?_
        refine g_iret (n := 53) rfl (fun _ => by first | exact Or.inl rfl | exact Or.inr rfl | exact bI_01) ?_
        exact ⟨rfl, rfl, rfl⟩
  refine g_aload_n (n := 1) rfl rfl ?_
  refine g_iload_n (n := 2) rfl rfl ?_
  refine g_bipush (n := 4) (v := 6) rfl rfl ?_
  refine g_cv2 (n := 7) (t := 145) (ci := 12) rfl (by decide +kernel) (by decide +kernel) (by decide) (by decide) (by decide +kernel) (by rfl) (c_of (g := g) (w := 6) (by omega) (by omega)) (by omega) (g_E ?_)
  try simp only [mR_125, mR_up]
  refine g_aload_n (n := 8) rfl rfl ?_
  refine g_iload_n (n := 9) rfl rfl ?_
  refine g_cv1 (n := 12) (t := 183) (ci := 12) rfl (by decide +kernel) (by decide +kernel) (by decide) (by decide) (by decide +kernel) (by rfl) (c_faces (g := g) (by omega)) (by omega) (g_E ?_)
  try simp only [mR_125, mR_up]
  refine g_iadd (n := 13) rfl ?_
  refine g_istore_n2 (n := 14) rfl rfl ?_
  exact H 26 _ hr
end
section
/-! the model's minute: a goer goes on -/
def cl (x : Int32) : Nat := x.toNatClampNeg
def fOver (d : Nat → Int32) (g : Nat) : Nat → Int32 := up (up (up d (34 + 10 * g + 5) 2) (34 + 10 * g + 6) (-1)) 5 (up (up d (34 + 10 * g + 5) 2) (34 + 10 * g + 6) (-1) 5 &&& (fBit g ^^^ -1))
def fGo (d : Nat → Int32) (g : Nat) (b : Int32) (x : Int32) : Nat → Int32 :=
  if 0 ≤ x.toInt ∧ x.toInt ≤ 23 then
    (if d (10 + cl x) ≤ fAt d x then
      (if b = 0 then (if 1 < d (10 + cl (fO d g 6)) then d else if fAgainst d g x < 0 then d else fMeets d g (cl (fAgainst d g x))) else d)
    else fComes d g (cl x))
  else d
def fGoes (d : Nat → Int32) (g : Nat) (fog : Int32) : Nat → Int32 :=
  if fO d g 8 = 1 then fGo d g 1 (fO d g 6 - fFaces d g)
  else if fO d g 6 = fO d g 3 then fOver d g
  else if 1 < d (10 + cl (fO d g 6)) then
    (if fog = 0 then (if fHears (fO d g 0) = 0 then fGo d g 0 (fO d g 6 + fFaces d g) else if fHeard d g = 0 then fGo d g 0 (fO d g 6 + fFaces d g) else d) else fGo d g 0 (fO d g 6 + fFaces d g))
  else fGo d g 0 (fO d g 6 + fFaces d g)
theorem fFirst_in {p : Nat → Prop} [DecidablePred p] {n : Nat} (hn : n ≤ 8) : ∀ f k, fFirst p n f k = -1 ∨ ∃ j, j < n ∧ fFirst p n f k = nI j ∧ p j := by
  intro f
  induction f with
  | zero => intro k; exact Or.inl rfl
  | succ f ih =>
    intro k
    unfold fFirst
    split
    · exact Or.inl rfl
    next h =>
      split
      next h2 => exact Or.inr ⟨k, by omega, rfl, h2⟩
      · exact ih (k + 1)
theorem fAgainst_in {d : Nat → Int32} {g : Nat} {y : Int32} (hN : iR (d 0) 9) (h : ¬ fAgainst d g y < 0) : ∃ j, j < fN d ∧ fAgainst d g y = nI j ∧ gFace d g y j := by
  rcases fFirst_in (p := gFace d g y) (n := fN d) (fN_eq hN).2 9 0 with e | e
  · exact absurd (show fAgainst d g y < 0 by unfold fAgainst; rw [e]; decide) h
  · exact e
/-- what the model's numbers keep to -/
def fWF (d : Nat → Int32) : Prop := iR (d 0) 9 ∧ iR (d 114) 51 ∧ iR (d 115) 51 ∧ ∀ g, g < 8 → fK (fO d g 0) ∧ iR (fO d g 2) 24 ∧ (fO d g 5 = 1 → iR (fO d g 6) 24)
theorem c_go {sc : List Value} {nm : Nat} {I : mg_I} {d0 : Nat → Int32} {g k dd : Nat} {b fog x : Int32} {x6 : Value} (hw : fWF d0) (hg : g < 8) (hb : b = 0 ∨ b = 1) (hyk : fO d0 g 6 = nI k) (hk : k < 24) (hd : 44 ≤ dd) : GG sc 12 false false mi_k188 dd 130 [.ref 124, .int (nI g), .int fog, .int b, .int (nI k), .int x, x6] [] (mR I d0) nm (qN (mR I (fGo d0 g b x)) nm) := by
  obtain ⟨hN, hs, hs1, hW⟩ := hw
  have hck : cl (nI k) = k := nI_clamp (by omega)
  refine g_iload (n := 132) rfl rfl ?_
  refine g_cs1 (n := 135) (t := 144) (x := (1219, 1220, 84)) rfl (by decide +kernel) (by decide +kernel) (by rfl) c_isYard (by omega) (g_E ?_)
  try simp only [mR_125, mR_up]
  refine g_split (fun h1 => ?_) (fun h1 => ?_)
  ·
    refine g_ifne1 (n := 138) 139 rfl (by decide) ?_
    obtain ⟨j, hj, rfl, hjc⟩ := iR_nI (x := x) (n := 24) ⟨h1.1, by omega⟩
    have hj2 : cl (nI j) = j := hjc
    unfold fGo
    rw [if_pos h1, hj2, hyk, hck]
    refine g_aload_n (n := 140) rfl rfl ?_
    refine g_iload (n := 142) rfl rfl ?_
    refine g_cv1 (n := 145) (t := 165) (ci := 12) rfl (by decide +kernel) (by decide +kernel) (by decide) (by decide) (by decide +kernel) (by rfl) (c_atYard hN) (by omega) (g_E ?_)
    try simp only [mR_125, mR_up]
    refine g_aload_n (n := 146) rfl rfl ?_
    refine g_getr (n := 149) (ci := 12) (j := 0) (b := 125) rfl (by decide +kernel) (by decide) (by decide) (by decide +kernel) ?_
    refine g_bipush (n := 151) (v := 10) rfl rfl ?_
    refine g_iload (n := 153) rfl rfl ?_
    refine g_iaddN (n := 154) (x := 10) (y := j) rfl ?_
    refine g_iald (n := 155) ((10 + j)) rfl (by decide) rfl (by show _ < 286; omega) ?_
    try simp only [mR_125, mR_up]
    refine g_icge (n := 158) 166 rfl (by decide) (fun h2 => ?_) (fun h2 => ?_)
    ·
      rw [if_pos h2]
      refine g_aload_n (n := 167) rfl rfl ?_
      refine g_iload_n (n := 168) rfl rfl ?_
      refine g_iload (n := 170) rfl rfl ?_
      refine g_cv2 (n := 173) (t := 184) (ci := 12) rfl (by decide +kernel) (by decide +kernel) (by decide) (by decide) (by decide +kernel) (by rfl) (c_against (g := g) (by omega) hN) (by omega) (g_E ?_)
      try simp only [mR_125, mR_up]
      refine g_istore6 (n := 175) rfl rfl ?_
      refine g_iload_n (n := 176) rfl rfl ?_
      refine g_ifne (n := 179) 200 rfl (by decide) (fun h3 => ?_) (fun h3 => ?_)
      ·
        rw [if_neg h3]
        refine g_vret (n := 201) rfl ?_
        first | exact ⟨rfl, he, rfl⟩ | exact ⟨rfl, mE.rfl', rfl⟩
      ·
        rw [if_pos h3]
        refine g_aload_n (n := 180) rfl rfl ?_
        refine g_iload (n := 182) rfl rfl ?_
        refine g_cv1 (n := 185) (t := 164) (ci := 12) rfl (by decide +kernel) (by decide +kernel) (by decide) (by decide) (by decide +kernel) (by rfl) (c_isLedge (y := k) (by omega)) (by omega) (g_E ?_)
        try simp only [mR_125, mR_up]
        refine g_split (fun h4 => ?_) (fun h4 => ?_)
        ·
          refine g_ifne1 (n := 188) 200 rfl (by decide) ?_
          rw [if_pos h4]
          refine g_vret (n := 201) rfl ?_
          first | exact ⟨rfl, he, rfl⟩ | exact ⟨rfl, mE.rfl', rfl⟩
        ·
          refine g_ifne0 (n := 188) 200 rfl (by decide) ?_
          rw [if_neg h4]
          refine g_iload (n := 190) rfl rfl ?_
          refine g_iflt (n := 193) 200 rfl (by decide) (fun h5 => ?_) (fun h5 => ?_)
          ·
            rw [if_pos h5]
            refine g_vret (n := 201) rfl ?_
            first | exact ⟨rfl, he, rfl⟩ | exact ⟨rfl, mE.rfl', rfl⟩
          ·
            rw [if_neg h5]
            have hc := h5
            obtain ⟨w, hw1, hw2, _⟩ := fAgainst_in hN hc
            rw [hw2, show cl (nI w) = w from nI_clamp (by have := (fN_eq hN).2; omega)]
            refine g_aload_n (n := 194) rfl rfl ?_
            refine g_iload_n (n := 195) rfl rfl ?_
            refine g_iload (n := 197) rfl rfl ?_
            have hn8 := (fN_eq hN).2
            refine g_cv2 (n := 200) (t := 186) (ci := 12) rfl (by decide +kernel) (by decide +kernel) (by decide) (by decide) (by decide +kernel) (by rfl) (c_meets (g := g) (h := w) hg (by omega) (hW g hg).1 (hW w (by omega)).1 hs) (by omega) (g_N fun I1 he => ?_)
            refine g_vret (n := 201) rfl ?_
            first | exact ⟨rfl, he, rfl⟩ | exact ⟨rfl, mE.rfl', rfl⟩
    ·
      rw [if_neg h2]
      refine g_aload_n (n := 159) rfl rfl ?_
      refine g_iload_n (n := 160) rfl rfl ?_
      refine g_iload (n := 162) rfl rfl ?_
      refine g_cv2 (n := 165) (t := 187) (ci := 12) rfl (by decide +kernel) (by decide +kernel) (by decide) (by decide) (by decide +kernel) (by rfl) (c_comes (g := g) (y := j) hg hj (hW g hg).1 hs1) (by omega) (g_N fun I1 he => ?_)
      refine g_vret (n := 166) rfl ?_
      first | exact ⟨rfl, he, rfl⟩ | exact ⟨rfl, mE.rfl', rfl⟩
  ·
    refine g_ifne0 (n := 138) 139 rfl (by decide) ?_
    unfold fGo; rw [if_neg h1]
    refine g_vret (n := 139) rfl ?_
    first | exact ⟨rfl, he, rfl⟩ | exact ⟨rfl, mE.rfl', rfl⟩
theorem c_goesOn {sc : List Value} {nm : Nat} {I : mg_I} {d0 : Nat → Int32} {g : Nat} {fog : Int32} (hw : fWF d0) (hg : g < 8) (hon : fO d0 g 5 = 1) : SP sc 45 188 [.ref 124, .int (nI g), .int fog] (mR I d0) nm (qN (mR I (fGoes d0 g fog)) nm) := by
  obtain ⟨k, hk, hyk, hkc⟩ := iR_nI ((hw.2.2.2 g hg).2.2 hon)
  have hck : cl (nI k) = k := nI_clamp (by omega)
  have hN := hw.1
  refine SP.of (h := 44) (t := 188) (q := (yX12_goesOn, cX12_goesOn, 7, none, 12, 1329, mi_k188)) rfl (by decide) (show ¬ (7 : Nat) < 3 by decide) (fun d hd => ?_)
  show GG sc 12 false false mi_k188 d 0 [.ref 124, .int (nI g), .int fog, .null, .null, .null, .null] [] (mR I d0) nm (qN (mR I (fGoes d0 g fog)) nm)
  unfold fGoes
  rw [hyk, hck]
  refine g_aload_n (n := 1) rfl rfl ?_
  refine g_iload_n (n := 2) rfl rfl ?_
  refine g_bipush (n := 4) (v := 8) rfl rfl ?_
  refine g_cv2 (n := 7) (t := 145) (ci := 12) rfl (by decide +kernel) (by decide +kernel) (by decide) (by decide) (by decide +kernel) (by rfl) (c_of (g := g) (w := 8) (by omega) (by omega)) (by omega) (g_E ?_)
  try simp only [mR_125, mR_up]
  refine g_iconst (n := 8) (v := 1) rfl rfl ?_
  refine g_icne (n := 11) 15 rfl (by decide) (fun h1 => ?_) (fun h1 => ?_)
  ·
    rw [if_neg h1]
    refine g_iconst (n := 16) (v := 0) rfl rfl ?_
    refine g_istore_n3 (n := 17) rfl rfl ?_
    refine g_aload_n (n := 18) rfl rfl ?_
    refine g_iload_n (n := 19) rfl rfl ?_
    refine g_bipush (n := 21) (v := 6) rfl rfl ?_
    refine g_cv2 (n := 24) (t := 145) (ci := 12) rfl (by decide +kernel) (by decide +kernel) (by decide) (by decide) (by decide +kernel) (by rfl) (c_of (g := g) (w := 6) (by omega) (by omega)) (by omega) (g_E ?_)
    refine g_top (w := nI k) hyk ?_
    refine g_istore4 (n := 26) rfl rfl ?_
    refine g_iload_n (n := 27) rfl rfl ?_
    refine g_ifne0 (n := 30) 71 rfl (by decide) ?_
    refine g_iload (n := 32) rfl rfl ?_
    refine g_aload_n (n := 33) rfl rfl ?_
    refine g_iload_n (n := 34) rfl rfl ?_
    refine g_iconst (n := 35) (v := 3) rfl rfl ?_
    refine g_cv2 (n := 38) (t := 145) (ci := 12) rfl (by decide +kernel) (by decide +kernel) (by decide) (by decide) (by decide +kernel) (by rfl) (c_of (g := g) (w := 3) (by omega) (by omega)) (by omega) (g_E ?_)
    try simp only [mR_125, mR_up]
    refine g_icne (n := 41) 71 rfl (by decide) (fun h2 => ?_) (fun h2 => ?_)
    ·
      rw [if_neg h2]
      refine g_iload_n (n := 72) rfl rfl ?_
      refine g_ifne0 (n := 75) 105 rfl (by decide) ?_
      refine g_aload_n (n := 76) rfl rfl ?_
      refine g_iload (n := 78) rfl rfl ?_
      refine g_cv1 (n := 81) (t := 164) (ci := 12) rfl (by decide +kernel) (by decide +kernel) (by decide) (by decide) (by decide +kernel) (by rfl) (c_isLedge (y := k) (by omega)) (by omega) (g_E ?_)
      try simp only [mR_125, mR_up]
      refine g_split (fun h3 => ?_) (fun h3 => ?_)
      ·
        refine g_ifeq1 (n := 84) 105 rfl (by decide) ?_
        rw [if_pos h3]
        refine g_iload_n (n := 85) rfl rfl ?_
        refine g_ifne (n := 88) 105 rfl (by decide) (fun h4 => ?_) (fun h4 => ?_)
        ·
          rw [if_neg h4]
          refine g_iload_n (n := 106) rfl rfl ?_
          refine g_ifeq0 (n := 109) 120 rfl (by decide) ?_
          refine g_iload (n := 122) rfl rfl ?_
          refine g_aload_n (n := 123) rfl rfl ?_
          refine g_iload_n (n := 124) rfl rfl ?_
          refine g_cv1 (n := 127) (t := 183) (ci := 12) rfl (by decide +kernel) (by decide +kernel) (by decide) (by decide) (by decide +kernel) (by rfl) (c_faces (g := g) (by omega)) (by omega) (g_E ?_)
          try simp only [mR_125, mR_up]
          refine g_iadd (n := 128) rfl ?_
          refine g_istore5 (n := 130) rfl rfl ?_
          exact c_go (b := 0) hw hg (by first | exact Or.inl rfl | exact Or.inr rfl) hyk hk hd
        ·
          rw [if_pos h4]
          refine g_aload_n (n := 89) rfl rfl ?_
          refine g_iload_n (n := 90) rfl rfl ?_
          refine g_cv1 (n := 93) (t := 173) (ci := 12) rfl (by decide +kernel) (by decide +kernel) (by decide) (by decide) (by decide +kernel) (by rfl) (c_hears (g := g) (by omega)) (by omega) (g_E ?_)
          try simp only [mR_125, mR_up]
          refine g_ifeq (n := 96) 105 rfl (by decide) (fun h5 => ?_) (fun h5 => ?_)
          ·
            rw [if_pos h5]
            refine g_iload_n (n := 106) rfl rfl ?_
            refine g_ifeq0 (n := 109) 120 rfl (by decide) ?_
            refine g_iload (n := 122) rfl rfl ?_
            refine g_aload_n (n := 123) rfl rfl ?_
            refine g_iload_n (n := 124) rfl rfl ?_
            refine g_cv1 (n := 127) (t := 183) (ci := 12) rfl (by decide +kernel) (by decide +kernel) (by decide) (by decide) (by decide +kernel) (by rfl) (c_faces (g := g) (by omega)) (by omega) (g_E ?_)
            try simp only [mR_125, mR_up]
            refine g_iadd (n := 128) rfl ?_
            refine g_istore5 (n := 130) rfl rfl ?_
            exact c_go (b := 0) hw hg (by first | exact Or.inl rfl | exact Or.inr rfl) hyk hk hd
          ·
            rw [if_neg h5]
            refine g_aload_n (n := 97) rfl rfl ?_
            refine g_iload_n (n := 98) rfl rfl ?_
            refine g_cv1 (n := 101) (t := 185) (ci := 12) rfl (by decide +kernel) (by decide +kernel) (by decide) (by decide) (by decide +kernel) (by rfl) (c_isHeard (g := g) (by omega) hN) (by omega) (g_E ?_)
            try simp only [mR_125, mR_up]
            refine g_ifeq (n := 104) 105 rfl (by decide) (fun h6 => ?_) (fun h6 => ?_)
            ·
              rw [if_pos h6]
              refine g_iload_n (n := 106) rfl rfl ?_
              refine g_ifeq0 (n := 109) 120 rfl (by decide) ?_
              refine g_iload (n := 122) rfl rfl ?_
              refine g_aload_n (n := 123) rfl rfl ?_
              refine g_iload_n (n := 124) rfl rfl ?_
              refine g_cv1 (n := 127) (t := 183) (ci := 12) rfl (by decide +kernel) (by decide +kernel) (by decide) (by decide) (by decide +kernel) (by rfl) (c_faces (g := g) (by omega)) (by omega) (g_E ?_)
              try simp only [mR_125, mR_up]
              refine g_iadd (n := 128) rfl ?_
              refine g_istore5 (n := 130) rfl rfl ?_
              exact c_go (b := 0) hw hg (by first | exact Or.inl rfl | exact Or.inr rfl) hyk hk hd
            ·
              rw [if_neg h6]
              refine g_vret (n := 105) rfl ?_
              first | exact ⟨rfl, mE.rfl', rfl⟩
      ·
        refine g_ifeq0 (n := 84) 105 rfl (by decide) ?_
        rw [if_neg h3]
        refine g_iload_n (n := 106) rfl rfl ?_
        refine g_ifeq0 (n := 109) 120 rfl (by decide) ?_
        refine g_iload (n := 122) rfl rfl ?_
        refine g_aload_n (n := 123) rfl rfl ?_
        refine g_iload_n (n := 124) rfl rfl ?_
        refine g_cv1 (n := 127) (t := 183) (ci := 12) rfl (by decide +kernel) (by decide +kernel) (by decide) (by decide) (by decide +kernel) (by rfl) (c_faces (g := g) (by omega)) (by omega) (g_E ?_)
        try simp only [mR_125, mR_up]
        refine g_iadd (n := 128) rfl ?_
        refine g_istore5 (n := 130) rfl rfl ?_
        exact c_go (b := 0) hw hg (by first | exact Or.inl rfl | exact Or.inr rfl) hyk hk hd
    ·
      rw [if_pos h2]
      refine g_aload_n (n := 42) rfl rfl ?_
      refine g_iload_n (n := 43) rfl rfl ?_
      refine g_iconst (n := 44) (v := 5) rfl rfl ?_
      refine g_iconst (n := 45) (v := 2) rfl rfl ?_
      refine g_cv3 (n := 48) (t := 146) (ci := 12) rfl (by decide +kernel) (by decide +kernel) (by decide) (by decide) (by decide +kernel) (by rfl) (c_sets (g := g) (w := 5) (by omega) (by omega)) (by omega) (g_Z ?_)
      try simp only [mR_125, mR_up]
      refine g_aload_n (n := 49) rfl rfl ?_
      refine g_iload_n (n := 50) rfl rfl ?_
      refine g_bipush (n := 52) (v := 6) rfl rfl ?_
      refine g_iconst (n := 53) (v := -1) rfl rfl ?_
      refine g_cv3 (n := 56) (t := 146) (ci := 12) rfl (by decide +kernel) (by decide +kernel) (by decide) (by decide) (by decide +kernel) (by rfl) (c_sets (g := g) (w := 6) (by omega) (by omega)) (by omega) (g_Z ?_)
      try simp only [mR_125, mR_up]
      refine g_aload_n (n := 57) rfl rfl ?_
      refine g_getr (n := 60) (ci := 12) (j := 0) (b := 125) rfl (by decide +kernel) (by decide) (by decide) (by decide +kernel) ?_
      refine g_iconst (n := 61) (v := 5) rfl rfl ?_
      refine g_dup2 (n := 62) rfl ?_
      refine g_iald (n := 63) (5) rfl (by decide) rfl (by show _ < 286; omega) ?_
      try simp only [mR_125, mR_up]
      refine g_iconst (n := 64) (v := 1) rfl rfl ?_
      refine g_iload_n (n := 65) rfl rfl ?_
      refine g_ishl (n := 66) rfl ?_
      refine g_iconst (n := 67) (v := -1) rfl rfl ?_
      refine g_ixor (n := 68) rfl ?_
      refine g_iand (n := 69) rfl ?_
      refine g_iast (n := 70) (5) rfl (by decide) rfl (by show _ < 286; omega) ?_
      try simp only [mR_125, mR_up]
      refine g_vret (n := 71) rfl ?_
      first | exact ⟨rfl, mE.rfl', rfl⟩
  ·
    rw [if_pos h1]
    refine g_iconst (n := 12) (v := 1) rfl rfl ?_
    refine g_goto 16 rfl (by decide) ?_
    refine g_istore_n3 (n := 17) rfl rfl ?_
    refine g_aload_n (n := 18) rfl rfl ?_
    refine g_iload_n (n := 19) rfl rfl ?_
    refine g_bipush (n := 21) (v := 6) rfl rfl ?_
    refine g_cv2 (n := 24) (t := 145) (ci := 12) rfl (by decide +kernel) (by decide +kernel) (by decide) (by decide) (by decide +kernel) (by rfl) (c_of (g := g) (w := 6) (by omega) (by omega)) (by omega) (g_E ?_)
    refine g_top (w := nI k) hyk ?_
    refine g_istore4 (n := 26) rfl rfl ?_
    refine g_iload_n (n := 27) rfl rfl ?_
    refine g_ifne1 (n := 30) 71 rfl (by decide) ?_
    refine g_iload_n (n := 72) rfl rfl ?_
    refine g_ifne1 (n := 75) 105 rfl (by decide) ?_
    refine g_iload_n (n := 106) rfl rfl ?_
    refine g_ifeq1 (n := 109) 120 rfl (by decide) ?_
    refine g_iload (n := 111) rfl rfl ?_
    refine g_aload_n (n := 112) rfl rfl ?_
    refine g_iload_n (n := 113) rfl rfl ?_
    refine g_cv1 (n := 116) (t := 183) (ci := 12) rfl (by decide +kernel) (by decide +kernel) (by decide) (by decide) (by decide +kernel) (by rfl) (c_faces (g := g) (by omega)) (by omega) (g_E ?_)
    try simp only [mR_125, mR_up]
    refine g_isub (n := 117) rfl ?_
    refine g_goto 128 rfl (by decide) ?_
    refine g_istore5 (n := 130) rfl rfl ?_
    exact c_go (b := 1) hw hg (by first | exact Or.inl rfl | exact Or.inr rfl) hyk hk hd
end
section
/-! the model's minute: all goers, one after another -/
def fStep (d : Nat → Int32) (g : Nat) (fog : Int32) : Nat → Int32 :=
  if fO d g 5 = 0 then
    (if d 1 < fO d g 4 then d
    else if d (10 + cl (fO d g 2)) ≤ fAt d (fO d g 2) then d
    else up (up (up (up d (34 + 10 * g + 5) 1) (34 + 10 * g + 6) (fO d g 2)) (34 + 10 * g + 7) 0) (34 + 10 * g + 8) 0)
  else if fO d g 5 = 1 then (if fO d g 7 ≤ 0 then fGoes d g fog else up d (34 + 10 * g + 7) (fO d g 7 - 1))
  else d
def fSt (fog : Int32) : Nat → Nat → (Nat → Int32) → Nat → Int32
  | 0, _, d => d
  | m + 1, k, d => fSt fog m (k + 1) (fStep d k fog)
def fMin (d : Nat → Int32) (fog : Int32) : Nat → Int32 := fSt fog (fN d) 0 (up d 1 (d 1 + 1))
/-- alike but for what a step of goer g may change -/
def sD (d d' : Nat → Int32) (g : Nat) : Prop := ∀ k, ¬ (34 + 10 * g + 5 ≤ k ∧ k < 34 + 10 * g + 10) → k ≠ 2 → k ≠ 3 → k ≠ 5 → d' k = d k
theorem sD_rfl {d : Nat → Int32} {g : Nat} : sD d d g := fun _ _ _ _ _ => rfl
theorem sD_up {d d' : Nat → Int32} {g j : Nat} {v : Int32} (h : sD d d' g) (hj : (34 + 10 * g + 5 ≤ j ∧ j < 34 + 10 * g + 10) ∨ j = 2 ∨ j = 3 ∨ j = 5) : sD d (up d' j v) g := by
  intro k h1 h2 h3 h4
  rw [up_ne (by omega)]
  exact h k h1 h2 h3 h4
theorem sD_meets {d : Nat → Int32} {g h : Nat} : sD d (fMeets d g h) g := by
  unfold fMeets
  split
  · exact sD_rfl
  · split
    · exact sD_up sD_rfl (by omega)
    · exact sD_up (sD_up (sD_up sD_rfl (by omega)) (by omega)) (by omega)
theorem sD_comes {d : Nat → Int32} {g y : Nat} : sD d (fComes d g y) g := by
  unfold fComes fC2 fC1
  split
  · exact sD_up (sD_up (sD_up (sD_up sD_rfl (by omega)) (by omega)) (by omega)) (by omega)
  · exact sD_up (sD_up sD_rfl (by omega)) (by omega)
theorem sD_over {d : Nat → Int32} {g : Nat} : sD d (fOver d g) g := sD_up (sD_up (sD_up sD_rfl (by omega)) (by omega)) (by omega)
theorem sD_go {d : Nat → Int32} {g : Nat} {b x : Int32} : sD d (fGo d g b x) g := by
  unfold fGo
  repeat' split
  all_goals first | exact sD_rfl | exact sD_meets | exact sD_comes
theorem sD_goes {d : Nat → Int32} {g : Nat} {fog : Int32} : sD d (fGoes d g fog) g := by
  unfold fGoes
  repeat' split
  all_goals first | exact sD_rfl | exact sD_go | exact sD_over
theorem sD_step {d : Nat → Int32} {g : Nat} {fog : Int32} : sD d (fStep d g fog) g := by
  unfold fStep
  repeat' split
  all_goals first | exact sD_rfl | exact sD_goes | exact sD_up sD_rfl (by omega) | exact sD_up (sD_up (sD_up (sD_up sD_rfl (by omega)) (by omega)) (by omega)) (by omega)
theorem sD_fO {d d' : Nat → Int32} {g h w : Nat} (hs : sD d d' g) (hw : w < 10) (hh : h ≠ g ∨ w < 5) : fO d' h w = fO d h w := hs _ (by omega) (by omega) (by omega) (by omega)
/-- what a goer's numbers keep to -/
def gG (d : Nat → Int32) (g : Nat) : Prop := (fO d g 5 = 1 → iR (fO d g 6) 24) ∧ (fO d g 8 = 0 ∨ fO d g 8 = 1)
def gW (d : Nat → Int32) : Prop := fWF d ∧ (∀ g, g < 8 → fO d g 8 = 0 ∨ fO d g 8 = 1) ∧ iR (d 3) 10000 ∧ iR (d 5) 256
theorem fb_or : ∀ f, f < 256 → ∀ g, g < 8 → (nI f ||| fBit g) = nI (f ||| 2 ^ g) ∧ (f ||| 2 ^ g) < 256 := by decide +kernel
theorem fb_and : ∀ f, f < 256 → ∀ g, g < 8 → (nI f &&& (fBit g ^^^ -1)) = nI (f &&& (255 - 2 ^ g)) ∧ (f &&& (255 - 2 ^ g)) < 256 := by decide +kernel
theorem iR_or {x : Int32} {g : Nat} (h : iR x 256) (hg : g < 8) : iR (x ||| fBit g) 256 := by
  obtain ⟨f, hf, rfl, _⟩ := iR_nI h
  obtain ⟨e, hl⟩ := fb_or f hf g hg
  rw [e]
  exact iR_of hl (by omega)
theorem iR_and {x : Int32} {g : Nat} (h : iR x 256) (hg : g < 8) : iR (x &&& (fBit g ^^^ -1)) 256 := by
  obtain ⟨f, hf, rfl, _⟩ := iR_nI h
  obtain ⟨e, hl⟩ := fb_and f hf g hg
  rw [e]
  exact iR_of hl (by omega)
theorem iR_held {x : Int32} : iR (fHeld x 0 9999) 10000 := by
  unfold fHeld
  split
  · exact ⟨by decide, by decide⟩
  · split
    · exact ⟨by decide, by decide⟩
    next h1 h2 =>
      simp only [Int32.lt_iff_toInt_lt] at h1 h2
      have e1 : Int32.toInt 0 = 0 := by decide
      have e2 : Int32.toInt 9999 = 9999 := by decide
      exact ⟨by omega, by omega⟩
theorem fO_at {d : Nat → Int32} {g w : Nat} {v : Int32} : fO (up d (34 + 10 * g + w) v) g w = v := if_pos rfl
/-- the local part of what is kept to -/
def lG (d : Nat → Int32) (g : Nat) : Prop := (fO d g 5 = 1 → iR (fO d g 6) 24) ∧ (fO d g 8 = 0 ∨ fO d g 8 = 1) ∧ iR (d 3) 10000 ∧ iR (d 5) 256
theorem gW_lG {d : Nat → Int32} {g : Nat} (h : gW d) (hg : g < 8) : lG d g := ⟨(h.1.2.2.2 g hg).2.2, h.2.1 g hg, h.2.2⟩
theorem gW_of {d d' : Nat → Int32} {g : Nat} (h : gW d) (hg : g < 8) (hs : sD d d' g) (hl : lG d' g) : gW d' := by
  obtain ⟨⟨h0, h1, h2, h3⟩, h4, h5, h6⟩ := h
  refine ⟨⟨?_, ?_, ?_, fun j hj => ⟨?_, ?_, ?_⟩⟩, fun j hj => ?_, hl.2.2.1, hl.2.2.2⟩
  · rw [hs 0 (by omega) (by omega) (by omega) (by omega)]; exact h0
  · rw [hs 114 (by omega) (by omega) (by omega) (by omega)]; exact h1
  · rw [hs 115 (by omega) (by omega) (by omega) (by omega)]; exact h2
  · rw [sD_fO hs (by omega) (Or.inr (by omega))]; exact (h3 j hj).1
  · rw [sD_fO hs (by omega) (Or.inr (by omega))]; exact (h3 j hj).2.1
  · by_cases e : j = g
    · subst e; exact hl.1
    · rw [sD_fO hs (by omega) (Or.inl e), sD_fO hs (by omega) (Or.inl e)]; exact (h3 j hj).2.2
  · by_cases e : j = g
    · subst e; exact hl.2.1
    · rw [sD_fO hs (by omega) (Or.inl e)]; exact h4 j hj
theorem lG_meets {d : Nat → Int32} {g h : Nat} (hl : lG d g) (hg : g < 8) : lG (fMeets d g h) g := by
  unfold fMeets
  split
  · exact hl
  · split
    · refine ⟨?_, ?_, ?_, ?_⟩
      · rw [fO_up (by omega), fO_up (by omega)]; exact hl.1
      · rw [fO_up (by omega)]; exact hl.2.1
      · rw [up_ne (by omega)]; exact hl.2.2.1
      · rw [up_at]; exact iR_or hl.2.2.2 hg
    · refine ⟨?_, ?_, ?_, ?_⟩
      · rw [fO_up (by omega), fO_up (by omega), fO_up (by omega), fO_up (by omega), fO_up (by omega), fO_up (by omega)]; exact hl.1
      · rw [fO_up (by omega), fO_up (by omega), fO_at]; exact Or.inr rfl
      · rw [up_at]; exact iR_held
      · rw [up_ne (by omega), up_ne (by omega), up_ne (by omega)]; exact hl.2.2.2
theorem lG_comes {d : Nat → Int32} {g y : Nat} (hl : lG d g) (hy : y < 24) : lG (fComes d g y) g := by
  unfold fComes
  split
  · refine ⟨fun _ => ?_, ?_, ?_, ?_⟩
    · unfold fC2 fC1
      rw [fO_up (by omega), fO_up (by omega), fO_up (by omega), fO_at]
      exact iR_of hy (by omega)
    · rw [fO_up (by omega)]; unfold fC2; rw [fO_at]; exact Or.inl rfl
    · unfold fC2 fC1
      rw [up_ne (by omega), up_ne (by omega), up_ne (by omega), up_ne (by omega)]; exact hl.2.2.1
    · unfold fC2 fC1
      rw [up_ne (by omega), up_ne (by omega), up_ne (by omega), up_ne (by omega)]; exact hl.2.2.2
  · unfold fC1
    refine ⟨fun _ => ?_, ?_, ?_, ?_⟩
    · rw [fO_up (by omega), fO_at]; exact iR_of hy (by omega)
    · rw [fO_up (by omega), fO_up (by omega)]; exact hl.2.1
    · rw [up_ne (by omega), up_ne (by omega)]; exact hl.2.2.1
    · rw [up_ne (by omega), up_ne (by omega)]; exact hl.2.2.2
theorem lG_over {d : Nat → Int32} {g : Nat} (hl : lG d g) (hg : g < 8) : lG (fOver d g) g := by
  unfold fOver
  refine ⟨?_, ?_, ?_, ?_⟩
  · rw [fO_up (by omega), fO_up (by omega), fO_at]; exact fun z => absurd z (by decide)
  · rw [fO_up (by omega), fO_up (by omega), fO_up (by omega)]; exact hl.2.1
  · rw [up_ne (by omega), up_ne (by omega), up_ne (by omega)]; exact hl.2.2.1
  · rw [up_at, up_ne (by omega), up_ne (by omega)]; exact iR_and hl.2.2.2 hg
theorem cl_lt {x : Int32} {n : Nat} (h : 0 ≤ x.toInt) (h2 : x.toInt < (n : Int)) : cl x < n := (iR_clamp ⟨h, h2⟩).1
theorem lG_go {d : Nat → Int32} {g : Nat} {b x : Int32} (hl : lG d g) (hg : g < 8) : lG (fGo d g b x) g := by
  unfold fGo
  split
  next hx =>
    split
    · repeat' split
      all_goals first | exact hl | exact lG_meets hl hg
    · exact lG_comes hl (cl_lt hx.1 (by omega))
  · exact hl
theorem lG_goes {d : Nat → Int32} {g : Nat} {fog : Int32} (hl : lG d g) (hg : g < 8) : lG (fGoes d g fog) g := by
  unfold fGoes
  repeat' split
  all_goals first | exact hl | exact lG_go hl hg | exact lG_over hl hg
theorem lG_step {d : Nat → Int32} {g : Nat} {fog : Int32} (h : gW d) (hg : g < 8) : lG (fStep d g fog) g := by
  have hl := gW_lG h hg
  unfold fStep
  split
  · split
    · exact hl
    · split
      · exact hl
      · refine ⟨fun _ => ?_, ?_, ?_, ?_⟩
        · rw [fO_up (by omega), fO_up (by omega), fO_at]; exact (h.1.2.2.2 g hg).2.1
        · rw [fO_at]; exact Or.inl rfl
        · rw [up_ne (by omega), up_ne (by omega), up_ne (by omega), up_ne (by omega)]; exact hl.2.2.1
        · rw [up_ne (by omega), up_ne (by omega), up_ne (by omega), up_ne (by omega)]; exact hl.2.2.2
  · split
    · split
      · exact lG_goes hl hg
      · refine ⟨?_, ?_, ?_, ?_⟩
        · rw [fO_up (by omega), fO_up (by omega)]; exact hl.1
        · rw [fO_up (by omega)]; exact hl.2.1
        · rw [up_ne (by omega)]; exact hl.2.2.1
        · rw [up_ne (by omega)]; exact hl.2.2.2
    · exact hl
theorem gW_step {d : Nat → Int32} {g : Nat} {fog : Int32} (h : gW d) (hg : g < 8) : gW (fStep d g fog) := gW_of h hg sD_step (lG_step h hg)
theorem fSt_ne {fog : Int32} : ∀ m k (d : Nat → Int32) j, ¬ (34 ≤ j ∧ j < 34 + 10 * (k + m)) → j ≠ 2 → j ≠ 3 → j ≠ 5 → fSt fog m k d j = d j := by
  intro m
  induction m with
  | zero => intro k d j _ _ _ _; rfl
  | succ m ih =>
    intro k d j h1 h2 h3 h4
    rw [fSt, ih (k + 1) _ j (by omega) h2 h3 h4]
    exact sD_step j (by omega) h2 h3 h4
theorem fSt_w {fog : Int32} {w : Nat} (hw : w < 5) {h : Nat} : ∀ m k (d : Nat → Int32), fO (fSt fog m k d) h w = fO d h w := by
  intro m
  induction m with
  | zero => intro k d; rfl
  | succ m ih =>
    intro k d
    rw [fSt, ih]
    exact sD_fO sD_step (by omega) (Or.inr hw)
theorem gW_st {fog : Int32} : ∀ m k (d : Nat → Int32), gW d → k + m ≤ 8 → gW (fSt fog m k d) := by
  intro m
  induction m with
  | zero => intro k d h _; exact h
  | succ m ih => intro k d h hk; exact ih (k + 1) _ (gW_step h (by omega)) (by omega)
theorem gW_1 {d : Nat → Int32} {v : Int32} (h : gW d) : gW (up d 1 v) := by
  obtain ⟨⟨h0, h1, h2, h3⟩, h4, h5, h6⟩ := h
  refine ⟨⟨?_, ?_, ?_, fun j hj => ⟨?_, ?_, ?_⟩⟩, fun j hj => ?_, ?_, ?_⟩
  · rw [up_ne (by omega)]; exact h0
  · rw [up_ne (by omega)]; exact h1
  · rw [up_ne (by omega)]; exact h2
  · rw [fO_up (by omega)]; exact (h3 j hj).1
  · rw [fO_up (by omega)]; exact (h3 j hj).2.1
  · rw [fO_up (by omega), fO_up (by omega)]; exact (h3 j hj).2.2
  · rw [fO_up (by omega)]; exact h4 j hj
  · rw [up_ne (by omega)]; exact h5
  · rw [up_ne (by omega)]; exact h6
theorem gW_min {d : Nat → Int32} {fog : Int32} (h : gW d) : gW (fMin d fog) := gW_st _ _ _ (gW_1 h) (by have := (fN_eq h.1.1).2; omega)
theorem fMin_0 {d : Nat → Int32} {fog : Int32} : fMin d fog 0 = d 0 := by
  unfold fMin
  rw [fSt_ne _ _ _ 0 (by omega) (by omega) (by omega) (by omega), up_ne (by omega)]
theorem fMin_N {d : Nat → Int32} {fog : Int32} : fN (fMin d fog) = fN d := by
  unfold fN
  rw [fMin_0]
theorem fMin_1 {d : Nat → Int32} {fog : Int32} : fMin d fog 1 = d 1 + 1 := by
  unfold fMin
  rw [fSt_ne _ _ _ 1 (by omega) (by omega) (by omega) (by omega), up_at]
theorem fMin_hi {d : Nat → Int32} {fog : Int32} (h : gW d) {j : Nat} (hj : j = 4 ∨ (6 ≤ j ∧ j < 34) ∨ 114 ≤ j) : fMin d fog j = d j := by
  have := (fN_eq h.1.1).2
  unfold fMin
  rw [fSt_ne _ _ _ j (by omega) (by omega) (by omega) (by omega), up_ne (by omega)]
theorem fMin_w {d : Nat → Int32} {fog : Int32} {g w : Nat} (hw : w < 5) : fO (fMin d fog) g w = fO d g w := by
  unfold fMin
  rw [fSt_w hw, fO_up (by omega)]
theorem c_aMinute {sc : List Value} {nm : Nat} {I : mg_I} {d0 : Nat → Int32} {fog : Int32} (hw : gW d0) : SP sc 46 189 [.ref 124, .int fog] (mR I d0) nm (qN (mR I (fMin d0 fog)) nm) := by
  refine SP.of (h := 45) (t := 189) (q := (yX12_aMinute, cX12_aMinute, 5, none, 12, 1325, mi_k189)) rfl (by decide) (show ¬ (5 : Nat) < 2 by decide) (fun d hd => ?_)
  show GG sc 12 false false mi_k189 d 0 [.ref 124, .int fog, .null, .null, .null] [] (mR I d0) nm (qN (mR I (fMin d0 fog)) nm)
  generalize hn : fN d0 = n
  have hn8 : n ≤ 8 := by rw [← hn]; exact (fN_eq hw.1.1).2
  have H : ∀ (m k : Nat) (d0 : Nat → Int32) (J : mg_I) {x3 x4 : Value}, gW d0 → fN d0 = n → k + m = n → GG sc 12 false false mi_k189 d 12 [.ref 124, .int fog, .int (nI k), x3, x4] [] (mR J d0) nm (qN (mR J (fSt fog m k d0)) nm) := by
    intro m
    induction m with
    | zero =>
      intro k d0 J x3 x4 hw hn hk
      have hN := hw.1.1
      refine g_iload_n (n := 13) rfl rfl ?_
      refine g_aload_n (n := 14) rfl rfl ?_
      refine g_getr (n := 17) (ci := 12) (j := 0) (b := 125) rfl (by decide +kernel) (by decide) (by decide) (by decide +kernel) ?_
      refine g_iconst (n := 18) (v := 0) rfl rfl ?_
      refine g_iald (n := 19) (0) rfl (by decide) rfl (by show _ < 286; omega) ?_
      try simp only [mR_125, mR_up]
      refine g_icge (n := 22) 161 rfl (by decide) (fun h1 => ?_) (fun h1 => ?_)
      ·
        refine g_vret (n := 162) rfl ?_
        exact ⟨rfl, mE.rfl', rfl⟩
      ·
        exact absurd (fN_nle (fN_eq hN).1 (by omega) (by omega) h1) (by omega)
    | succ m ih =>
      intro k d0 J x3 x4 hw hn hk
      have hN := hw.1.1
      have hgw := gW_step (g := k) (fog := fog) hw (by omega)
      have hd1 : fN (fStep d0 k fog) = n := by
        have e : fStep d0 k fog 0 = d0 0 := sD_step 0 (by omega) (by omega) (by omega) (by omega)
        unfold fN at hn ⊢
        rw [e]; exact hn
      obtain ⟨j, hj, hfj, _⟩ := iR_nI (hw.1.2.2.2 k (by omega)).2.1
      have hcj : cl (nI j) = j := nI_clamp (by omega)
      rw [fSt]
      unfold fStep at hgw hd1 ⊢
      rw [hfj, hcj] at hgw hd1 ⊢
      refine g_iload_n (n := 13) rfl rfl ?_
      refine g_aload_n (n := 14) rfl rfl ?_
      refine g_getr (n := 17) (ci := 12) (j := 0) (b := 125) rfl (by decide +kernel) (by decide) (by decide) (by decide +kernel) ?_
      refine g_iconst (n := 18) (v := 0) rfl rfl ?_
      refine g_iald (n := 19) (0) rfl (by decide) rfl (by show _ < 286; omega) ?_
      try simp only [mR_125, mR_up]
      refine g_icge (n := 22) 161 rfl (by decide) (fun h1 => ?_) (fun h1 => ?_)
      ·
        exact absurd (fN_le (fN_eq hN).1 (by omega) (by omega) h1) (by omega)
      ·
        refine g_aload_n (n := 23) rfl rfl ?_
        refine g_iload_n (n := 24) rfl rfl ?_
        refine g_iconst (n := 25) (v := 5) rfl rfl ?_
        refine g_cv2 (n := 28) (t := 145) (ci := 12) rfl (by decide +kernel) (by decide +kernel) (by decide) (by decide) (by decide +kernel) (by rfl) (c_of (g := k) (w := 5) (by omega) (by omega)) (by omega) (g_E ?_)
        try simp only [mR_125, mR_up]
        refine g_istore_n3 (n := 29) rfl rfl ?_
        refine g_aload_n (n := 30) rfl rfl ?_
        refine g_iload_n (n := 31) rfl rfl ?_
        refine g_iconst (n := 32) (v := 2) rfl rfl ?_
        refine g_cv2 (n := 35) (t := 145) (ci := 12) rfl (by decide +kernel) (by decide +kernel) (by decide) (by decide) (by decide +kernel) (by rfl) (c_of (g := k) (w := 2) (by omega) (by omega)) (by omega) (g_E ?_)
        refine g_top (w := nI j) hfj ?_
        refine g_istore4 (n := 37) rfl rfl ?_
        refine g_iload_n (n := 38) rfl rfl ?_
        refine g_ifne (n := 41) 110 rfl (by decide) (fun h2 => ?_) (fun h2 => ?_)
        ·
          rw [if_neg h2] at hgw hd1 ⊢
          refine g_iload_n (n := 111) rfl rfl ?_
          refine g_iconst (n := 112) (v := 1) rfl rfl ?_
          refine g_icne (n := 115) 144 rfl (by decide) (fun h3 => ?_) (fun h3 => ?_)
          ·
            rw [if_neg h3] at hgw hd1 ⊢
            refine g_iload_n (n := 145) rfl rfl ?_
            refine g_iconst (n := 146) (v := 1) rfl rfl ?_
            refine g_icne (n := 149) 155 rfl (by decide) (fun h4 => ?_) (fun h4 => ?_)
            ·
              refine g_iinc2 (n := 158) rfl rfl (nI_inc _) ?_
              refine g_goto 12 rfl (by decide) ?_
              exact ih (k + 1) _ J hgw hd1 (by omega)
            ·
              exact absurd h4 h3
          ·
            rw [if_pos h3] at hgw hd1 ⊢
            refine g_aload_n (n := 116) rfl rfl ?_
            refine g_iload_n (n := 117) rfl rfl ?_
            refine g_bipush (n := 119) (v := 7) rfl rfl ?_
            refine g_cv2 (n := 122) (t := 145) (ci := 12) rfl (by decide +kernel) (by decide +kernel) (by decide) (by decide) (by decide +kernel) (by rfl) (c_of (g := k) (w := 7) (by omega) (by omega)) (by omega) (g_E ?_)
            try simp only [mR_125, mR_up]
            refine g_ifle (n := 125) 144 rfl (by decide) (fun h5 => ?_) (fun h5 => ?_)
            ·
              rw [if_pos h5] at hgw hd1 ⊢
              refine g_iload_n (n := 145) rfl rfl ?_
              refine g_iconst (n := 146) (v := 1) rfl rfl ?_
              refine g_icne (n := 149) 155 rfl (by decide) (fun h6 => ?_) (fun h6 => ?_)
              ·
                exact absurd h3 h6
              ·
                refine g_aload_n (n := 150) rfl rfl ?_
                refine g_iload_n (n := 151) rfl rfl ?_
                refine g_iload_n (n := 152) rfl rfl ?_
                refine g_cv2 (n := 155) (t := 188) (ci := 12) rfl (by decide +kernel) (by decide +kernel) (by decide) (by decide) (by decide +kernel) (by rfl) (c_goesOn (g := k) hw.1 (by omega) (by assumption)) (by omega) (g_N fun I1 he => ?_)
                obtain ⟨J1, rfl, hJ1⟩ := mR_mE he
                clear he
                refine g_iinc2 (n := 158) rfl rfl (nI_inc _) ?_
                refine g_goto 12 rfl (by decide) ?_
                exact (ih (k + 1) _ J1 hgw hd1 (by omega)).mono (fun r I2 nm2 hq => ⟨hq.1, (mE_mR hJ1).trans hq.2.1, hq.2.2⟩)
            ·
              rw [if_neg h5] at hgw hd1 ⊢
              refine g_aload_n (n := 126) rfl rfl ?_
              refine g_iload_n (n := 127) rfl rfl ?_
              refine g_bipush (n := 129) (v := 7) rfl rfl ?_
              refine g_aload_n (n := 130) rfl rfl ?_
              refine g_iload_n (n := 131) rfl rfl ?_
              refine g_bipush (n := 133) (v := 7) rfl rfl ?_
              refine g_cv2 (n := 136) (t := 145) (ci := 12) rfl (by decide +kernel) (by decide +kernel) (by decide) (by decide) (by decide +kernel) (by rfl) (c_of (g := k) (w := 7) (by omega) (by omega)) (by omega) (g_E ?_)
              try simp only [mR_125, mR_up]
              refine g_iconst (n := 137) (v := 1) rfl rfl ?_
              refine g_isub (n := 138) rfl ?_
              refine g_cv3 (n := 141) (t := 146) (ci := 12) rfl (by decide +kernel) (by decide +kernel) (by decide) (by decide) (by decide +kernel) (by rfl) (c_sets (g := k) (w := 7) (by omega) (by omega)) (by omega) (g_Z ?_)
              try simp only [mR_125, mR_up]
              refine g_goto 155 rfl (by decide) ?_
              refine g_iinc2 (n := 158) rfl rfl (nI_inc _) ?_
              refine g_goto 12 rfl (by decide) ?_
              exact ih (k + 1) _ J hgw hd1 (by omega)
        ·
          rw [if_pos h2] at hgw hd1 ⊢
          refine g_aload_n (n := 42) rfl rfl ?_
          refine g_iload_n (n := 43) rfl rfl ?_
          refine g_iconst (n := 44) (v := 4) rfl rfl ?_
          refine g_cv2 (n := 47) (t := 145) (ci := 12) rfl (by decide +kernel) (by decide +kernel) (by decide) (by decide) (by decide +kernel) (by rfl) (c_of (g := k) (w := 4) (by omega) (by omega)) (by omega) (g_E ?_)
          try simp only [mR_125, mR_up]
          refine g_aload_n (n := 48) rfl rfl ?_
          refine g_getr (n := 51) (ci := 12) (j := 0) (b := 125) rfl (by decide +kernel) (by decide) (by decide) (by decide +kernel) ?_
          refine g_iconst (n := 52) (v := 1) rfl rfl ?_
          refine g_iald (n := 53) (1) rfl (by decide) rfl (by show _ < 286; omega) ?_
          try simp only [mR_125, mR_up]
          refine g_icgt (n := 56) 110 rfl (by decide) (fun h7 => ?_) (fun h7 => ?_)
          ·
            rw [if_pos h7] at hgw hd1 ⊢
            refine g_iload_n (n := 111) rfl rfl ?_
            refine g_iconst (n := 112) (v := 1) rfl rfl ?_
            refine g_icne (n := 115) 144 rfl (by decide) (fun h8 => ?_) (fun h8 => ?_)
            ·
              refine g_iload_n (n := 145) rfl rfl ?_
              refine g_iconst (n := 146) (v := 1) rfl rfl ?_
              refine g_icne (n := 149) 155 rfl (by decide) (fun h9 => ?_) (fun h9 => ?_)
              ·
                refine g_iinc2 (n := 158) rfl rfl (nI_inc _) ?_
                refine g_goto 12 rfl (by decide) ?_
                exact ih (k + 1) _ J hgw hd1 (by omega)
              ·
                exact absurd h9 h8
            ·
              exact absurd (h2.symm.trans h8) (by decide)
          ·
            rw [if_neg h7] at hgw hd1 ⊢
            refine g_aload_n (n := 57) rfl rfl ?_
            refine g_iload (n := 59) rfl rfl ?_
            refine g_cv1 (n := 62) (t := 165) (ci := 12) rfl (by decide +kernel) (by decide +kernel) (by decide) (by decide) (by decide +kernel) (by rfl) (c_atYard hN) (by omega) (g_E ?_)
            try simp only [mR_125, mR_up]
            refine g_aload_n (n := 63) rfl rfl ?_
            refine g_getr (n := 66) (ci := 12) (j := 0) (b := 125) rfl (by decide +kernel) (by decide) (by decide) (by decide +kernel) ?_
            refine g_bipush (n := 68) (v := 10) rfl rfl ?_
            refine g_iload (n := 70) rfl rfl ?_
            refine g_iaddN (n := 71) (x := 10) (y := j) rfl ?_
            refine g_iald (n := 72) ((10 + j)) rfl (by decide) rfl (by show _ < 286; omega) ?_
            try simp only [mR_125, mR_up]
            refine g_icge (n := 75) 110 rfl (by decide) (fun h10 => ?_) (fun h10 => ?_)
            ·
              rw [if_pos h10] at hgw hd1 ⊢
              refine g_iload_n (n := 111) rfl rfl ?_
              refine g_iconst (n := 112) (v := 1) rfl rfl ?_
              refine g_icne (n := 115) 144 rfl (by decide) (fun h11 => ?_) (fun h11 => ?_)
              ·
                refine g_iload_n (n := 145) rfl rfl ?_
                refine g_iconst (n := 146) (v := 1) rfl rfl ?_
                refine g_icne (n := 149) 155 rfl (by decide) (fun h12 => ?_) (fun h12 => ?_)
                ·
                  refine g_iinc2 (n := 158) rfl rfl (nI_inc _) ?_
                  refine g_goto 12 rfl (by decide) ?_
                  exact ih (k + 1) _ J hgw hd1 (by omega)
                ·
                  exact absurd h12 h11
              ·
                exact absurd (h2.symm.trans h11) (by decide)
            ·
              rw [if_neg h10] at hgw hd1 ⊢
              refine g_aload_n (n := 76) rfl rfl ?_
              refine g_iload_n (n := 77) rfl rfl ?_
              refine g_iconst (n := 78) (v := 5) rfl rfl ?_
              refine g_iconst (n := 79) (v := 1) rfl rfl ?_
              refine g_cv3 (n := 82) (t := 146) (ci := 12) rfl (by decide +kernel) (by decide +kernel) (by decide) (by decide) (by decide +kernel) (by rfl) (c_sets (g := k) (w := 5) (by omega) (by omega)) (by omega) (g_Z ?_)
              try simp only [mR_125, mR_up]
              refine g_aload_n (n := 83) rfl rfl ?_
              refine g_iload_n (n := 84) rfl rfl ?_
              refine g_bipush (n := 86) (v := 6) rfl rfl ?_
              refine g_iload (n := 88) rfl rfl ?_
              refine g_cv3 (n := 91) (t := 146) (ci := 12) rfl (by decide +kernel) (by decide +kernel) (by decide) (by decide) (by decide +kernel) (by rfl) (c_sets (g := k) (w := 6) (by omega) (by omega)) (by omega) (g_Z ?_)
              try simp only [mR_125, mR_up]
              refine g_aload_n (n := 92) rfl rfl ?_
              refine g_iload_n (n := 93) rfl rfl ?_
              refine g_bipush (n := 95) (v := 7) rfl rfl ?_
              refine g_iconst (n := 96) (v := 0) rfl rfl ?_
              refine g_cv3 (n := 99) (t := 146) (ci := 12) rfl (by decide +kernel) (by decide +kernel) (by decide) (by decide) (by decide +kernel) (by rfl) (c_sets (g := k) (w := 7) (by omega) (by omega)) (by omega) (g_Z ?_)
              try simp only [mR_125, mR_up]
              refine g_aload_n (n := 100) rfl rfl ?_
              refine g_iload_n (n := 101) rfl rfl ?_
              refine g_bipush (n := 103) (v := 8) rfl rfl ?_
              refine g_iconst (n := 104) (v := 0) rfl rfl ?_
              refine g_cv3 (n := 107) (t := 146) (ci := 12) rfl (by decide +kernel) (by decide +kernel) (by decide) (by decide) (by decide +kernel) (by rfl) (c_sets (g := k) (w := 8) (by omega) (by omega)) (by omega) (g_Z ?_)
              try simp only [mR_125, mR_up]
              refine g_goto 155 rfl (by decide) ?_
              refine g_iinc2 (n := 158) rfl rfl (nI_inc _) ?_
              refine g_goto 12 rfl (by decide) ?_
              exact ih (k + 1) _ J hgw hd1 (by omega)
  have hn1 : fN (up d0 1 (d0 1 + 1)) = n := by
    unfold fN at hn ⊢
    rw [up_ne (by omega)]; exact hn
  subst hn
  unfold fMin
  refine g_aload_n (n := 1) rfl rfl ?_
  refine g_getr (n := 4) (ci := 12) (j := 0) (b := 125) rfl (by decide +kernel) (by decide) (by decide) (by decide +kernel) ?_
  refine g_iconst (n := 5) (v := 1) rfl rfl ?_
  refine g_dup2 (n := 6) rfl ?_
  refine g_iald (n := 7) (1) rfl (by decide) rfl (by show _ < 286; omega) ?_
  try simp only [mR_125, mR_up]
  refine g_iconst (n := 8) (v := 1) rfl rfl ?_
  refine g_iadd (n := 9) rfl ?_
  refine g_iast (n := 10) (1) rfl (by decide) rfl (by show _ < 286; omega) ?_
  try simp only [mR_125, mR_up]
  refine g_iconst (n := 11) (v := 0) rfl rfl ?_
  refine g_istore_n2 (n := 12) rfl rfl ?_
  exact H (fN d0) 0 _ I (gW_1 hw) hn1 (by omega)
end
section
/-! the model AHEAD: what is tried and put back -/
theorem mR_r124 {I : mg_I} {d : Nat → Int32} : mR I d 124 = I 124 := rfl
theorem mR_w124 {I : mg_I} {d : Nat → Int32} {j : Nat} {v : Int32} : mf_up (mR I d) 124 j v = mR (mf_up I 124 j v) d := by
  funext a k
  unfold mf_up mR
  by_cases h1 : a = 124 <;> by_cases h2 : a = 125 <;> simp_all
theorem mR_r126 {I : mg_I} {d : Nat → Int32} : mR I d 126 = I 126 := rfl
theorem mR_w126 {I : mg_I} {d : Nat → Int32} {j : Nat} {v : Int32} : mf_up (mR I d) 126 j v = mR (mf_up I 126 j v) d := by
  funext a k
  unfold mf_up mR
  by_cases h1 : a = 126 <;> by_cases h2 : a = 125 <;> simp_all
theorem mR_r128 {I : mg_I} {d : Nat → Int32} : mR I d 128 = I 128 := rfl
theorem mR_w128 {I : mg_I} {d : Nat → Int32} {j : Nat} {v : Int32} : mf_up (mR I d) 128 j v = mR (mf_up I 128 j v) d := by
  funext a k
  unfold mf_up mR
  by_cases h1 : a = 128 <;> by_cases h2 : a = 125 <;> simp_all
theorem mR_r130 {I : mg_I} {d : Nat → Int32} : mR I d 130 = I 130 := rfl
theorem mR_w130 {I : mg_I} {d : Nat → Int32} {j : Nat} {v : Int32} : mf_up (mR I d) 130 j v = mR (mf_up I 130 j v) d := by
  funext a k
  unfold mf_up mR
  by_cases h1 : a = 130 <;> by_cases h2 : a = 125 <;> simp_all
theorem mR_r131 {I : mg_I} {d : Nat → Int32} : mR I d 131 = I 131 := rfl
theorem mR_w131 {I : mg_I} {d : Nat → Int32} {j : Nat} {v : Int32} : mf_up (mR I d) 131 j v = mR (mf_up I 131 j v) d := by
  funext a k
  unfold mf_up mR
  by_cases h1 : a = 131 <;> by_cases h2 : a = 125 <;> simp_all
theorem mR_r132 {I : mg_I} {d : Nat → Int32} : mR I d 132 = I 132 := rfl
theorem mR_w132 {I : mg_I} {d : Nat → Int32} {j : Nat} {v : Int32} : mf_up (mR I d) 132 j v = mR (mf_up I 132 j v) d := by
  funext a k
  unfold mf_up mR
  by_cases h1 : a = 132 <;> by_cases h2 : a = 125 <;> simp_all
theorem mR_r133 {I : mg_I} {d : Nat → Int32} : mR I d 133 = I 133 := rfl
theorem mR_w133 {I : mg_I} {d : Nat → Int32} {j : Nat} {v : Int32} : mf_up (mR I d) 133 j v = mR (mf_up I 133 j v) d := by
  funext a k
  unfold mf_up mR
  by_cases h1 : a = 133 <;> by_cases h2 : a = 125 <;> simp_all
theorem mR_r134 {I : mg_I} {d : Nat → Int32} : mR I d 134 = I 134 := rfl
theorem mR_w134 {I : mg_I} {d : Nat → Int32} {j : Nat} {v : Int32} : mf_up (mR I d) 134 j v = mR (mf_up I 134 j v) d := by
  funext a k
  unfold mf_up mR
  by_cases h1 : a = 134 <;> by_cases h2 : a = 125 <;> simp_all
theorem mR_r135 {I : mg_I} {d : Nat → Int32} : mR I d 135 = I 135 := rfl
theorem mR_w135 {I : mg_I} {d : Nat → Int32} {j : Nat} {v : Int32} : mf_up (mR I d) 135 j v = mR (mf_up I 135 j v) d := by
  funext a k
  unfold mf_up mR
  by_cases h1 : a = 135 <;> by_cases h2 : a = 125 <;> simp_all
theorem mR_mR {I : mg_I} {d d' : Nat → Int32} : mR (mR I d) d' = mR I d' := by
  funext a j
  unfold mR
  by_cases h : a = 125 <;> simp [h]
/-- alike but for what stays behind of work -/
def mX (I I' : mg_I) : Prop := ∀ a j, ¬ (a = 127 ∨ a = 129 ∨ a = 130 ∨ a = 135 ∨ (a = 124 ∧ ¬ j = 3 ∧ ¬ j = 19)) → I' a j = I a j
def mF (I I' : mg_I) : Prop := ∀ a j, ¬ (a = 127 ∨ a = 129 ∨ (a = 124 ∧ 5 ≤ j ∧ j ≤ 13)) → I' a j = I a j
theorem mX.rfl' {I : mg_I} : mX I I := fun _ _ _ => rfl
theorem mX.trans {I J K : mg_I} (h : mX I J) (h2 : mX J K) : mX I K := fun a j x => (h2 a j x).trans (h a j x)
theorem mF.rfl' {I : mg_I} : mF I I := fun _ _ _ => rfl
theorem mF.trans {I J K : mg_I} (h : mF I J) (h2 : mF J K) : mF I K := fun a j x => (h2 a j x).trans (h a j x)
theorem mF.x {I J : mg_I} (h : mF I J) : mX I J := fun a j x => h a j (by omega)
theorem mE.f {I J : mg_I} (h : mE I J) : mF I J := fun a j x => h a j (by omega)
theorem mE.x {I J : mg_I} (h : mE I J) : mX I J := h.f.x
theorem mX_mR {I J : mg_I} (h : mX I J) {d : Nat → Int32} : mX (mR I d) (mR J d) := by
  intro a j hx
  unfold mR
  split
  · rfl
  · exact h a j hx
theorem mF_mR {I J : mg_I} (h : mF I J) {d : Nat → Int32} : mF (mR I d) (mR J d) := by
  intro a j hx
  unfold mR
  split
  · rfl
  · exact h a j hx
theorem mF_mRi {I I' : mg_I} {d : Nat → Int32} (h : mF (mR I d) I') : ∃ J, I' = mR J d ∧ mF I J := by
  refine ⟨fun a j => if a = 125 then I 125 j else I' a j, ?_, ?_⟩
  · funext a j
    unfold mR
    split
    next h1 => subst h1; exact h 125 j (by omega)
    next h1 => exact (if_neg h1).symm
  · intro a j hx
    show (if a = 125 then I 125 j else I' a j) = I a j
    split
    next h1 => subst h1; rfl
    next h1 => exact (h a j hx).trans (if_neg h1)
theorem mX_124 {I J : mg_I} (h : mX I J) {j : Nat} {v : Int32} (hj : ¬ j = 3 ∧ ¬ j = 19) : mX I (mf_up J 124 j v) := by
  intro a k hx
  unfold mf_up
  rw [if_neg (by omega)]
  exact h a k hx
theorem mX_row {I J : mg_I} (h : mX I J) {a j : Nat} {v : Int32} (ha : a = 127 ∨ a = 129 ∨ a = 130 ∨ a = 135) : mX I (mf_up J a j v) := by
  intro b k hx
  unfold mf_up
  rw [if_neg (by omega)]
  exact h b k hx
theorem mX_up {I J : mg_I} (h : mX I J) {a j : Nat} {v : Int32} : mX (mf_up I a j v) (mf_up J a j v) := by
  intro b k hx
  unfold mf_up
  split
  · rfl
  · exact h b k hx
/-- an act's answer: an error's number (0: none), the answer, the numbers behind it -/
abbrev rD : Type := Nat × Int32 × (Nat → Int32)
def fE (d : Nat → Int32) (k : Nat) : rD := (k, 0, d)
def ans (p : rD) : Int32 := if p.1 = 0 then p.2.1 else -1000000000 - nI p.1
def fEr (I : mg_I) (e : Nat) : mg_I := if e = 0 then I else mf_up I 128 e (I 128 e + 1)
def qD (I : mg_I) (p : rD) (nm : Nat) : Option Value → mg_I → Nat → Prop := fun r I' nm' => r = some (.int (ans p)) ∧ mX (mR (fEr I p.1) p.2.2) I' ∧ nm' = nm
theorem qD_e {I J : mg_I} {d : Nat → Int32} {k nm : Nat} (hk : 0 < k) (h : mX I J) : qD I (fE d k) nm (some (.int (-1000000000 - nI k))) (mR (mf_up J 128 k (J 128 k + 1)) d) nm := by
  refine ⟨congrArg (fun z => some (Value.int z)) ?_, mX_mR ?_, rfl⟩
  · exact (if_neg (by show ¬ k = 0; omega)).symm
  · rw [show fEr I (fE d k).1 = mf_up I 128 k (I 128 k + 1) from if_neg (by show ¬ k = 0; omega), h 128 k (by omega)]
    exact mX_up h
theorem qD_v {I J : mg_I} {d : Nat → Int32} {v : Int32} {nm : Nat} (h : mX I J) : qD I (0, v, d) nm (some (.int v)) (mR J d) nm := ⟨rfl, mX_mR h, rfl⟩
/-- row 127 holds what is put back -/
def kA (I : mg_I) (d : Nat → Int32) : mg_I := fun x j => if x = 127 ∧ j < 114 then d j else I x j
theorem kA_mF {I : mg_I} {d : Nat → Int32} : mF I (kA I d) := by
  intro a j hx
  unfold kA
  rw [if_neg (by omega)]
theorem c_keep {sc : List Value} {nm : Nat} {I : mg_I} {d0 : Nat → Int32} : SP sc 1 147 [.ref 124] (mR I d0) nm (qZ (mR (kA I d0) d0) nm) := by
  have e : mcp (mR I d0) 127 125 114 = mR (kA I d0) d0 := by
    funext x j
    unfold mcp mR kA
    by_cases h : x = 125
    · subst h
      rw [if_neg (by omega), if_pos rfl, if_pos rfl]
    · rw [if_neg h, if_neg h, if_pos rfl]
  have h := c_keepAside (sc := sc) (nm := nm) (I := mR I d0)
  rw [e] at h
  exact h
/-- what was kept, and nothing else changed there -/
def kK (J : mg_I) (d dd : Nat → Int32) : Prop := (∀ j, j < 114 → J 127 j = dd j) ∧ ∀ j, 114 ≤ j → d j = dd j
theorem kK_A {I : mg_I} {d : Nat → Int32} : kK (kA I d) d d := ⟨fun j hj => if_pos ⟨rfl, hj⟩, fun _ _ => rfl⟩
theorem kK_mE {J K : mg_I} {d dd : Nat → Int32} (h : kK J d dd) (hm : mE J K) : kK K d dd := ⟨fun j hj => (hm 127 j (by omega)).trans (h.1 j hj), h.2⟩
theorem kK_d {J : mg_I} {d d' dd : Nat → Int32} (h : kK J d dd) (hm : ∀ j, 114 ≤ j → d' j = d j) : kK J d' dd := ⟨h.1, fun j hj => (hm j hj).trans (h.2 j hj)⟩
theorem kK_up {J : mg_I} {d dd : Nat → Int32} (h : kK J d dd) {a j : Nat} {v : Int32} (ha : a ≠ 127) : kK (mf_up J a j v) d dd := ⟨fun k hk => (if_neg (by omega)).trans (h.1 k hk), h.2⟩
theorem kK_min {J K : mg_I} {d dd : Nat → Int32} {fog : Int32} (h : kK J d dd) (hw : gW d) (hm : mE J K) : kK K (fMin d fog) dd := kK_d (kK_mE h hm) (fun j hj => fMin_hi hw (by omega))
theorem c_back {sc : List Value} {nm : Nat} {J : mg_I} {d dd : Nat → Int32} (h : kK J d dd) : SP sc 1 148 [.ref 124] (mR J d) nm (qZ (mR J dd) nm) := by
  have e : mcp (mR J d) 125 127 114 = mR J dd := by
    funext x j
    unfold mcp mR
    by_cases hx : x = 125
    · subst hx
      by_cases hj : j < 114
      · rw [if_pos ⟨rfl, hj⟩, if_pos rfl, if_neg (by decide)]; exact h.1 j hj
      · rw [if_neg (by omega), if_pos rfl, if_pos rfl]; exact h.2 j (by omega)
    · rw [if_neg (by omega), if_neg hx, if_neg hx]
  have h2 := c_putBack (sc := sc) (nm := nm) (I := mR J d)
  rw [e] at h2
  exact h2
/-- places that the goers' bounds don't speak of -/
theorem gW_up {d : Nat → Int32} {j : Nat} {v : Int32} (h : gW d) (hj : j = 1 ∨ j = 2 ∨ j = 4 ∨ (6 ≤ j ∧ j < 34) ∨ 116 ≤ j) : gW (up d j v) := by
  obtain ⟨⟨h0, h1, h2, h3⟩, h4, h5, h6⟩ := h
  refine ⟨⟨?_, ?_, ?_, fun j hj => ⟨?_, ?_, ?_⟩⟩, fun j hj => ?_, ?_, ?_⟩
  · rw [up_ne (by omega)]; exact h0
  · rw [up_ne (by omega)]; exact h1
  · rw [up_ne (by omega)]; exact h2
  · rw [fO_up (by omega)]; exact (h3 j hj).1
  · rw [fO_up (by omega)]; exact (h3 j hj).2.1
  · rw [fO_up (by omega), fO_up (by omega)]; exact (h3 j hj).2.2
  · rw [fO_up (by omega)]; exact h4 j hj
  · rw [up_ne (by omega)]; exact h5
  · rw [up_ne (by omega)]; exact h6
theorem gW_start {d : Nat → Int32} {g w : Nat} {v : Int32} (h : gW d) (hg : g < 8) (hw : w = 1 ∨ w = 3 ∨ w = 4 ∨ w = 7 ∨ w = 9) : gW (up d (34 + 10 * g + w) v) := by
  obtain ⟨⟨h0, h1, h2, h3⟩, h4, h5, h6⟩ := h
  refine ⟨⟨?_, ?_, ?_, fun j hj => ⟨?_, ?_, ?_⟩⟩, fun j hj => ?_, ?_, ?_⟩
  · rw [up_ne (by omega)]; exact h0
  · rw [up_ne (by omega)]; exact h1
  · rw [up_ne (by omega)]; exact h2
  · rw [fO_up (by omega)]; exact (h3 j hj).1
  · rw [fO_up (by omega)]; exact (h3 j hj).2.1
  · rw [fO_up (by omega), fO_up (by omega)]; exact (h3 j hj).2.2
  · rw [fO_up (by omega)]; exact h4 j hj
  · rw [up_ne (by omega)]; exact h5
  · rw [up_ne (by omega)]; exact h6
/-! draws, minutes -/
def fDraw (d : Nat → Int32) : Nat → Int32 := up d 4 (d 4 * 1103515245 + 12345)
def fZr (z : Int32) : Int32 := (z.toUInt32 >>> ((8 : Int32).toUInt32 &&& Int32.toUInt32 31)).toInt32
def fFog (z : Int32) : Int32 := bI (fZr z - fZr z / 4 * 4 = 0)
def fPs (dr : Int32) : Nat → (Nat → Int32) → Nat → Int32
  | 0, d => d
  | m + 1, d => fPs dr m (if dr = 0 then fMin d 0 else fMin (fDraw d) (fFog (fDraw d 4)))
def oPass (d : Nat → Int32) (n dr : Int32) : rD :=
  if 1 ≤ n.toInt ∧ n.toInt ≤ 300 then (if d 1 + n ≤ 9999 then (0, fMany (fPs dr (cl n) d) 2, fPs dr (cl n) d) else fE d 3) else fE d 1
theorem c_drawn {sc : List Value} {nm : Nat} {I : mg_I} {d0 : Nat → Int32}  : SP sc 1 191 [.ref 124] (mR I d0) nm (qE (fZr (d0 4 * 1103515245 + 12345)) (mR I (fDraw d0)) nm) := by
  refine SP.of (h := 0) (t := 191) (q := (yX12_drawn, cX12_drawn, 1, (some .int), 12, 1320, mi_k191)) rfl (by decide) (show ¬ (1 : Nat) < 1 by decide) (fun d hd => ?_)
  show GG sc 12 false false mi_k191 d 0 [.ref 124] [] (mR I d0) nm (qE (fZr (d0 4 * 1103515245 + 12345)) (mR I (fDraw d0)) nm)
  refine g_aload_n (n := 1) rfl rfl ?_
  refine g_getr (n := 4) (ci := 12) (j := 0) (b := 125) rfl (by decide +kernel) (by decide) (by decide) (by decide +kernel) ?_
  refine g_iconst (n := 5) (v := 4) rfl rfl ?_
  refine g_aload_n (n := 6) rfl rfl ?_
  refine g_getr (n := 9) (ci := 12) (j := 0) (b := 125) rfl (by decide +kernel) (by decide) (by decide) (by decide +kernel) ?_
  refine g_iconst (n := 10) (v := 4) rfl rfl ?_
  refine g_iald (n := 11) (4) rfl (by decide) rfl (by show _ < 286; omega) ?_
  try simp only [mR_125, mR_up, mR_w124, mR_r124, mR_w126, mR_r126, mR_w128, mR_r128, mR_w130, mR_r130, mR_w131, mR_r131, mR_w132, mR_r132, mR_w133, mR_r133, mR_w134, mR_r134, mR_w135, mR_r135]
  refine g_ldc (n := 13) (v := 1103515245) (pl := 1321) rfl (by decide +kernel) ?_
  refine g_imul (n := 14) rfl ?_
  refine g_sipush (n := 17) (v := 12345) rfl rfl ?_
  refine g_iadd (n := 18) rfl ?_
  refine g_iast (n := 19) (4) rfl (by decide) rfl (by show _ < 286; omega) ?_
  try simp only [mR_125, mR_up, mR_w124, mR_r124, mR_w126, mR_r126, mR_w128, mR_r128, mR_w130, mR_r130, mR_w131, mR_r131, mR_w132, mR_r132, mR_w133, mR_r133, mR_w134, mR_r134, mR_w135, mR_r135]
  refine g_aload_n (n := 20) rfl rfl ?_
  refine g_getr (n := 23) (ci := 12) (j := 0) (b := 125) rfl (by decide +kernel) (by decide) (by decide) (by decide +kernel) ?_
  refine g_iconst (n := 24) (v := 4) rfl rfl ?_
  refine g_iald (n := 25) (4) rfl (by decide) rfl (by show _ < 286; omega) ?_
  try simp only [mR_125, mR_up, mR_w124, mR_r124, mR_w126, mR_r126, mR_w128, mR_r128, mR_w130, mR_r130, mR_w131, mR_r131, mR_w132, mR_r132, mR_w133, mR_r133, mR_w134, mR_r134, mR_w135, mR_r135]
  refine g_bipush (n := 27) (v := 8) rfl rfl ?_
  refine g_iushr (n := 28) rfl ?_
  refine g_iret (n := 29) rfl (fun h => nomatch h) ?_
  exact ⟨rfl, rfl, rfl⟩
theorem c_passes {sc : List Value} {nm : Nat} {I : mg_I} {d0 : Nat → Int32} {n dr : Int32} (hw : gW d0) : SP sc 47 192 [.ref 124, .int n, .int dr] (mR I d0) nm (qD I (oPass d0 n dr) nm) := by
  refine SP.of (h := 46) (t := 192) (q := (yX12_passes, cX12_passes, 4, (some .int), 12, 1315, mi_k192)) rfl (by decide) (show ¬ (4 : Nat) < 3 by decide) (fun d hd => ?_)
  show GG sc 12 false false mi_k192 d 0 [.ref 124, .int n, .int dr, .null] [] (mR I d0) nm (qD I (oPass d0 n dr) nm)
  unfold oPass
  refine g_iload_n (n := 1) rfl rfl ?_
  refine g_i2l (n := 2) rfl ?_
  refine g_lconst (n := 3) (v := 1) rfl rfl ?_
  refine g_ldc2 (n := 6) (v := 300) (pl := 1316) rfl (by decide +kernel) ?_
  refine g_cs3 (n := 9) (t := 141) (x := (1141, 1142, 84)) rfl (by decide +kernel) (by decide +kernel) (by rfl) (c_inI (a := 1) (b := 300) rfl rfl) (by omega) (g_E ?_)
  try simp only [mR_125, mR_up, mR_w124, mR_r124, mR_w126, mR_r126, mR_w128, mR_r128, mR_w130, mR_r130, mR_w131, mR_r131, mR_w132, mR_r132, mR_w133, mR_r133, mR_w134, mR_r134, mR_w135, mR_r135]
  refine g_split (fun h1 => ?_) (fun h1 => ?_)
  ·
    refine g_ifne1 (n := 12) 18 rfl (by decide) ?_
    rw [if_pos h1]
    obtain ⟨nn, hnn, rfl, hcn⟩ := iR_nI (x := n) (n := 301) ⟨by omega, by omega⟩
    have hcl : cl (nI nn) = nn := hcn
    refine g_aload_n (n := 19) rfl rfl ?_
    refine g_getr (n := 22) (ci := 12) (j := 0) (b := 125) rfl (by decide +kernel) (by decide) (by decide) (by decide +kernel) ?_
    refine g_iconst (n := 23) (v := 1) rfl rfl ?_
    refine g_iald (n := 24) (1) rfl (by decide) rfl (by show _ < 286; omega) ?_
    try simp only [mR_125, mR_up, mR_w124, mR_r124, mR_w126, mR_r126, mR_w128, mR_r128, mR_w130, mR_r130, mR_w131, mR_r131, mR_w132, mR_r132, mR_w133, mR_r133, mR_w134, mR_r134, mR_w135, mR_r135]
    refine g_iload_n (n := 25) rfl rfl ?_
    refine g_iadd (n := 26) rfl ?_
    refine g_sipush (n := 29) (v := 9999) rfl rfl ?_
    refine g_icle (n := 32) 38 rfl (by decide) (fun h2 => ?_) (fun h2 => ?_)
    ·
      rw [if_pos h2, hcl]
      refine g_iconst (n := 39) (v := 0) rfl rfl ?_
      refine g_istore_n3 (n := 40) rfl rfl ?_
      have H : ∀ (m k : Nat) (d1 : Nat → Int32) (J : mg_I), k + m = nn → gW d1 → mE I J → fPs dr m d1 = fPs dr nn d0 → GG sc 12 false false mi_k192 d 40 [.ref 124, .int (nI nn), .int dr, .int (nI k)] [] (mR J d1) nm (qD I (0, fMany (fPs dr nn d0) 2, fPs dr nn d0) nm) := by
        intro m
        induction m with
        | zero =>
          intro k d1 J hk hw hJ hf
          have hN := hw.1.1
          have hf2 : d1 = fPs dr nn d0 := hf
          subst hf2
          refine g_iload_n (n := 41) rfl rfl ?_
          refine g_iload_n (n := 42) rfl rfl ?_
          refine g_icge (n := 45) 73 rfl (by decide) (fun h1 => ?_) (fun h1 => ?_)
          ·
            refine g_aload_n (n := 74) rfl rfl ?_
            refine g_iconst (n := 75) (v := 2) rfl rfl ?_
            refine g_cv1 (n := 78) (t := 190) (ci := 12) rfl (by decide +kernel) (by decide +kernel) (by decide) (by decide) (by decide +kernel) (by rfl) (c_howMany (by assumption)) (by omega) (g_E ?_)
            try simp only [mR_125, mR_up, mR_w124, mR_r124, mR_w126, mR_r126, mR_w128, mR_r128, mR_w130, mR_r130, mR_w131, mR_r131, mR_w132, mR_r132, mR_w133, mR_r133, mR_w134, mR_r134, mR_w135, mR_r135]
            refine g_iret (n := 79) rfl (fun h => nomatch h) ?_
            exact qD_v hJ.x
          ·
            exact absurd (fN_nle rfl (by omega) (by omega) h1) (by omega)
        | succ m ih =>
          intro k d1 J hk hw hJ hf
          rw [fPs] at hf
          refine g_iload_n (n := 41) rfl rfl ?_
          refine g_iload_n (n := 42) rfl rfl ?_
          refine g_icge (n := 45) 73 rfl (by decide) (fun h1 => ?_) (fun h1 => ?_)
          ·
            exact absurd (fN_le rfl (by omega) (by omega) h1) (by omega)
          ·
            refine g_aload_n (n := 46) rfl rfl ?_
            refine g_iload_n (n := 47) rfl rfl ?_
            refine g_ifeq (n := 50) 63 rfl (by decide) (fun h2 => ?_) (fun h2 => ?_)
            ·
              rw [if_pos h2] at hf
              refine g_iconst (n := 64) (v := 0) rfl rfl ?_
              refine g_cv1 (n := 67) (t := 189) (ci := 12) rfl (by decide +kernel) (by decide +kernel) (by decide) (by decide) (by decide +kernel) (by rfl) (c_aMinute (d0 := d1) (fog := 0) hw) (by omega) (g_N fun I1 he => ?_)
              obtain ⟨J1, rfl, hJ1⟩ := mR_mE he
              clear he
              refine g_iinc3 (n := 70) rfl rfl (nI_inc _) ?_
              refine g_goto 40 rfl (by decide) ?_
              exact ih (k + 1) _ J1 (by omega) (gW_min hw) (hJ.trans hJ1) hf
            ·
              rw [if_neg h2] at hf
              have hwd : gW (fDraw d1) := gW_up hw (by omega)
              refine g_aload_n (n := 51) rfl rfl ?_
              refine g_cv0 (n := 54) (t := 191) (ci := 12) rfl (by decide +kernel) (by decide +kernel) (by decide) (by decide) (by decide +kernel) (by rfl) c_drawn (by omega) (g_E ?_)
              refine g_iconst (n := 55) (v := 4) rfl rfl ?_
              refine g_irem (n := 56) rfl (by first | decide | assumption) ?_
              refine g_ifne (n := 59) 63 rfl (by decide) (fun h3 => ?_) (fun h3 => ?_)
              ·
                rw [show fFog (fDraw d1 4) = 0 from bI_f h3] at hf
                refine g_iconst (n := 64) (v := 0) rfl rfl ?_
                refine g_cv1 (n := 67) (t := 189) (ci := 12) rfl (by decide +kernel) (by decide +kernel) (by decide) (by decide) (by decide +kernel) (by rfl) (c_aMinute (d0 := (fDraw d1)) (fog := 0) hwd) (by omega) (g_N fun I1 he => ?_)
                obtain ⟨J1, rfl, hJ1⟩ := mR_mE he
                clear he
                refine g_iinc3 (n := 70) rfl rfl (nI_inc _) ?_
                refine g_goto 40 rfl (by decide) ?_
                exact ih (k + 1) _ J1 (by omega) (gW_min hwd) (hJ.trans hJ1) hf
              ·
                rw [show fFog (fDraw d1 4) = 1 from bI_t h3] at hf
                refine g_iconst (n := 60) (v := 1) rfl rfl ?_
                refine g_goto 64 rfl (by decide) ?_
                refine g_cv1 (n := 67) (t := 189) (ci := 12) rfl (by decide +kernel) (by decide +kernel) (by decide) (by decide) (by decide +kernel) (by rfl) (c_aMinute (d0 := (fDraw d1)) (fog := 1) hwd) (by omega) (g_N fun I1 he => ?_)
                obtain ⟨J1, rfl, hJ1⟩ := mR_mE he
                clear he
                refine g_iinc3 (n := 70) rfl rfl (nI_inc _) ?_
                refine g_goto 40 rfl (by decide) ?_
                exact ih (k + 1) _ J1 (by omega) (gW_min hwd) (hJ.trans hJ1) hf
      exact H nn 0 d0 I (by omega) hw mE.rfl' rfl
    ·
      rw [if_neg h2]
      refine g_aload_n (n := 33) rfl rfl ?_
      refine g_iconst (n := 34) (v := 3) rfl rfl ?_
      refine g_cv1 (n := 37) (t := 140) (ci := 12) rfl (by decide +kernel) (by decide +kernel) (by decide) (by decide) (by decide +kernel) (by rfl) (c_finds (k := 3) (by omega)) (by omega) (g_E ?_)
      try simp only [mR_125, mR_up, mR_w124, mR_r124, mR_w126, mR_r126, mR_w128, mR_r128, mR_w130, mR_r130, mR_w131, mR_r131, mR_w132, mR_r132, mR_w133, mR_r133, mR_w134, mR_r134, mR_w135, mR_r135]
      refine g_iret (n := 38) rfl (fun h => nomatch h) ?_
      exact qD_e (by decide) mX.rfl'
  ·
    refine g_ifne0 (n := 12) 18 rfl (by decide) ?_
    rw [if_neg h1]
    refine g_aload_n (n := 13) rfl rfl ?_
    refine g_iconst (n := 14) (v := 1) rfl rfl ?_
    refine g_cv1 (n := 17) (t := 140) (ci := 12) rfl (by decide +kernel) (by decide +kernel) (by decide) (by decide) (by decide +kernel) (by rfl) (c_finds (k := 1) (by omega)) (by omega) (g_E ?_)
    try simp only [mR_125, mR_up, mR_w124, mR_r124, mR_w126, mR_r126, mR_w128, mR_r128, mR_w130, mR_r130, mR_w131, mR_r131, mR_w132, mR_r132, mR_w133, mR_r133, mR_w134, mR_r134, mR_w135, mR_r135]
    refine g_iret (n := 18) rfl (fun h => nomatch h) ?_
    exact qD_e (by decide) mX.rfl'
theorem g_D {sc : List Value} {own : Nat} {ini rz : Bool} {code : List (Nat × Instr)} {d n : Nat} {ls : List Value} {I : mg_I} {nm0 : Nat} {Q : Option Value → mg_I → Nat → Prop} {r : List Value} {p : rD} (k : ∀ I', mX (mR (fEr I p.1) p.2.2) I' → GG sc own ini rz code d n ls (.int (ans p) :: r) I' nm0 Q) : ∀ a I2 nm2, qD I p nm0 a I2 nm2 → GG sc own ini rz code d n ls (a.toList ++ r) I2 nm2 Q := by
  rintro a I2 nm2 ⟨rfl, h2, rfl⟩
  exact k I2 h2
theorem c_minutes {sc : List Value} {nm : Nat} {I : mg_I} {d0 : Nat → Int32} {n : Int32} (hw : gW d0) : SP sc 48 193 [.ref 124, .int n] (mR I d0) nm (qD I (oPass d0 n 0) nm) := by
  refine SP.of (h := 47) (t := 193) (q := (yX12_minutes, cX12_minutes, 2, (some .int), 12, 1311, mi_k193)) rfl (by decide) (show ¬ (2 : Nat) < 2 by decide) (fun d hd => ?_)
  show GG sc 12 false false mi_k193 d 0 [.ref 124, .int n] [] (mR I d0) nm (qD I (oPass d0 n 0) nm)
  refine g_aload_n (n := 1) rfl rfl ?_
  refine g_iload_n (n := 2) rfl rfl ?_
  refine g_iconst (n := 3) (v := 0) rfl rfl ?_
  refine g_cv2 (n := 6) (t := 192) (ci := 12) rfl (by decide +kernel) (by decide +kernel) (by decide) (by decide) (by decide +kernel) (by rfl) (c_passes hw) (by omega) (g_D fun I1 he => ?_)
  refine g_iret (n := 7) rfl (fun h => nomatch h) ?_
  exact ⟨rfl, he, rfl⟩
theorem c_loose {sc : List Value} {nm : Nat} {I : mg_I} {d0 : Nat → Int32} {n : Int32} (hw : gW d0) : SP sc 48 194 [.ref 124, .int n] (mR I d0) nm (qD I (oPass d0 n 1) nm) := by
  refine SP.of (h := 47) (t := 194) (q := (yX12_loose, cX12_loose, 2, (some .int), 12, 1359, mi_k194)) rfl (by decide) (show ¬ (2 : Nat) < 2 by decide) (fun d hd => ?_)
  show GG sc 12 false false mi_k194 d 0 [.ref 124, .int n] [] (mR I d0) nm (qD I (oPass d0 n 1) nm)
  refine g_aload_n (n := 1) rfl rfl ?_
  refine g_iload_n (n := 2) rfl rfl ?_
  refine g_iconst (n := 3) (v := 1) rfl rfl ?_
  refine g_cv2 (n := 6) (t := 192) (ci := 12) rfl (by decide +kernel) (by decide +kernel) (by decide) (by decide) (by decide +kernel) (by rfl) (c_passes hw) (by omega) (g_D fun I1 he => ?_)
  refine g_iret (n := 7) rfl (fun h => nomatch h) ?_
  exact ⟨rfl, he, rfl⟩
def fMs : Nat → (Nat → Int32) → Nat → Int32
  | 0, d => d
  | m + 1, d => fMs m (fMin d 0)
def oThen (d : Nat → Int32) (n g w : Int32) : rD :=
  if 0 ≤ n.toInt ∧ n.toInt ≤ 300 then (if 0 ≤ g.toInt ∧ g.toInt < (fN d : Int) then (if 5 ≤ w.toInt ∧ w.toInt ≤ 9 then (0, fO (fMs (cl n) d) (cl g) (cl w), d) else fE d 1) else fE d 1) else fE d 1
theorem c_then {sc : List Value} {nm : Nat} {I : mg_I} {d0 : Nat → Int32} {n g w : Int32} (hw : gW d0) : SP sc 47 195 [.ref 124, .int n, .int g, .int w] (mR I d0) nm (qD I (oThen d0 n g w) nm) := by
  refine SP.of (h := 46) (t := 195) (q := (yX12_then, cX12_then, 5, (some .int), 12, 1363, mi_k195)) rfl (by decide) (show ¬ (5 : Nat) < 4 by decide) (fun d hd => ?_)
  show GG sc 12 false false mi_k195 d 0 [.ref 124, .int n, .int g, .int w, .null] [] (mR I d0) nm (qD I (oThen d0 n g w) nm)
  have hN := hw.1.1
  unfold oThen
  refine g_iload_n (n := 1) rfl rfl ?_
  refine g_i2l (n := 2) rfl ?_
  refine g_lconst (n := 3) (v := 0) rfl rfl ?_
  refine g_ldc2 (n := 6) (v := 300) (pl := 1316) rfl (by decide +kernel) ?_
  refine g_cs3 (n := 9) (t := 141) (x := (1141, 1142, 84)) rfl (by decide +kernel) (by decide +kernel) (by rfl) (c_inI (a := 0) (b := 300) rfl rfl) (by omega) (g_E ?_)
  try simp only [mR_125, mR_up, mR_w124, mR_r124, mR_w126, mR_r126, mR_w128, mR_r128, mR_w130, mR_r130, mR_w131, mR_r131, mR_w132, mR_r132, mR_w133, mR_r133, mR_w134, mR_r134, mR_w135, mR_r135]
  refine g_split (fun h1 => ?_) (fun h1 => ?_)
  ·
    refine g_ifeq1 (n := 12) 34 rfl (by decide) ?_
    rw [if_pos h1]
    refine g_aload_n (n := 13) rfl rfl ?_
    refine g_iload_n (n := 14) rfl rfl ?_
    refine g_cv1 (n := 17) (t := 143) (ci := 12) rfl (by decide +kernel) (by decide +kernel) (by decide) (by decide) (by decide +kernel) (by rfl) (c_isGoer (by assumption)) (by omega) (g_E ?_)
    try simp only [mR_125, mR_up, mR_w124, mR_r124, mR_w126, mR_r126, mR_w128, mR_r128, mR_w130, mR_r130, mR_w131, mR_r131, mR_w132, mR_r132, mR_w133, mR_r133, mR_w134, mR_r134, mR_w135, mR_r135]
    refine g_split (fun h2 => ?_) (fun h2 => ?_)
    ·
      refine g_ifeq1 (n := 20) 34 rfl (by decide) ?_
      rw [if_pos h2]
      refine g_iload_n (n := 21) rfl rfl ?_
      refine g_i2l (n := 22) rfl ?_
      refine g_ldc2 (n := 25) (v := 5) (pl := 1223) rfl (by decide +kernel) ?_
      refine g_ldc2 (n := 28) (v := 9) (pl := 1364) rfl (by decide +kernel) ?_
      refine g_cs3 (n := 31) (t := 141) (x := (1141, 1142, 84)) rfl (by decide +kernel) (by decide +kernel) (by rfl) (c_inI (a := 5) (b := 9) rfl rfl) (by omega) (g_E ?_)
      try simp only [mR_125, mR_up, mR_w124, mR_r124, mR_w126, mR_r126, mR_w128, mR_r128, mR_w130, mR_r130, mR_w131, mR_r131, mR_w132, mR_r132, mR_w133, mR_r133, mR_w134, mR_r134, mR_w135, mR_r135]
      refine g_split (fun h3 => ?_) (fun h3 => ?_)
      ·
        refine g_ifne1 (n := 34) 40 rfl (by decide) ?_
        rw [if_pos h3]
        obtain ⟨nn, hnn, rfl, hcn⟩ := iR_nI (x := n) (n := 301) ⟨by omega, by omega⟩
        obtain ⟨gg, hgg, rfl, hcg⟩ := iR_nI (x := g) (n := fN d0) ⟨by omega, by omega⟩
        obtain ⟨ww, hww, rfl, hcw⟩ := iR_nI (x := w) (n := 10) ⟨by omega, by omega⟩
        have hg8 := (fN_eq hN).2
        rw [show cl (nI nn) = nn from hcn, show cl (nI gg) = gg from hcg, show cl (nI ww) = ww from hcw]
        refine g_aload_n (n := 41) rfl rfl ?_
        refine g_cv0 (n := 44) (t := 147) (ci := 12) rfl (by decide +kernel) (by decide +kernel) (by decide) (by decide) (by decide +kernel) (by rfl) c_keep (by omega) (g_Z ?_)
        try simp only [mR_125, mR_up, mR_w124, mR_r124, mR_w126, mR_r126, mR_w128, mR_r128, mR_w130, mR_r130, mR_w131, mR_r131, mR_w132, mR_r132, mR_w133, mR_r133, mR_w134, mR_r134, mR_w135, mR_r135]
        refine g_iconst (n := 45) (v := 0) rfl rfl ?_
        refine g_istore4 (n := 47) rfl rfl ?_
        have H : ∀ (m k : Nat) (d1 : Nat → Int32) (J : mg_I), k + m = nn → gW d1 → mF I J → kK J d1 d0 → fMs m d1 = fMs nn d0 → GG sc 12 false false mi_k195 d 47 [.ref 124, .int (nI nn), .int (nI gg), .int (nI ww), .int (nI k)] [] (mR J d1) nm (qD I (0, fO (fMs nn d0) gg ww, d0) nm) := by
          intro m
          induction m with
          | zero =>
            intro k d1 J hk hw hJ hk2 hf
            have hf2 : d1 = fMs nn d0 := hf
            subst hf2
            refine g_iload (n := 49) rfl rfl ?_
            refine g_iload_n (n := 50) rfl rfl ?_
            refine g_icge (n := 53) 64 rfl (by decide) (fun h1 => ?_) (fun h1 => ?_)
            ·
              refine g_aload_n (n := 65) rfl rfl ?_
              refine g_iload_n (n := 66) rfl rfl ?_
              refine g_iload_n (n := 67) rfl rfl ?_
              refine g_cv2 (n := 70) (t := 145) (ci := 12) rfl (by decide +kernel) (by decide +kernel) (by decide) (by decide) (by decide +kernel) (by rfl) (c_of (g := gg) (w := ww) (by omega) (by omega)) (by omega) (g_E ?_)
              try simp only [mR_125, mR_up, mR_w124, mR_r124, mR_w126, mR_r126, mR_w128, mR_r128, mR_w130, mR_r130, mR_w131, mR_r131, mR_w132, mR_r132, mR_w133, mR_r133, mR_w134, mR_r134, mR_w135, mR_r135]
              refine g_istore4 (n := 72) rfl rfl ?_
              refine g_aload_n (n := 73) rfl rfl ?_
              refine g_cv0 (n := 76) (t := 148) (ci := 12) rfl (by decide +kernel) (by decide +kernel) (by decide) (by decide) (by decide +kernel) (by rfl) (c_back hk2) (by omega) (g_Z ?_)
              refine g_iload (n := 78) rfl rfl ?_
              refine g_iret (n := 79) rfl (fun h => nomatch h) ?_
              exact qD_v hJ.x
            ·
              exact absurd (fN_nle rfl (by omega) (by omega) h1) (by omega)
          | succ m ih =>
            intro k d1 J hk hw hJ hk2 hf
            refine g_iload (n := 49) rfl rfl ?_
            refine g_iload_n (n := 50) rfl rfl ?_
            refine g_icge (n := 53) 64 rfl (by decide) (fun h1 => ?_) (fun h1 => ?_)
            ·
              exact absurd (fN_le rfl (by omega) (by omega) h1) (by omega)
            ·
              refine g_aload_n (n := 54) rfl rfl ?_
              refine g_iconst (n := 55) (v := 0) rfl rfl ?_
              refine g_cv1 (n := 58) (t := 189) (ci := 12) rfl (by decide +kernel) (by decide +kernel) (by decide) (by decide) (by decide +kernel) (by rfl) (c_aMinute (d0 := d1) (fog := 0) hw) (by omega) (g_N fun I1 he => ?_)
              obtain ⟨J1, rfl, hJ1⟩ := mR_mE he
              clear he
              refine g_iinc4 (n := 61) rfl rfl (nI_inc _) ?_
              refine g_goto 47 rfl (by decide) ?_
              exact ih (k + 1) _ J1 (by omega) (gW_min hw) (hJ.trans hJ1.f) (kK_min hk2 hw hJ1) hf
        exact H nn 0 d0 (kA I d0) (by omega) hw kA_mF kK_A rfl
      ·
        refine g_ifne0 (n := 34) 40 rfl (by decide) ?_
        rw [if_neg h3]
        refine g_aload_n (n := 35) rfl rfl ?_
        refine g_iconst (n := 36) (v := 1) rfl rfl ?_
        refine g_cv1 (n := 39) (t := 140) (ci := 12) rfl (by decide +kernel) (by decide +kernel) (by decide) (by decide) (by decide +kernel) (by rfl) (c_finds (k := 1) (by omega)) (by omega) (g_E ?_)
        try simp only [mR_125, mR_up, mR_w124, mR_r124, mR_w126, mR_r126, mR_w128, mR_r128, mR_w130, mR_r130, mR_w131, mR_r131, mR_w132, mR_r132, mR_w133, mR_r133, mR_w134, mR_r134, mR_w135, mR_r135]
        refine g_iret (n := 40) rfl (fun h => nomatch h) ?_
        exact qD_e (by decide) mX.rfl'
    ·
      refine g_ifeq0 (n := 20) 34 rfl (by decide) ?_
      rw [if_neg h2]
      refine g_aload_n (n := 35) rfl rfl ?_
      refine g_iconst (n := 36) (v := 1) rfl rfl ?_
      refine g_cv1 (n := 39) (t := 140) (ci := 12) rfl (by decide +kernel) (by decide +kernel) (by decide) (by decide) (by decide +kernel) (by rfl) (c_finds (k := 1) (by omega)) (by omega) (g_E ?_)
      try simp only [mR_125, mR_up, mR_w124, mR_r124, mR_w126, mR_r126, mR_w128, mR_r128, mR_w130, mR_r130, mR_w131, mR_r131, mR_w132, mR_r132, mR_w133, mR_r133, mR_w134, mR_r134, mR_w135, mR_r135]
      refine g_iret (n := 40) rfl (fun h => nomatch h) ?_
      exact qD_e (by decide) mX.rfl'
  ·
    refine g_ifeq0 (n := 12) 34 rfl (by decide) ?_
    rw [if_neg h1]
    refine g_aload_n (n := 35) rfl rfl ?_
    refine g_iconst (n := 36) (v := 1) rfl rfl ?_
    refine g_cv1 (n := 39) (t := 140) (ci := 12) rfl (by decide +kernel) (by decide +kernel) (by decide) (by decide) (by decide +kernel) (by rfl) (c_finds (k := 1) (by omega)) (by omega) (g_E ?_)
    try simp only [mR_125, mR_up, mR_w124, mR_r124, mR_w126, mR_r126, mR_w128, mR_r128, mR_w130, mR_r130, mR_w131, mR_r131, mR_w132, mR_r132, mR_w133, mR_r133, mR_w134, mR_r134, mR_w135, mR_r135]
    refine g_iret (n := 40) rfl (fun h => nomatch h) ?_
    exact qD_e (by decide) mX.rfl'
/-- behind how many minutes all are over, from n on (-1: not by 300), and how many have begun to go back by then -/
def fOv : Nat → Nat → (Nat → Int32) → Int32 × Int32
  | 0, _, d => (-1, d 3)
  | f + 1, n, d => if d 0 ≤ fMany d 2 then (nI n, d 3) else fOv f (n + 1) (fMin d 0)
def fOB (d : Nat → Int32) : Int32 × Int32 := fOv 301 0 d
def qF (I : mg_I) (d : Nat → Int32) (nm : Nat) : Option Value → mg_I → Nat → Prop := fun r I' nm' => r = none ∧ (∃ J, I' = mR J d ∧ mF I J ∧ J 124 12 = (fOB d).1 ∧ J 124 13 = (fOB d).2) ∧ nm' = nm
theorem g_F {sc : List Value} {own : Nat} {ini rz : Bool} {code : List (Nat × Instr)} {d n : Nat} {ls : List Value} {I : mg_I} {dd : Nat → Int32} {nm0 : Nat} {Q : Option Value → mg_I → Nat → Prop} {r : List Value} (k : ∀ J, mF I J → J 124 12 = (fOB dd).1 → J 124 13 = (fOB dd).2 → GG sc own ini rz code d n ls r (mR J dd) nm0 Q) : ∀ a I2 nm2, qF I dd nm0 a I2 nm2 → GG sc own ini rz code d n ls (a.toList ++ r) I2 nm2 Q := by
  rintro a I2 nm2 ⟨rfl, ⟨J, rfl, h1, h2, h3⟩, rfl⟩
  exact k J h1 h2 h3
theorem qF_i {I J : mg_I} {d : Nat → Int32} {nm : Nat} {v b : Int32} (hJ : mF I J) (hv : (v, b) = fOB d) : qF I d nm none (mR (mf_up (mf_up J 124 12 v) 124 13 b) d) nm := by
  refine ⟨rfl, ⟨_, rfl, ?_, ?_, ?_⟩, rfl⟩
  · intro a j hx
    rw [show mf_up (mf_up J 124 12 v) 124 13 b a j = J a j from (if_neg (by omega)).trans (if_neg (by omega))]
    exact hJ a j hx
  · rw [← hv]; exact (if_neg (by omega)).trans (if_pos ⟨rfl, rfl⟩)
  · rw [← hv]; exact if_pos ⟨rfl, rfl⟩
theorem c_findOver {sc : List Value} {nm : Nat} {I : mg_I} {d0 : Nat → Int32} (hw : gW d0) : SP sc 47 196 [.ref 124] (mR I d0) nm (qF I d0 nm) := by
  refine SP.of (h := 46) (t := 196) (q := (yX12_findOver, cX12_findOver, 2, none, 12, 1380, mi_k196)) rfl (by decide) (show ¬ (2 : Nat) < 1 by decide) (fun d hd => ?_)
  show GG sc 12 false false mi_k196 d 0 [.ref 124, .null] [] (mR I d0) nm (qF I d0 nm)
  have H : ∀ (m k : Nat) (d1 : Nat → Int32) (J : mg_I), k + m = 301 → gW d1 → mF I J → kK J d1 d0 → fOv m k d1 = fOB d0 → GG sc 12 false false mi_k196 d 6 [.ref 124, .int (nI k)] [] (mR J d1) nm (qF I d0 nm) := by
    intro m
    induction m with
    | zero =>
      intro k d1 J hk hw hJ hk2 hf
      have hN := hw.1.1
      refine g_iload_n (n := 7) rfl rfl ?_
      refine g_sipush (n := 10) (v := 300) rfl rfl ?_
      refine g_icgt (n := 13) 38 rfl (by decide) (fun h1 => ?_) (fun h1 => ?_)
      ·
        refine g_aload_n (n := 39) rfl rfl ?_
        refine g_iload_n (n := 40) rfl rfl ?_
        refine g_sipush (n := 43) (v := 300) rfl rfl ?_
        refine g_icle (n := 46) 50 rfl (by decide) (fun h2 => ?_) (fun h2 => ?_)
        ·
          exact absurd ((nI_leI (a := k) (b := 300) (by omega) (by omega)).mp h2) (by omega)
        ·
          refine g_iconst (n := 47) (v := -1) rfl rfl ?_
          refine g_goto 51 rfl (by decide) ?_
          refine g_puti (n := 54) (ci := 12) (j := 12) rfl (by decide +kernel) rfl (by decide) (by decide) (by decide +kernel) rfl ?_
          try simp only [mR_125, mR_up, mR_w124, mR_r124, mR_w126, mR_r126, mR_w128, mR_r128, mR_w130, mR_r130, mR_w131, mR_r131, mR_w132, mR_r132, mR_w133, mR_r133, mR_w134, mR_r134, mR_w135, mR_r135]
          refine g_aload_n (n := 55) rfl rfl ?_
          refine g_aload_n (n := 56) rfl rfl ?_
          refine g_getr (n := 59) (ci := 12) (j := 0) (b := 125) rfl (by decide +kernel) (by decide) (by decide) (by decide +kernel) ?_
          refine g_iconst (n := 60) (v := 3) rfl rfl ?_
          refine g_iald (n := 61) (3) rfl (by decide) rfl (by show _ < 286; omega) ?_
          try simp only [mR_125, mR_up, mR_w124, mR_r124, mR_w126, mR_r126, mR_w128, mR_r128, mR_w130, mR_r130, mR_w131, mR_r131, mR_w132, mR_r132, mR_w133, mR_r133, mR_w134, mR_r134, mR_w135, mR_r135]
          refine g_puti (n := 64) (ci := 12) (j := 13) rfl (by decide +kernel) rfl (by decide) (by decide) (by decide +kernel) rfl ?_
          try simp only [mR_125, mR_up, mR_w124, mR_r124, mR_w126, mR_r126, mR_w128, mR_r128, mR_w130, mR_r130, mR_w131, mR_r131, mR_w132, mR_r132, mR_w133, mR_r133, mR_w134, mR_r134, mR_w135, mR_r135]
          refine g_aload_n (n := 65) rfl rfl ?_
          refine g_cv0 (n := 68) (t := 148) (ci := 12) rfl (by decide +kernel) (by decide +kernel) (by decide) (by decide) (by decide +kernel) (by rfl) (c_back (kK_up (kK_up hk2 (by decide)) (by decide))) (by omega) (g_Z ?_)
          refine g_vret (n := 69) rfl ?_
          exact qF_i hJ hf
      ·
        exact absurd ((nI_ltI (b := k) (a := 300) (by omega) (by omega)).mpr (by omega)) h1
    | succ m ih =>
      intro k d1 J hk hw hJ hk2 hf
      have hN := hw.1.1
      rw [fOv] at hf
      refine g_iload_n (n := 7) rfl rfl ?_
      refine g_sipush (n := 10) (v := 300) rfl rfl ?_
      refine g_icgt (n := 13) 38 rfl (by decide) (fun h1 => ?_) (fun h1 => ?_)
      ·
        exact absurd ((nI_ltI (b := k) (a := 300) (by omega) (by omega)).mp h1) (by omega)
      ·
        refine g_aload_n (n := 14) rfl rfl ?_
        refine g_iconst (n := 15) (v := 2) rfl rfl ?_
        refine g_cv1 (n := 18) (t := 190) (ci := 12) rfl (by decide +kernel) (by decide +kernel) (by decide) (by decide) (by decide +kernel) (by rfl) (c_howMany (by assumption)) (by omega) (g_E ?_)
        try simp only [mR_125, mR_up, mR_w124, mR_r124, mR_w126, mR_r126, mR_w128, mR_r128, mR_w130, mR_r130, mR_w131, mR_r131, mR_w132, mR_r132, mR_w133, mR_r133, mR_w134, mR_r134, mR_w135, mR_r135]
        refine g_aload_n (n := 19) rfl rfl ?_
        refine g_getr (n := 22) (ci := 12) (j := 0) (b := 125) rfl (by decide +kernel) (by decide) (by decide) (by decide +kernel) ?_
        refine g_iconst (n := 23) (v := 0) rfl rfl ?_
        refine g_iald (n := 24) (0) rfl (by decide) rfl (by show _ < 286; omega) ?_
        try simp only [mR_125, mR_up, mR_w124, mR_r124, mR_w126, mR_r126, mR_w128, mR_r128, mR_w130, mR_r130, mR_w131, mR_r131, mR_w132, mR_r132, mR_w133, mR_r133, mR_w134, mR_r134, mR_w135, mR_r135]
        refine g_icge (n := 27) 38 rfl (by decide) (fun h2 => ?_) (fun h2 => ?_)
        ·
          rw [if_pos h2] at hf
          refine g_aload_n (n := 39) rfl rfl ?_
          refine g_iload_n (n := 40) rfl rfl ?_
          refine g_sipush (n := 43) (v := 300) rfl rfl ?_
          refine g_icle (n := 46) 50 rfl (by decide) (fun h3 => ?_) (fun h3 => ?_)
          ·
            refine g_iload_n (n := 51) rfl rfl ?_
            refine g_puti (n := 54) (ci := 12) (j := 12) rfl (by decide +kernel) rfl (by decide) (by decide) (by decide +kernel) rfl ?_
            try simp only [mR_125, mR_up, mR_w124, mR_r124, mR_w126, mR_r126, mR_w128, mR_r128, mR_w130, mR_r130, mR_w131, mR_r131, mR_w132, mR_r132, mR_w133, mR_r133, mR_w134, mR_r134, mR_w135, mR_r135]
            refine g_aload_n (n := 55) rfl rfl ?_
            refine g_aload_n (n := 56) rfl rfl ?_
            refine g_getr (n := 59) (ci := 12) (j := 0) (b := 125) rfl (by decide +kernel) (by decide) (by decide) (by decide +kernel) ?_
            refine g_iconst (n := 60) (v := 3) rfl rfl ?_
            refine g_iald (n := 61) (3) rfl (by decide) rfl (by show _ < 286; omega) ?_
            try simp only [mR_125, mR_up, mR_w124, mR_r124, mR_w126, mR_r126, mR_w128, mR_r128, mR_w130, mR_r130, mR_w131, mR_r131, mR_w132, mR_r132, mR_w133, mR_r133, mR_w134, mR_r134, mR_w135, mR_r135]
            refine g_puti (n := 64) (ci := 12) (j := 13) rfl (by decide +kernel) rfl (by decide) (by decide) (by decide +kernel) rfl ?_
            try simp only [mR_125, mR_up, mR_w124, mR_r124, mR_w126, mR_r126, mR_w128, mR_r128, mR_w130, mR_r130, mR_w131, mR_r131, mR_w132, mR_r132, mR_w133, mR_r133, mR_w134, mR_r134, mR_w135, mR_r135]
            refine g_aload_n (n := 65) rfl rfl ?_
            refine g_cv0 (n := 68) (t := 148) (ci := 12) rfl (by decide +kernel) (by decide +kernel) (by decide) (by decide) (by decide +kernel) (by rfl) (c_back (kK_up (kK_up hk2 (by decide)) (by decide))) (by omega) (g_Z ?_)
            refine g_vret (n := 69) rfl ?_
            exact qF_i hJ hf
          ·
            exact absurd ((nI_leI (a := k) (b := 300) (by omega) (by omega)).mpr (by omega)) h3
        ·
          rw [if_neg h2] at hf
          refine g_aload_n (n := 28) rfl rfl ?_
          refine g_iconst (n := 29) (v := 0) rfl rfl ?_
          refine g_cv1 (n := 32) (t := 189) (ci := 12) rfl (by decide +kernel) (by decide +kernel) (by decide) (by decide) (by decide +kernel) (by rfl) (c_aMinute (d0 := d1) (fog := 0) hw) (by omega) (g_N fun I1 he => ?_)
          obtain ⟨J1, rfl, hJ1⟩ := mR_mE he
          clear he
          refine g_iinc1 (n := 35) rfl rfl (nI_inc _) ?_
          refine g_goto 6 rfl (by decide) ?_
          exact ih (k + 1) _ J1 (by omega) (gW_min hw) (hJ.trans hJ1.f) (kK_min hk2 hw hJ1) hf
  refine g_aload_n (n := 1) rfl rfl ?_
  refine g_cv0 (n := 4) (t := 147) (ci := 12) rfl (by decide +kernel) (by decide +kernel) (by decide) (by decide) (by decide +kernel) (by rfl) c_keep (by omega) (g_Z ?_)
  try simp only [mR_125, mR_up, mR_w124, mR_r124, mR_w126, mR_r126, mR_w128, mR_r128, mR_w130, mR_r130, mR_w131, mR_r131, mR_w132, mR_r132, mR_w133, mR_r133, mR_w134, mR_r134, mR_w135, mR_r135]
  refine g_iconst (n := 5) (v := 0) rfl rfl ?_
  refine g_istore_n1 (n := 6) rfl rfl ?_
  exact H 301 0 d0 (kA I d0) (by omega) hw kA_mF kK_A rfl
def oOverBy (d : Nat → Int32) : rD := if 0 ≤ (fOB d).1 then (0, (fOB d).1, d) else fE d 2
theorem c_overBy {sc : List Value} {nm : Nat} {I : mg_I} {d0 : Nat → Int32} (hw : gW d0) : SP sc 48 197 [.ref 124] (mR I d0) nm (qD I (oOverBy d0) nm) := by
  refine SP.of (h := 47) (t := 197) (q := (yX12_overBy, cX12_overBy, 1, (some .int), 12, 1376, mi_k197)) rfl (by decide) (show ¬ (1 : Nat) < 1 by decide) (fun d hd => ?_)
  show GG sc 12 false false mi_k197 d 0 [.ref 124] [] (mR I d0) nm (qD I (oOverBy d0) nm)
  unfold oOverBy
  refine g_aload_n (n := 1) rfl rfl ?_
  refine g_cv0 (n := 4) (t := 196) (ci := 12) rfl (by decide +kernel) (by decide +kernel) (by decide) (by decide) (by decide +kernel) (by rfl) (c_findOver hw) (by omega) (g_F fun J hJ h12 h13 => ?_)
  refine g_aload_n (n := 5) rfl rfl ?_
  refine g_getv (n := 8) (ci := 12) (j := 12) (v := (fOB d0).1) h12 rfl (by decide +kernel) rfl (by decide) (by decide) ?_
  refine g_ifge (n := 11) 19 rfl (by decide) (fun h1 => ?_) (fun h1 => ?_)
  ·
    rw [if_pos h1]
    refine g_aload_n (n := 20) rfl rfl ?_
    refine g_getv (n := 23) (ci := 12) (j := 12) (v := (fOB d0).1) h12 rfl (by decide +kernel) rfl (by decide) (by decide) ?_
    refine g_iret (n := 24) rfl (fun h => nomatch h) ?_
    first | exact qD_v hJ.x | exact qD_e (by decide) hJ.x
  ·
    rw [if_neg h1]
    refine g_aload_n (n := 12) rfl rfl ?_
    refine g_iconst (n := 13) (v := 2) rfl rfl ?_
    refine g_cv1 (n := 16) (t := 140) (ci := 12) rfl (by decide +kernel) (by decide +kernel) (by decide) (by decide) (by decide +kernel) (by rfl) (c_finds (k := 2) (by omega)) (by omega) (g_E ?_)
    try simp only [mR_125, mR_up, mR_w124, mR_r124, mR_w126, mR_r126, mR_w128, mR_r128, mR_w130, mR_r130, mR_w131, mR_r131, mR_w132, mR_r132, mR_w133, mR_r133, mR_w134, mR_r134, mR_w135, mR_r135]
    refine g_goto 23 rfl (by decide) ?_
    refine g_iret (n := 24) rfl (fun h => nomatch h) ?_
    first | exact qD_v hJ.x | exact qD_e (by decide) hJ.x
end
section
/-! the model: what would be -/
theorem up_up {d : Nat → Int32} {j : Nat} {v w : Int32} : up (up d j v) j w = up d j w := by
  funext k
  unfold up
  split <;> rfl
theorem up_self {d : Nat → Int32} {j : Nat} : up d j (d j) = d := by
  funext k
  unfold up
  split
  next h => rw [h]
  · rfl
/-- an answer; the memory alike but for what findOver leaves -/
def qMF (v : Int32) (I : mg_I) (nm : Nat) : Option Value → mg_I → Nat → Prop := fun r I' nm' => r = some (.int v) ∧ mF I I' ∧ nm' = nm
theorem g_MF {sc : List Value} {own : Nat} {ini rz : Bool} {code : List (Nat × Instr)} {d n : Nat} {ls : List Value} {I : mg_I} {dd : Nat → Int32} {nm0 : Nat} {Q : Option Value → mg_I → Nat → Prop} {r : List Value} {v : Int32} (k : ∀ J, mF I J → GG sc own ini rz code d n ls (.int v :: r) (mR J dd) nm0 Q) : ∀ a I2 nm2, qMF v (mR I dd) nm0 a I2 nm2 → GG sc own ini rz code d n ls (a.toList ++ r) I2 nm2 Q := by
  rintro a I2 nm2 ⟨rfl, h2, rfl⟩
  obtain ⟨J, rfl, hJ⟩ := mF_mRi h2
  exact k J hJ
theorem c_overWith {sc : List Value} {nm : Nat} {I : mg_I} {d0 : Nat → Int32} {y : Nat} {v : Int32} (hw : gW d0) (hy : y < 24) : SP sc 48 206 [.ref 124, .int (nI y), .int v] (mR I d0) nm (qMF (fOB (up d0 (10 + y) v)).1 (mR I d0) nm) := by
  refine SP.of (h := 47) (t := 206) (q := (yX12_overWith, cX12_overWith, 4, (some .int), 12, 1420, mi_k206)) rfl (by decide) (show ¬ (4 : Nat) < 3 by decide) (fun d hd => ?_)
  show GG sc 12 false false mi_k206 d 0 [.ref 124, .int (nI y), .int v, .null] [] (mR I d0) nm (qMF (fOB (up d0 (10 + y) v)).1 (mR I d0) nm)
  refine g_aload_n (n := 1) rfl rfl ?_
  refine g_getr (n := 4) (ci := 12) (j := 0) (b := 125) rfl (by decide +kernel) (by decide) (by decide) (by decide +kernel) ?_
  refine g_bipush (n := 6) (v := 10) rfl rfl ?_
  refine g_iload_n (n := 7) rfl rfl ?_
  refine g_iaddN (n := 8) (x := 10) (y := y) rfl ?_
  refine g_iald (n := 9) ((10 + y)) rfl (by decide) rfl (by show _ < 286; omega) ?_
  try simp only [mR_125, mR_up, mR_w124, mR_r124, mR_w126, mR_r126, mR_w128, mR_r128, mR_w130, mR_r130, mR_w131, mR_r131, mR_w132, mR_r132, mR_w133, mR_r133, mR_w134, mR_r134, mR_w135, mR_r135]
  refine g_istore_n3 (n := 10) rfl rfl ?_
  refine g_aload_n (n := 11) rfl rfl ?_
  refine g_getr (n := 14) (ci := 12) (j := 0) (b := 125) rfl (by decide +kernel) (by decide) (by decide) (by decide +kernel) ?_
  refine g_bipush (n := 16) (v := 10) rfl rfl ?_
  refine g_iload_n (n := 17) rfl rfl ?_
  refine g_iaddN (n := 18) (x := 10) (y := y) rfl ?_
  refine g_iload_n (n := 19) rfl rfl ?_
  refine g_iast (n := 20) ((10 + y)) rfl (by decide) rfl (by show _ < 286; omega) ?_
  try simp only [mR_125, mR_up, mR_w124, mR_r124, mR_w126, mR_r126, mR_w128, mR_r128, mR_w130, mR_r130, mR_w131, mR_r131, mR_w132, mR_r132, mR_w133, mR_r133, mR_w134, mR_r134, mR_w135, mR_r135]
  refine g_aload_n (n := 21) rfl rfl ?_
  refine g_cv0 (n := 24) (t := 196) (ci := 12) rfl (by decide +kernel) (by decide +kernel) (by decide) (by decide) (by decide +kernel) (by rfl) (c_findOver (d0 := up d0 (10 + y) v) (gW_up hw (by omega))) (by omega) (g_F fun J1 hJ1 h12 h13 => ?_)
  refine g_aload_n (n := 25) rfl rfl ?_
  refine g_getr (n := 28) (ci := 12) (j := 0) (b := 125) rfl (by decide +kernel) (by decide) (by decide) (by decide +kernel) ?_
  refine g_bipush (n := 30) (v := 10) rfl rfl ?_
  refine g_iload_n (n := 31) rfl rfl ?_
  refine g_iaddN (n := 32) (x := 10) (y := y) rfl ?_
  refine g_iload_n (n := 33) rfl rfl ?_
  refine g_iast (n := 34) ((10 + y)) rfl (by decide) rfl (by show _ < 286; omega) ?_
  try simp only [mR_125, mR_up, mR_w124, mR_r124, mR_w126, mR_r126, mR_w128, mR_r128, mR_w130, mR_r130, mR_w131, mR_r131, mR_w132, mR_r132, mR_w133, mR_r133, mR_w134, mR_r134, mR_w135, mR_r135]
  rw [up_up, up_self]
  refine g_aload_n (n := 35) rfl rfl ?_
  refine g_getv (n := 38) (ci := 12) (j := 12) (v := (fOB (up d0 (10 + y) v)).1) h12 rfl (by decide +kernel) rfl (by decide) (by decide) ?_
  refine g_iret (n := 39) rfl (fun h => nomatch h) ?_
  exact ⟨rfl, mF_mR hJ1, rfl⟩
def fYd (d : Nat → Int32) (l : Int32) : Nat → Nat → Int32
  | 0, _ => -1
  | f + 1, y => if 1 < d (10 + y) ∧ fBefore d y = l then nI y else fYd d l f (y + 1)
def fYard (d : Nat → Int32) (l : Int32) : Int32 := fYd d l 24 0
def cN (p : Nat → Prop) [DecidablePred p] : Nat → Nat
  | 0 => 0
  | k + 1 => cN p k + (if p k then 1 else 0)
theorem cnt_N {p : Nat → Prop} [DecidablePred p] : ∀ k, cnt p k = nI (cN p k) ∧ cN p k ≤ k := by
  intro k
  induction k with
  | zero => exact ⟨rfl, Nat.le_refl 0⟩
  | succ k ih =>
    unfold cnt cN bI
    by_cases h : p k
    · rw [if_pos h, if_pos h, ih.1, nI_1]; exact ⟨rfl, by omega⟩
    · rw [if_neg h, if_neg h, ih.1]; exact ⟨by rw [show (0 : Int32) = nI 0 from rfl, nI_add], by omega⟩
theorem cN_mono {p : Nat → Prop} [DecidablePred p] {a b : Nat} (h : a ≤ b) : cN p a ≤ cN p b := by
  induction b with
  | zero => rw [show a = 0 by omega]; exact Nat.le_refl _
  | succ b ih =>
    by_cases e : a = b + 1
    · subst e; exact Nat.le_refl _
    · have := ih (by omega)
      rw [cN]
      omega
abbrev pL (d : Nat → Int32) (k : Nat) : Prop := 1 < d (10 + k)
def nL (d : Nat → Int32) (y : Nat) : Nat := cN (pL d) y
theorem fBefore_N {d : Nat → Int32} {y : Nat} : fBefore d y = nI (nL d y) := (cnt_N (p := pL d) y).1
theorem nL_le {d : Nat → Int32} {y : Nat} : nL d y ≤ y := (cnt_N (p := pL d) y).2
theorem nL_1 {d : Nat → Int32} {y : Nat} (h : 1 < d (10 + y)) : nL d (y + 1) = nL d y + 1 := by unfold nL; rw [cN, if_pos h]
theorem nL_0 {d : Nat → Int32} {y : Nat} (h : ¬ 1 < d (10 + y)) : nL d (y + 1) = nL d y := by unfold nL; rw [cN, if_neg h, Nat.add_zero]
theorem nL_mono {d : Nat → Int32} {a b : Nat} (h : a ≤ b) : nL d a ≤ nL d b := cN_mono h
theorem fYd_found {d : Nat → Int32} {l : Nat} (hl : l < nL d 24) : ∀ f y, y + f = 24 → nL d y ≤ l → ∃ z, z < 24 ∧ fYd d (nI l) f y = nI z ∧ 1 < d (10 + z) := by
  intro f
  induction f with
  | zero =>
    intro y hy h
    rw [show y = 24 by omega] at h
    omega
  | succ f ih =>
    intro y hy h
    rw [fYd]
    by_cases h1 : 1 < d (10 + y)
    · by_cases h2 : nL d y = l
      · rw [if_pos ⟨h1, by rw [fBefore_N, h2]⟩]; exact ⟨y, by omega, rfl, h1⟩
      · have e2 : ¬ fBefore d y = nI l := fun z => h2 ((nI_eq (by have := @nL_le d y; omega) (by have := @nL_le d 24; omega)).mp (fBefore_N.symm.trans z))
        rw [if_neg (fun z => e2 z.2)]
        exact ih (y + 1) (by omega) (by rw [nL_1 h1]; omega)
    · rw [if_neg (fun z => h1 z.1)]
      exact ih (y + 1) (by omega) (by rw [nL_0 h1]; omega)
theorem fYd_none {d : Nat → Int32} {l : Int32} (hl : ¬ (0 ≤ l.toInt ∧ l.toInt < (nL d 24 : Int))) : ∀ f y, y + f = 24 → fYd d l f y = -1 := by
  intro f
  induction f with
  | zero => intro y _; rfl
  | succ f ih =>
    intro y hy
    rw [fYd]
    rw [if_neg, ih (y + 1) (by omega)]
    rintro ⟨h1, h2⟩
    rw [fBefore_N] at h2
    have h3 := @nL_le d y
    have h4 := nL_1 h1
    have h5 : nL d (y + 1) ≤ nL d 24 := nL_mono (by omega)
    refine hl ?_
    rw [← h2, nI_toInt (by omega)]
    omega
def oWithout (d : Nat → Int32) (l : Int32) : rD :=
  if 0 ≤ (fYard d l).toInt ∧ (fYard d l).toInt ≤ 23 then
    (if fAt d (fYard d l) ≤ 1 then (if 0 ≤ (fOB (up d (10 + cl (fYard d l)) 1)).1 then (0, (fOB (up d (10 + cl (fYard d l)) 1)).1, d) else fE d 2) else fE d 3)
  else fE d 1
theorem c_without {sc : List Value} {nm : Nat} {I : mg_I} {d0 : Nat → Int32} {l : Int32} (hw : gW d0) : SP sc 49 207 [.ref 124, .int l] (mR I d0) nm (qD I (oWithout d0 l) nm) := by
  refine SP.of (h := 48) (t := 207) (q := (yX12_without, cX12_without, 4, (some .int), 12, 1416, mi_k207)) rfl (by decide) (show ¬ (4 : Nat) < 2 by decide) (fun d hd => ?_)
  show GG sc 12 false false mi_k207 d 0 [.ref 124, .int l, .null, .null] [] (mR I d0) nm (qD I (oWithout d0 l) nm)
  have hN := hw.1.1
  have hl24 : (fBefore d0 24 - 1).toInt = (nL d0 24 : Int) - 1 := by
    rw [fBefore_N]
    have h5 := @nL_le d0 24
    generalize nL d0 24 = q at h5
    rcases q with _ | q
    · decide
    · rw [nI_pred, nI_toInt (by omega)]; omega
  unfold oWithout
  refine g_iload_n (n := 1) rfl rfl ?_
  refine g_i2l (n := 2) rfl ?_
  refine g_lconst (n := 3) (v := 0) rfl rfl ?_
  refine g_aload_n (n := 4) rfl rfl ?_
  refine g_bipush (n := 6) (v := 24) rfl rfl ?_
  refine g_cv1 (n := 9) (t := 166) (ci := 12) rfl (by decide +kernel) (by decide +kernel) (by decide) (by decide) (by decide +kernel) (by rfl) (c_ledgesBefore (y := 24) (by omega)) (by omega) (g_E ?_)
  try simp only [mR_125, mR_up, mR_w124, mR_r124, mR_w126, mR_r126, mR_w128, mR_r128, mR_w130, mR_r130, mR_w131, mR_r131, mR_w132, mR_r132, mR_w133, mR_r133, mR_w134, mR_r134, mR_w135, mR_r135]
  refine g_iconst (n := 10) (v := 1) rfl rfl ?_
  refine g_isub (n := 11) rfl ?_
  refine g_i2l (n := 12) rfl ?_
  refine g_cs3 (n := 15) (t := 141) (x := (1141, 1142, 84)) rfl (by decide +kernel) (by decide +kernel) (by rfl) (c_inI (a := 0) (b := (nL d0 24 : Int) - 1) rfl (by rw [Int32.toInt_toInt64]; exact hl24)) (by omega) (g_E ?_)
  refine g_split (fun h1 => ?_) (fun h1 => ?_)
  ·
    refine g_ifne1 (n := 18) 24 rfl (by decide) ?_
    obtain ⟨ll, hll, rfl, _⟩ := iR_nI (x := l) (n := nL d0 24) ⟨by omega, by omega⟩
    obtain ⟨z, hz, hzf, hz1⟩ := fYd_found hll 24 0 (by omega) (by exact Nat.zero_le _)
    rw [show fYard d0 (nI ll) = nI z from hzf, if_pos ⟨by rw [nI_toInt (by omega)]; omega, by rw [nI_toInt (by omega)]; omega⟩, show cl (nI z) = z from nI_clamp (by omega)]
    refine g_iconst (n := 25) (v := 0) rfl rfl ?_
    refine g_istore_n2 (n := 26) rfl rfl ?_
    have H : ∀ (m k : Nat), k + m = 24 → nL d0 k ≤ ll → fYd d0 (nI ll) m k = nI z → GG sc 12 false false mi_k207 d 26 [.ref 124, .int (nI ll), .int (nI k), .null] [] (mR I d0) nm (qD I (if fAt d0 (nI z) ≤ 1 then if 0 ≤ (fOB (up d0 (10 + z) 1)).fst then (0, (fOB (up d0 (10 + z) 1)).fst, d0) else fE d0 2 else fE d0 3) nm) := by
      intro m
      induction m with
      | zero => intro k hk h1 hf; rw [show k = 24 by omega] at h1; omega
      | succ m ih =>
        intro k hk h1 hf
        have h4 := @nL_le d0 k
        have h5 := @nL_le d0 24
        refine g_aload_n (n := 27) rfl rfl ?_
        refine g_iload_n (n := 28) rfl rfl ?_
        refine g_cv1 (n := 31) (t := 164) (ci := 12) rfl (by decide +kernel) (by decide +kernel) (by decide) (by decide) (by decide +kernel) (by rfl) (c_isLedge (y := k) (by omega)) (by omega) (g_E ?_)
        try simp only [mR_125, mR_up, mR_w124, mR_r124, mR_w126, mR_r126, mR_w128, mR_r128, mR_w130, mR_r130, mR_w131, mR_r131, mR_w132, mR_r132, mR_w133, mR_r133, mR_w134, mR_r134, mR_w135, mR_r135]
        refine g_split (fun h1 => ?_) (fun h1 => ?_)
        ·
          refine g_ifeq1 (n := 34) 43 rfl (by decide) ?_
          have hnl := nL_1 h1
          have hl1 := h1
          refine g_aload_n (n := 35) rfl rfl ?_
          refine g_iload_n (n := 36) rfl rfl ?_
          refine g_cv1 (n := 39) (t := 166) (ci := 12) rfl (by decide +kernel) (by decide +kernel) (by decide) (by decide) (by decide +kernel) (by rfl) (c_ledgesBefore (y := k) (by omega)) (by omega) (g_E ?_)
          try simp only [mR_125, mR_up, mR_w124, mR_r124, mR_w126, mR_r126, mR_w128, mR_r128, mR_w130, mR_r130, mR_w131, mR_r131, mR_w132, mR_r132, mR_w133, mR_r133, mR_w134, mR_r134, mR_w135, mR_r135]
          refine g_iload_n (n := 40) rfl rfl ?_
          refine g_icge (n := 43) 49 rfl (by decide) (fun h2 => ?_) (fun h2 => ?_)
          ·
            rw [fBefore_N] at h2
            have hb := (nI_leI (by omega) (by omega)).mp h2
            rw [fYd, if_pos ⟨hl1, by rw [fBefore_N, show nL d0 k = ll by omega]⟩] at hf
            have hkz : k = z := (nI_eq (by omega) (by omega)).mp hf
            subst hkz
            refine g_aload_n (n := 50) rfl rfl ?_
            refine g_iload_n (n := 51) rfl rfl ?_
            refine g_cv1 (n := 54) (t := 165) (ci := 12) rfl (by decide +kernel) (by decide +kernel) (by decide) (by decide) (by decide +kernel) (by rfl) (c_atYard (by assumption)) (by omega) (g_E ?_)
            try simp only [mR_125, mR_up, mR_w124, mR_r124, mR_w126, mR_r126, mR_w128, mR_r128, mR_w130, mR_r130, mR_w131, mR_r131, mR_w132, mR_r132, mR_w133, mR_r133, mR_w134, mR_r134, mR_w135, mR_r135]
            refine g_iconst (n := 55) (v := 1) rfl rfl ?_
            refine g_icle (n := 58) 64 rfl (by decide) (fun h3 => ?_) (fun h3 => ?_)
            ·
              rw [if_pos h3]
              refine g_aload_n (n := 65) rfl rfl ?_
              refine g_iload_n (n := 66) rfl rfl ?_
              refine g_iconst (n := 67) (v := 1) rfl rfl ?_
              refine g_cv2 (n := 70) (t := 206) (ci := 12) rfl (by decide +kernel) (by decide +kernel) (by decide) (by decide) (by decide +kernel) (by rfl) (c_overWith (y := k) (v := 1) hw hz) (by omega) (g_MF fun J hJ => ?_)
              refine g_istore_n3 (n := 71) rfl rfl ?_
              refine g_iload_n (n := 72) rfl rfl ?_
              refine g_ifge (n := 75) 83 rfl (by decide) (fun h4 => ?_) (fun h4 => ?_)
              ·
                rw [if_pos h4]
                refine g_iload_n (n := 84) rfl rfl ?_
                refine g_iret (n := 85) rfl (fun h => nomatch h) ?_
                first | exact qD_v hJ.x | exact qD_e (by decide) mX.rfl' | exact qD_e (by decide) hJ.x
              ·
                rw [if_neg h4]
                refine g_aload_n (n := 76) rfl rfl ?_
                refine g_iconst (n := 77) (v := 2) rfl rfl ?_
                refine g_cv1 (n := 80) (t := 140) (ci := 12) rfl (by decide +kernel) (by decide +kernel) (by decide) (by decide) (by decide +kernel) (by rfl) (c_finds (k := 2) (by omega)) (by omega) (g_E ?_)
                try simp only [mR_125, mR_up, mR_w124, mR_r124, mR_w126, mR_r126, mR_w128, mR_r128, mR_w130, mR_r130, mR_w131, mR_r131, mR_w132, mR_r132, mR_w133, mR_r133, mR_w134, mR_r134, mR_w135, mR_r135]
                refine g_goto 84 rfl (by decide) ?_
                refine g_iret (n := 85) rfl (fun h => nomatch h) ?_
                first | exact qD_v hJ.x | exact qD_e (by decide) mX.rfl' | exact qD_e (by decide) hJ.x
            ·
              rw [if_neg h3]
              refine g_aload_n (n := 59) rfl rfl ?_
              refine g_iconst (n := 60) (v := 3) rfl rfl ?_
              refine g_cv1 (n := 63) (t := 140) (ci := 12) rfl (by decide +kernel) (by decide +kernel) (by decide) (by decide) (by decide +kernel) (by rfl) (c_finds (k := 3) (by omega)) (by omega) (g_E ?_)
              try simp only [mR_125, mR_up, mR_w124, mR_r124, mR_w126, mR_r126, mR_w128, mR_r128, mR_w130, mR_r130, mR_w131, mR_r131, mR_w132, mR_r132, mR_w133, mR_r133, mR_w134, mR_r134, mR_w135, mR_r135]
              refine g_iret (n := 64) rfl (fun h => nomatch h) ?_
              first | exact qD_v hJ.x | exact qD_e (by decide) mX.rfl' | exact qD_e (by decide) hJ.x
          ·
            rw [fBefore_N] at h2
            have hb : ¬ ll ≤ nL d0 k := fun q => h2 ((nI_leI (by omega) (by omega)).mpr q)
            rw [fYd, if_neg (fun q => hb (Nat.le_of_eq ((nI_eq (by omega) (by omega)).mp (q.2.symm.trans fBefore_N))))] at hf
            refine g_iinc2 (n := 46) rfl rfl (nI_inc _) ?_
            refine g_goto 26 rfl (by decide) ?_
            exact ih (k + 1) (by omega) (by omega) hf
        ·
          refine g_ifeq0 (n := 34) 43 rfl (by decide) ?_
          have hnl : nL d0 (k + 1) = nL d0 k := nL_0 h1
          rw [fYd, if_neg (fun q => h1 q.1)] at hf
          refine g_iinc2 (n := 46) rfl rfl (nI_inc _) ?_
          refine g_goto 26 rfl (by decide) ?_
          exact ih (k + 1) (by omega) (by omega) hf
    exact H 24 0 (by omega) (Nat.zero_le _) hzf
  ·
    refine g_ifne0 (n := 18) 24 rfl (by decide) ?_
    rw [if_neg (by rw [show fYard d0 l = -1 from fYd_none (by omega) 24 0 (by omega)]; decide)]
    refine g_aload_n (n := 19) rfl rfl ?_
    refine g_iconst (n := 20) (v := 1) rfl rfl ?_
    refine g_cv1 (n := 23) (t := 140) (ci := 12) rfl (by decide +kernel) (by decide +kernel) (by decide) (by decide) (by decide +kernel) (by rfl) (c_finds (k := 1) (by omega)) (by omega) (g_E ?_)
    try simp only [mR_125, mR_up, mR_w124, mR_r124, mR_w126, mR_r126, mR_w128, mR_r128, mR_w130, mR_r130, mR_w131, mR_r131, mR_w132, mR_r132, mR_w133, mR_r133, mR_w134, mR_r134, mR_w135, mR_r135]
    refine g_iret (n := 24) rfl (fun h => nomatch h) ?_
    exact qD_e (by decide) mX.rfl'
end
