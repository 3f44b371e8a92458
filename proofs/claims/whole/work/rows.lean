section
/-- a private method of a class that the tables say can be made, by its rows of tables_1 -/
def lw_okq (q : MethodName × Nat) : Prop := (q.1.cls ≠ "java/lang/invoke/MethodHandle" ∧ q.1.cls ≠ "java/lang/invoke/VarHandle") ∧ Cond.instantiable q.1.cls q.2 ∈ tables_1 ∧ Cond.privateMethod q.1 ∈ tables_1 ∧ Cond.instanceMethod q.1 ∈ tables_1
theorem lw_p0 : lw_okq (⟨"GainTables$Borders", "copyBorder", "(II)V"⟩, 4) := ⟨⟨by decide +kernel, by decide +kernel⟩, List.mem_of_getElem? (i := 34) (by decide +kernel), List.mem_of_getElem? (i := 340) (by decide +kernel), List.mem_of_getElem? (i := 341) (by decide +kernel)⟩
theorem lw_p1 : lw_okq (⟨"GainTables$Table", "copyStrip", "(III)V"⟩, 4) := ⟨⟨by decide +kernel, by decide +kernel⟩, List.mem_of_getElem? (i := 28) (by decide +kernel), List.mem_of_getElem? (i := 344) (by decide +kernel), List.mem_of_getElem? (i := 345) (by decide +kernel)⟩
theorem lw_p2 : lw_okq (⟨"GainTables", "isBorder", "(II)Z"⟩, 9) := ⟨⟨by decide +kernel, by decide +kernel⟩, List.mem_of_getElem? (i := 14) (by decide +kernel), List.mem_of_getElem? (i := 377) (by decide +kernel), List.mem_of_getElem? (i := 378) (by decide +kernel)⟩
theorem lw_p3 : lw_okq (⟨"GainTables", "isEdit", "(IIIII)Z"⟩, 9) := ⟨⟨by decide +kernel, by decide +kernel⟩, List.mem_of_getElem? (i := 14) (by decide +kernel), List.mem_of_getElem? (i := 427) (by decide +kernel), List.mem_of_getElem? (i := 428) (by decide +kernel)⟩
theorem lw_p4 : lw_okq (⟨"GainTables", "isRegion", "(II)Z"⟩, 9) := ⟨⟨by decide +kernel, by decide +kernel⟩, List.mem_of_getElem? (i := 14) (by decide +kernel), List.mem_of_getElem? (i := 431) (by decide +kernel), List.mem_of_getElem? (i := 432) (by decide +kernel)⟩
theorem lw_p5 : lw_okq (⟨"GainTables", "carryOutMove", "(II)I"⟩, 9) := ⟨⟨by decide +kernel, by decide +kernel⟩, List.mem_of_getElem? (i := 14) (by decide +kernel), List.mem_of_getElem? (i := 484) (by decide +kernel), List.mem_of_getElem? (i := 485) (by decide +kernel)⟩
theorem lw_p6 : lw_okq (⟨"GainTables", "blendAtPoint", "()V"⟩, 9) := ⟨⟨by decide +kernel, by decide +kernel⟩, List.mem_of_getElem? (i := 14) (by decide +kernel), List.mem_of_getElem? (i := 492) (by decide +kernel), List.mem_of_getElem? (i := 493) (by decide +kernel)⟩
theorem lw_p7 : lw_okq (⟨"GainTables", "noteValues", "([I)V"⟩, 9) := ⟨⟨by decide +kernel, by decide +kernel⟩, List.mem_of_getElem? (i := 14) (by decide +kernel), List.mem_of_getElem? (i := 515) (by decide +kernel), List.mem_of_getElem? (i := 516) (by decide +kernel)⟩
theorem lw_p8 : lw_okq (⟨"GainTables", "blendedValue", "(I)I"⟩, 9) := ⟨⟨by decide +kernel, by decide +kernel⟩, List.mem_of_getElem? (i := 14) (by decide +kernel), List.mem_of_getElem? (i := 519) (by decide +kernel), List.mem_of_getElem? (i := 520) (by decide +kernel)⟩
theorem lw_p9 : lw_okq (⟨"GainTables", "greatestDifference", "()I"⟩, 9) := ⟨⟨by decide +kernel, by decide +kernel⟩, List.mem_of_getElem? (i := 14) (by decide +kernel), List.mem_of_getElem? (i := 535) (by decide +kernel), List.mem_of_getElem? (i := 536) (by decide +kernel)⟩
theorem lw_p10 : lw_okq (⟨"GainTables$Text", "peek", "()I"⟩, 4) := ⟨⟨by decide +kernel, by decide +kernel⟩, List.mem_of_getElem? (i := 177) (by decide +kernel), List.mem_of_getElem? (i := 618) (by decide +kernel), List.mem_of_getElem? (i := 619) (by decide +kernel)⟩
theorem lw_p11 : lw_okq (⟨"GainTables$Text", "characterAt", "(I)I"⟩, 4) := ⟨⟨by decide +kernel, by decide +kernel⟩, List.mem_of_getElem? (i := 177) (by decide +kernel), List.mem_of_getElem? (i := 622) (by decide +kernel), List.mem_of_getElem? (i := 623) (by decide +kernel)⟩
theorem lw_p12 : lw_okq (⟨"GainTables$Text", "readItem", "(LGainTables$Table;)V"⟩, 4) := ⟨⟨by decide +kernel, by decide +kernel⟩, List.mem_of_getElem? (i := 177) (by decide +kernel), List.mem_of_getElem? (i := 626) (by decide +kernel), List.mem_of_getElem? (i := 627) (by decide +kernel)⟩
theorem lw_p13 : lw_okq (⟨"GainTables$Text", "readBorder", "(LGainTables$Table;I)V"⟩, 4) := ⟨⟨by decide +kernel, by decide +kernel⟩, List.mem_of_getElem? (i := 177) (by decide +kernel), List.mem_of_getElem? (i := 630) (by decide +kernel), List.mem_of_getElem? (i := 631) (by decide +kernel)⟩
theorem lw_p14 : lw_okq (⟨"GainTables$Text", "readNumber", "(II)I"⟩, 4) := ⟨⟨by decide +kernel, by decide +kernel⟩, List.mem_of_getElem? (i := 177) (by decide +kernel), List.mem_of_getElem? (i := 634) (by decide +kernel), List.mem_of_getElem? (i := 635) (by decide +kernel)⟩
theorem lw_p15 : lw_okq (⟨"GainTables$Text", "readEndOfItem", "()V"⟩, 4) := ⟨⟨by decide +kernel, by decide +kernel⟩, List.mem_of_getElem? (i := 177) (by decide +kernel), List.mem_of_getElem? (i := 644) (by decide +kernel), List.mem_of_getElem? (i := 645) (by decide +kernel)⟩
def lw_privs_1 : List (MethodName × Nat) := [(⟨"GainTables$Borders", "copyBorder", "(II)V"⟩, 4), (⟨"GainTables$Table", "copyStrip", "(III)V"⟩, 4), (⟨"GainTables", "isBorder", "(II)Z"⟩, 9), (⟨"GainTables", "isEdit", "(IIIII)Z"⟩, 9), (⟨"GainTables", "isRegion", "(II)Z"⟩, 9), (⟨"GainTables", "carryOutMove", "(II)I"⟩, 9), (⟨"GainTables", "blendAtPoint", "()V"⟩, 9), (⟨"GainTables", "noteValues", "([I)V"⟩, 9), (⟨"GainTables", "blendedValue", "(I)I"⟩, 9), (⟨"GainTables", "greatestDifference", "()I"⟩, 9), (⟨"GainTables$Text", "peek", "()I"⟩, 4), (⟨"GainTables$Text", "characterAt", "(I)I"⟩, 4), (⟨"GainTables$Text", "readItem", "(LGainTables$Table;)V"⟩, 4), (⟨"GainTables$Text", "readBorder", "(LGainTables$Table;I)V"⟩, 4), (⟨"GainTables$Text", "readNumber", "(II)I"⟩, 4), (⟨"GainTables$Text", "readEndOfItem", "()V"⟩, 4)]
theorem lw_r1 : ∀ q ∈ lw_privs_1, lw_okq q := List.forall_mem_cons.mpr ⟨lw_p0, List.forall_mem_cons.mpr ⟨lw_p1, List.forall_mem_cons.mpr ⟨lw_p2, List.forall_mem_cons.mpr ⟨lw_p3, List.forall_mem_cons.mpr ⟨lw_p4, List.forall_mem_cons.mpr ⟨lw_p5, List.forall_mem_cons.mpr ⟨lw_p6, List.forall_mem_cons.mpr ⟨lw_p7, List.forall_mem_cons.mpr ⟨lw_p8, List.forall_mem_cons.mpr ⟨lw_p9, List.forall_mem_cons.mpr ⟨lw_p10, List.forall_mem_cons.mpr ⟨lw_p11, List.forall_mem_cons.mpr ⟨lw_p12, List.forall_mem_cons.mpr ⟨lw_p13, List.forall_mem_cons.mpr ⟨lw_p14, List.forall_mem_cons.mpr ⟨lw_p15, fun _ h => absurd h List.not_mem_nil⟩⟩⟩⟩⟩⟩⟩⟩⟩⟩⟩⟩⟩⟩⟩⟩
theorem lw_p16 : lw_okq (⟨"GainTables$Text", "readGain", "(LGainTables$Table;)V"⟩, 4) := ⟨⟨by decide +kernel, by decide +kernel⟩, List.mem_of_getElem? (i := 177) (by decide +kernel), List.mem_of_getElem? (i := 654) (by decide +kernel), List.mem_of_getElem? (i := 655) (by decide +kernel)⟩
theorem lw_p17 : lw_okq (⟨"GainTablesModel", "clearRegions", "()V"⟩, 14) := ⟨⟨by decide +kernel, by decide +kernel⟩, List.mem_of_getElem? (i := 755) (by decide +kernel), List.mem_of_getElem? (i := 761) (by decide +kernel), List.mem_of_getElem? (i := 762) (by decide +kernel)⟩
theorem lw_p18 : lw_okq (⟨"GainTablesModel", "isOccupied", "(IIII)Z"⟩, 14) := ⟨⟨by decide +kernel, by decide +kernel⟩, List.mem_of_getElem? (i := 755) (by decide +kernel), List.mem_of_getElem? (i := 826) (by decide +kernel), List.mem_of_getElem? (i := 827) (by decide +kernel)⟩
theorem lw_p19 : lw_okq (⟨"GainTablesModel", "borders", "(I)I"⟩, 14) := ⟨⟨by decide +kernel, by decide +kernel⟩, List.mem_of_getElem? (i := 755) (by decide +kernel), List.mem_of_getElem? (i := 830) (by decide +kernel), List.mem_of_getElem? (i := 831) (by decide +kernel)⟩
theorem lw_p20 : lw_okq (⟨"GainTablesModel", "ofBorder", "(III)I"⟩, 14) := ⟨⟨by decide +kernel, by decide +kernel⟩, List.mem_of_getElem? (i := 755) (by decide +kernel), List.mem_of_getElem? (i := 834) (by decide +kernel), List.mem_of_getElem? (i := 835) (by decide +kernel)⟩
theorem lw_p21 : lw_okq (⟨"GainTablesModel", "act", "()V"⟩, 14) := ⟨⟨by decide +kernel, by decide +kernel⟩, List.mem_of_getElem? (i := 755) (by decide +kernel), List.mem_of_getElem? (i := 843) (by decide +kernel), List.mem_of_getElem? (i := 844) (by decide +kernel)⟩
theorem lw_p22 : lw_okq (⟨"GainTablesModel", "allGains", "()I"⟩, 14) := ⟨⟨by decide +kernel, by decide +kernel⟩, List.mem_of_getElem? (i := 755) (by decide +kernel), List.mem_of_getElem? (i := 847) (by decide +kernel), List.mem_of_getElem? (i := 848) (by decide +kernel)⟩
theorem lw_p23 : lw_okq (⟨"GainTablesModel", "insert", "(IIII)I"⟩, 14) := ⟨⟨by decide +kernel, by decide +kernel⟩, List.mem_of_getElem? (i := 755) (by decide +kernel), List.mem_of_getElem? (i := 854) (by decide +kernel), List.mem_of_getElem? (i := 855) (by decide +kernel)⟩
theorem lw_p24 : lw_okq (⟨"GainTablesModel", "setBorder", "(IIIII)V"⟩, 14) := ⟨⟨by decide +kernel, by decide +kernel⟩, List.mem_of_getElem? (i := 755) (by decide +kernel), List.mem_of_getElem? (i := 858) (by decide +kernel), List.mem_of_getElem? (i := 859) (by decide +kernel)⟩
theorem lw_p25 : lw_okq (⟨"GainTablesModel", "copyStrip", "(III)V"⟩, 14) := ⟨⟨by decide +kernel, by decide +kernel⟩, List.mem_of_getElem? (i := 755) (by decide +kernel), List.mem_of_getElem? (i := 862) (by decide +kernel), List.mem_of_getElem? (i := 863) (by decide +kernel)⟩
theorem lw_p26 : lw_okq (⟨"GainTablesModel", "copyRegion", "(IIII)V"⟩, 14) := ⟨⟨by decide +kernel, by decide +kernel⟩, List.mem_of_getElem? (i := 755) (by decide +kernel), List.mem_of_getElem? (i := 866) (by decide +kernel), List.mem_of_getElem? (i := 867) (by decide +kernel)⟩
theorem lw_p27 : lw_okq (⟨"GainTablesModel", "settle", "(I)V"⟩, 14) := ⟨⟨by decide +kernel, by decide +kernel⟩, List.mem_of_getElem? (i := 755) (by decide +kernel), List.mem_of_getElem? (i := 870) (by decide +kernel), List.mem_of_getElem? (i := 871) (by decide +kernel)⟩
theorem lw_p28 : lw_okq (⟨"GainTablesModel", "findZones", "()V"⟩, 14) := ⟨⟨by decide +kernel, by decide +kernel⟩, List.mem_of_getElem? (i := 755) (by decide +kernel), List.mem_of_getElem? (i := 874) (by decide +kernel), List.mem_of_getElem? (i := 875) (by decide +kernel)⟩
theorem lw_p29 : lw_okq (⟨"GainTablesModel", "zoneOf", "(II)I"⟩, 14) := ⟨⟨by decide +kernel, by decide +kernel⟩, List.mem_of_getElem? (i := 755) (by decide +kernel), List.mem_of_getElem? (i := 878) (by decide +kernel), List.mem_of_getElem? (i := 879) (by decide +kernel)⟩
theorem lw_p30 : lw_okq (⟨"GainTablesModel", "isBorder", "(II)Z"⟩, 14) := ⟨⟨by decide +kernel, by decide +kernel⟩, List.mem_of_getElem? (i := 755) (by decide +kernel), List.mem_of_getElem? (i := 886) (by decide +kernel), List.mem_of_getElem? (i := 887) (by decide +kernel)⟩
theorem lw_p31 : lw_okq (⟨"GainTablesModel", "isEdit", "(IIIII)Z"⟩, 14) := ⟨⟨by decide +kernel, by decide +kernel⟩, List.mem_of_getElem? (i := 755) (by decide +kernel), List.mem_of_getElem? (i := 906) (by decide +kernel), List.mem_of_getElem? (i := 907) (by decide +kernel)⟩
def lw_privs_2 : List (MethodName × Nat) := [(⟨"GainTables$Text", "readGain", "(LGainTables$Table;)V"⟩, 4), (⟨"GainTablesModel", "clearRegions", "()V"⟩, 14), (⟨"GainTablesModel", "isOccupied", "(IIII)Z"⟩, 14), (⟨"GainTablesModel", "borders", "(I)I"⟩, 14), (⟨"GainTablesModel", "ofBorder", "(III)I"⟩, 14), (⟨"GainTablesModel", "act", "()V"⟩, 14), (⟨"GainTablesModel", "allGains", "()I"⟩, 14), (⟨"GainTablesModel", "insert", "(IIII)I"⟩, 14), (⟨"GainTablesModel", "setBorder", "(IIIII)V"⟩, 14), (⟨"GainTablesModel", "copyStrip", "(III)V"⟩, 14), (⟨"GainTablesModel", "copyRegion", "(IIII)V"⟩, 14), (⟨"GainTablesModel", "settle", "(I)V"⟩, 14), (⟨"GainTablesModel", "findZones", "()V"⟩, 14), (⟨"GainTablesModel", "zoneOf", "(II)I"⟩, 14), (⟨"GainTablesModel", "isBorder", "(II)Z"⟩, 14), (⟨"GainTablesModel", "isEdit", "(IIIII)Z"⟩, 14)]
theorem lw_r2 : ∀ q ∈ lw_privs_2, lw_okq q := List.forall_mem_cons.mpr ⟨lw_p16, List.forall_mem_cons.mpr ⟨lw_p17, List.forall_mem_cons.mpr ⟨lw_p18, List.forall_mem_cons.mpr ⟨lw_p19, List.forall_mem_cons.mpr ⟨lw_p20, List.forall_mem_cons.mpr ⟨lw_p21, List.forall_mem_cons.mpr ⟨lw_p22, List.forall_mem_cons.mpr ⟨lw_p23, List.forall_mem_cons.mpr ⟨lw_p24, List.forall_mem_cons.mpr ⟨lw_p25, List.forall_mem_cons.mpr ⟨lw_p26, List.forall_mem_cons.mpr ⟨lw_p27, List.forall_mem_cons.mpr ⟨lw_p28, List.forall_mem_cons.mpr ⟨lw_p29, List.forall_mem_cons.mpr ⟨lw_p30, List.forall_mem_cons.mpr ⟨lw_p31, fun _ h => absurd h List.not_mem_nil⟩⟩⟩⟩⟩⟩⟩⟩⟩⟩⟩⟩⟩⟩⟩⟩
theorem lw_p32 : lw_okq (⟨"GainTablesModel", "isRegion", "(II)Z"⟩, 14) := ⟨⟨by decide +kernel, by decide +kernel⟩, List.mem_of_getElem? (i := 755) (by decide +kernel), List.mem_of_getElem? (i := 910) (by decide +kernel), List.mem_of_getElem? (i := 911) (by decide +kernel)⟩
theorem lw_p33 : lw_okq (⟨"GainTablesModel", "refusalOf", "(IIIII)I"⟩, 14) := ⟨⟨by decide +kernel, by decide +kernel⟩, List.mem_of_getElem? (i := 755) (by decide +kernel), List.mem_of_getElem? (i := 914) (by decide +kernel), List.mem_of_getElem? (i := 915) (by decide +kernel)⟩
theorem lw_p34 : lw_okq (⟨"GainTablesModel", "change", "(IIIII)V"⟩, 14) := ⟨⟨by decide +kernel, by decide +kernel⟩, List.mem_of_getElem? (i := 755) (by decide +kernel), List.mem_of_getElem? (i := 918) (by decide +kernel), List.mem_of_getElem? (i := 919) (by decide +kernel)⟩
theorem lw_p35 : lw_okq (⟨"GainTablesModel", "locksOf", "(I)I"⟩, 14) := ⟨⟨by decide +kernel, by decide +kernel⟩, List.mem_of_getElem? (i := 755) (by decide +kernel), List.mem_of_getElem? (i := 930) (by decide +kernel), List.mem_of_getElem? (i := 931) (by decide +kernel)⟩
theorem lw_p36 : lw_okq (⟨"GainTablesModel", "moves", "(II)I"⟩, 14) := ⟨⟨by decide +kernel, by decide +kernel⟩, List.mem_of_getElem? (i := 755) (by decide +kernel), List.mem_of_getElem? (i := 945) (by decide +kernel), List.mem_of_getElem? (i := 946) (by decide +kernel)⟩
theorem lw_p37 : lw_okq (⟨"GainTablesModel", "isIgnored", "(II)Z"⟩, 14) := ⟨⟨by decide +kernel, by decide +kernel⟩, List.mem_of_getElem? (i := 755) (by decide +kernel), List.mem_of_getElem? (i := 949) (by decide +kernel), List.mem_of_getElem? (i := 950) (by decide +kernel)⟩
theorem lw_p38 : lw_okq (⟨"GainTablesModel", "noteValues", "()V"⟩, 14) := ⟨⟨by decide +kernel, by decide +kernel⟩, List.mem_of_getElem? (i := 755) (by decide +kernel), List.mem_of_getElem? (i := 953) (by decide +kernel), List.mem_of_getElem? (i := 954) (by decide +kernel)⟩
theorem lw_p39 : lw_okq (⟨"GainTablesModel", "locatePoint", "()V"⟩, 14) := ⟨⟨by decide +kernel, by decide +kernel⟩, List.mem_of_getElem? (i := 755) (by decide +kernel), List.mem_of_getElem? (i := 957) (by decide +kernel), List.mem_of_getElem? (i := 958) (by decide +kernel)⟩
theorem lw_p40 : lw_okq (⟨"GainTablesModel", "locate", "(III)V"⟩, 14) := ⟨⟨by decide +kernel, by decide +kernel⟩, List.mem_of_getElem? (i := 755) (by decide +kernel), List.mem_of_getElem? (i := 961) (by decide +kernel), List.mem_of_getElem? (i := 962) (by decide +kernel)⟩
theorem lw_p41 : lw_okq (⟨"GainTablesModel", "sticky", "(II)I"⟩, 14) := ⟨⟨by decide +kernel, by decide +kernel⟩, List.mem_of_getElem? (i := 755) (by decide +kernel), List.mem_of_getElem? (i := 965) (by decide +kernel), List.mem_of_getElem? (i := 966) (by decide +kernel)⟩
theorem lw_p42 : lw_okq (⟨"GainTablesModel", "value", "(I)I"⟩, 14) := ⟨⟨by decide +kernel, by decide +kernel⟩, List.mem_of_getElem? (i := 755) (by decide +kernel), List.mem_of_getElem? (i := 969) (by decide +kernel), List.mem_of_getElem? (i := 970) (by decide +kernel)⟩
theorem lw_p43 : lw_okq (⟨"GainTablesModel", "numerator", "(I)I"⟩, 14) := ⟨⟨by decide +kernel, by decide +kernel⟩, List.mem_of_getElem? (i := 755) (by decide +kernel), List.mem_of_getElem? (i := 973) (by decide +kernel), List.mem_of_getElem? (i := 974) (by decide +kernel)⟩
theorem lw_p44 : lw_okq (⟨"GainTablesModel", "denominator", "()I"⟩, 14) := ⟨⟨by decide +kernel, by decide +kernel⟩, List.mem_of_getElem? (i := 755) (by decide +kernel), List.mem_of_getElem? (i := 977) (by decide +kernel), List.mem_of_getElem? (i := 978) (by decide +kernel)⟩
theorem lw_p45 : lw_okq (⟨"GainTablesModel", "goTo", "(II)V"⟩, 14) := ⟨⟨by decide +kernel, by decide +kernel⟩, List.mem_of_getElem? (i := 755) (by decide +kernel), List.mem_of_getElem? (i := 981) (by decide +kernel), List.mem_of_getElem? (i := 982) (by decide +kernel)⟩
theorem lw_p46 : lw_okq (⟨"GainTablesModel", "zoneBehind", "(III)I"⟩, 14) := ⟨⟨by decide +kernel, by decide +kernel⟩, List.mem_of_getElem? (i := 755) (by decide +kernel), List.mem_of_getElem? (i := 985) (by decide +kernel), List.mem_of_getElem? (i := 986) (by decide +kernel)⟩
theorem lw_p47 : lw_okq (⟨"GainTablesModel", "jump", "()I"⟩, 14) := ⟨⟨by decide +kernel, by decide +kernel⟩, List.mem_of_getElem? (i := 755) (by decide +kernel), List.mem_of_getElem? (i := 989) (by decide +kernel), List.mem_of_getElem? (i := 990) (by decide +kernel)⟩
def lw_privs_3 : List (MethodName × Nat) := [(⟨"GainTablesModel", "isRegion", "(II)Z"⟩, 14), (⟨"GainTablesModel", "refusalOf", "(IIIII)I"⟩, 14), (⟨"GainTablesModel", "change", "(IIIII)V"⟩, 14), (⟨"GainTablesModel", "locksOf", "(I)I"⟩, 14), (⟨"GainTablesModel", "moves", "(II)I"⟩, 14), (⟨"GainTablesModel", "isIgnored", "(II)Z"⟩, 14), (⟨"GainTablesModel", "noteValues", "()V"⟩, 14), (⟨"GainTablesModel", "locatePoint", "()V"⟩, 14), (⟨"GainTablesModel", "locate", "(III)V"⟩, 14), (⟨"GainTablesModel", "sticky", "(II)I"⟩, 14), (⟨"GainTablesModel", "value", "(I)I"⟩, 14), (⟨"GainTablesModel", "numerator", "(I)I"⟩, 14), (⟨"GainTablesModel", "denominator", "()I"⟩, 14), (⟨"GainTablesModel", "goTo", "(II)V"⟩, 14), (⟨"GainTablesModel", "zoneBehind", "(III)I"⟩, 14), (⟨"GainTablesModel", "jump", "()I"⟩, 14)]
theorem lw_r3 : ∀ q ∈ lw_privs_3, lw_okq q := List.forall_mem_cons.mpr ⟨lw_p32, List.forall_mem_cons.mpr ⟨lw_p33, List.forall_mem_cons.mpr ⟨lw_p34, List.forall_mem_cons.mpr ⟨lw_p35, List.forall_mem_cons.mpr ⟨lw_p36, List.forall_mem_cons.mpr ⟨lw_p37, List.forall_mem_cons.mpr ⟨lw_p38, List.forall_mem_cons.mpr ⟨lw_p39, List.forall_mem_cons.mpr ⟨lw_p40, List.forall_mem_cons.mpr ⟨lw_p41, List.forall_mem_cons.mpr ⟨lw_p42, List.forall_mem_cons.mpr ⟨lw_p43, List.forall_mem_cons.mpr ⟨lw_p44, List.forall_mem_cons.mpr ⟨lw_p45, List.forall_mem_cons.mpr ⟨lw_p46, List.forall_mem_cons.mpr ⟨lw_p47, fun _ h => absurd h List.not_mem_nil⟩⟩⟩⟩⟩⟩⟩⟩⟩⟩⟩⟩⟩⟩⟩⟩
theorem lw_p48 : lw_okq (⟨"GainTablesModel", "newEntry", "()I"⟩, 14) := ⟨⟨by decide +kernel, by decide +kernel⟩, List.mem_of_getElem? (i := 755) (by decide +kernel), List.mem_of_getElem? (i := 993) (by decide +kernel), List.mem_of_getElem? (i := 994) (by decide +kernel)⟩
theorem lw_p49 : lw_okq (⟨"GainTablesModel", "regions", "()I"⟩, 14) := ⟨⟨by decide +kernel, by decide +kernel⟩, List.mem_of_getElem? (i := 755) (by decide +kernel), List.mem_of_getElem? (i := 1008) (by decide +kernel), List.mem_of_getElem? (i := 1009) (by decide +kernel)⟩
theorem lw_p50 : lw_okq (⟨"GainTablesModel", "hold", "()V"⟩, 14) := ⟨⟨by decide +kernel, by decide +kernel⟩, List.mem_of_getElem? (i := 755) (by decide +kernel), List.mem_of_getElem? (i := 1032) (by decide +kernel), List.mem_of_getElem? (i := 1033) (by decide +kernel)⟩
theorem lw_p51 : lw_okq (⟨"GainTablesModel", "here", "()I"⟩, 14) := ⟨⟨by decide +kernel, by decide +kernel⟩, List.mem_of_getElem? (i := 755) (by decide +kernel), List.mem_of_getElem? (i := 1036) (by decide +kernel), List.mem_of_getElem? (i := 1037) (by decide +kernel)⟩
theorem lw_p52 : lw_okq (⟨"GainTablesModel", "readsItem", "()Z"⟩, 14) := ⟨⟨by decide +kernel, by decide +kernel⟩, List.mem_of_getElem? (i := 755) (by decide +kernel), List.mem_of_getElem? (i := 1040) (by decide +kernel), List.mem_of_getElem? (i := 1041) (by decide +kernel)⟩
theorem lw_p53 : lw_okq (⟨"GainTablesModel", "readsGain", "()Z"⟩, 14) := ⟨⟨by decide +kernel, by decide +kernel⟩, List.mem_of_getElem? (i := 755) (by decide +kernel), List.mem_of_getElem? (i := 1044) (by decide +kernel), List.mem_of_getElem? (i := 1045) (by decide +kernel)⟩
theorem lw_p54 : lw_okq (⟨"GainTablesModel", "reads", "(II)Z"⟩, 14) := ⟨⟨by decide +kernel, by decide +kernel⟩, List.mem_of_getElem? (i := 755) (by decide +kernel), List.mem_of_getElem? (i := 1048) (by decide +kernel), List.mem_of_getElem? (i := 1049) (by decide +kernel)⟩
theorem lw_p55 : lw_okq (⟨"GainTablesModel", "takes", "(I)Z"⟩, 14) := ⟨⟨by decide +kernel, by decide +kernel⟩, List.mem_of_getElem? (i := 755) (by decide +kernel), List.mem_of_getElem? (i := 1053) (by decide +kernel), List.mem_of_getElem? (i := 1054) (by decide +kernel)⟩
theorem lw_p56 : lw_okq (⟨"GainTablesModel", "readsBorder", "(II)Z"⟩, 14) := ⟨⟨by decide +kernel, by decide +kernel⟩, List.mem_of_getElem? (i := 755) (by decide +kernel), List.mem_of_getElem? (i := 1057) (by decide +kernel), List.mem_of_getElem? (i := 1058) (by decide +kernel)⟩
theorem lw_p57 : lw_okq (⟨"GainTablesModel", "release", "()V"⟩, 14) := ⟨⟨by decide +kernel, by decide +kernel⟩, List.mem_of_getElem? (i := 755) (by decide +kernel), List.mem_of_getElem? (i := 1061) (by decide +kernel), List.mem_of_getElem? (i := 1062) (by decide +kernel)⟩
theorem lw_p58 : lw_okq (⟨"GainTablesModel", "exchange", "()V"⟩, 14) := ⟨⟨by decide +kernel, by decide +kernel⟩, List.mem_of_getElem? (i := 755) (by decide +kernel), List.mem_of_getElem? (i := 1066) (by decide +kernel), List.mem_of_getElem? (i := 1067) (by decide +kernel)⟩
theorem lw_p59 : lw_okq (⟨"GainTablesModel", "snapshots", "()I"⟩, 14) := ⟨⟨by decide +kernel, by decide +kernel⟩, List.mem_of_getElem? (i := 755) (by decide +kernel), List.mem_of_getElem? (i := 1074) (by decide +kernel), List.mem_of_getElem? (i := 1075) (by decide +kernel)⟩
theorem lw_p60 : lw_okq (⟨"GainTablesModel", "stickyMany", "(I)I"⟩, 14) := ⟨⟨by decide +kernel, by decide +kernel⟩, List.mem_of_getElem? (i := 755) (by decide +kernel), List.mem_of_getElem? (i := 1082) (by decide +kernel), List.mem_of_getElem? (i := 1083) (by decide +kernel)⟩
theorem lw_p61 : lw_okq (⟨"GainTablesModel", "valueThere", "(III)I"⟩, 14) := ⟨⟨by decide +kernel, by decide +kernel⟩, List.mem_of_getElem? (i := 755) (by decide +kernel), List.mem_of_getElem? (i := 1122) (by decide +kernel), List.mem_of_getElem? (i := 1123) (by decide +kernel)⟩
theorem lw_p62 : lw_okq (⟨"GainTablesModel", "chatters", "(IIIII)I"⟩, 14) := ⟨⟨by decide +kernel, by decide +kernel⟩, List.mem_of_getElem? (i := 755) (by decide +kernel), List.mem_of_getElem? (i := 1130) (by decide +kernel), List.mem_of_getElem? (i := 1131) (by decide +kernel)⟩
def lw_privs_4 : List (MethodName × Nat) := [(⟨"GainTablesModel", "newEntry", "()I"⟩, 14), (⟨"GainTablesModel", "regions", "()I"⟩, 14), (⟨"GainTablesModel", "hold", "()V"⟩, 14), (⟨"GainTablesModel", "here", "()I"⟩, 14), (⟨"GainTablesModel", "readsItem", "()Z"⟩, 14), (⟨"GainTablesModel", "readsGain", "()Z"⟩, 14), (⟨"GainTablesModel", "reads", "(II)Z"⟩, 14), (⟨"GainTablesModel", "takes", "(I)Z"⟩, 14), (⟨"GainTablesModel", "readsBorder", "(II)Z"⟩, 14), (⟨"GainTablesModel", "release", "()V"⟩, 14), (⟨"GainTablesModel", "exchange", "()V"⟩, 14), (⟨"GainTablesModel", "snapshots", "()I"⟩, 14), (⟨"GainTablesModel", "stickyMany", "(I)I"⟩, 14), (⟨"GainTablesModel", "valueThere", "(III)I"⟩, 14), (⟨"GainTablesModel", "chatters", "(IIIII)I"⟩, 14)]
theorem lw_r4 : ∀ q ∈ lw_privs_4, lw_okq q := List.forall_mem_cons.mpr ⟨lw_p48, List.forall_mem_cons.mpr ⟨lw_p49, List.forall_mem_cons.mpr ⟨lw_p50, List.forall_mem_cons.mpr ⟨lw_p51, List.forall_mem_cons.mpr ⟨lw_p52, List.forall_mem_cons.mpr ⟨lw_p53, List.forall_mem_cons.mpr ⟨lw_p54, List.forall_mem_cons.mpr ⟨lw_p55, List.forall_mem_cons.mpr ⟨lw_p56, List.forall_mem_cons.mpr ⟨lw_p57, List.forall_mem_cons.mpr ⟨lw_p58, List.forall_mem_cons.mpr ⟨lw_p59, List.forall_mem_cons.mpr ⟨lw_p60, List.forall_mem_cons.mpr ⟨lw_p61, List.forall_mem_cons.mpr ⟨lw_p62, fun _ h => absurd h List.not_mem_nil⟩⟩⟩⟩⟩⟩⟩⟩⟩⟩⟩⟩⟩⟩⟩
def lw_privs : List (MethodName × Nat) := lw_privs_1 ++ (lw_privs_2 ++ (lw_privs_3 ++ (lw_privs_4)))
def lw_tbl : List Cond := k2_sels lw_privs ++ tables_1
theorem lw_privs_ok : ∀ q ∈ lw_privs, lw_okq q := by
  show ∀ q ∈ lw_privs_1 ++ (lw_privs_2 ++ (lw_privs_3 ++ (lw_privs_4))), lw_okq q
  exact List.forall_mem_append.mpr ⟨lw_r1, List.forall_mem_append.mpr ⟨lw_r2, List.forall_mem_append.mpr ⟨lw_r3, lw_r4⟩⟩⟩
end
section
/-! A calculus over a fixed graph of objects: the world is 358 cells at addresses in a row; a state is what ints they hold. -/
abbrev ga_V : Type := Int ⊕ Nat
abbrev ga_I : Type := Nat → Nat → Int
abbrev ga_M : Type := MethodName × ByteArray × Nat × Option FieldType
abbrev ga_Sh : Type := (Nat × List (Option Nat)) ⊕ (Nat × Nat) ⊕ List Nat
/-- launch, classes, addresses of the cells, classes of the arrays, base of the world, the script: cell, length, ints -/
abbrev ga_G : Type := Launch × va_G × (Nat → Nat) × (Nat → ClassId) × Nat × Nat × Nat × (Nat → Int32)
abbrev ga_l (G : ga_G) : Launch := G.1
abbrev ga_D (G : ga_G) : va_G := G.2.1
abbrev ga_ad (G : ga_G) : Nat → Nat := G.2.2.1
abbrev ga_cy (G : ga_G) : Nat → ClassId := G.2.2.2.1
abbrev ga_ba (G : ga_G) : Nat := G.2.2.2.2.1
abbrev ga_b (G : ga_G) : Nat := G.2.2.2.2.2.1
abbrev ga_L (G : ga_G) : Nat := G.2.2.2.2.2.2.1
abbrev ga_xs (G : ga_G) : Nat → Int32 := G.2.2.2.2.2.2.2
-- the numbers
abbrev ga_rg (z : Int) : Prop := -2147483648 ≤ z ∧ z < 2147483648
theorem ga_bm {z : Int} (h1 : -2147483648 ≤ z) (h2 : z < 2147483648) : z.bmod (2 ^ 32) = z := by
  rw [Int.bmod_eq_of_le (by omega) (by omega)]
theorem ga_oadd (a b : Int) : Int32.ofInt a + Int32.ofInt b = Int32.ofInt (a + b) := (Int32.ofInt_add a b).symm
theorem ga_osub (a b : Int) : Int32.ofInt a - Int32.ofInt b = Int32.ofInt (a - b) := (Int32.ofInt_sub a b).symm
theorem ga_omul (a b : Int) : Int32.ofInt a * Int32.ofInt b = Int32.ofInt (a * b) := (Int32.ofInt_mul a b).symm
theorem ga_oneg (a : Int) : -Int32.ofInt a = Int32.ofInt (-a) := (Int32.ofInt_neg a).symm
theorem ga_toI0 (z : Int) : (Int32.ofInt z).toInt = z.bmod (2 ^ 32) := by
  first | exact Int32.toInt_ofInt z | exact Int32.toInt_ofInt | simp
theorem ga_toI {z : Int} (h : ga_rg z) : (Int32.ofInt z).toInt = z := by
  rw [ga_toI0]
  exact ga_bm h.1 h.2
theorem ga_rgI (x : Int32) : ga_rg x.toInt := by
  exact ⟨Int32.le_toInt x, Int32.toInt_lt x⟩
theorem ga_of_I (x : Int32) : Int32.ofInt x.toInt = x := by
  first | exact Int32.ofInt_toInt x | simp
theorem ga_lt {a b : Int} (ha : ga_rg a) (hb : ga_rg b) : Int32.ofInt a < Int32.ofInt b ↔ a < b := by
  rw [Int32.lt_iff_toInt_lt, ga_toI ha, ga_toI hb]
theorem ga_le {a b : Int} (ha : ga_rg a) (hb : ga_rg b) : Int32.ofInt a ≤ Int32.ofInt b ↔ a ≤ b := by
  rw [Int32.le_iff_toInt_le, ga_toI ha, ga_toI hb]
theorem ga_eq {a b : Int} (ha : ga_rg a) (hb : ga_rg b) : Int32.ofInt a = Int32.ofInt b ↔ a = b := by
  rw [← Int32.toInt_inj, ga_toI ha, ga_toI hb]
theorem ga_nat {z : Int} (h : ga_rg z) : (Int32.ofInt z).toNatClampNeg = z.toNat := by
  show (Int32.ofInt z).toInt.toNat = z.toNat
  rw [ga_toI h]
theorem ga_in {z : Int} {n : Nat} (h0 : 0 ≤ z) (h1 : z < n) (hn : n < 2147483648) : vp_in (Int32.ofInt z) n := by
  have hz : ga_rg z := ⟨by omega, by omega⟩
  rw [vp_in_iff, ga_toI hz]
  exact ⟨h0, h1⟩
theorem ga_tdiv_rg {a b : Int} (ha : ga_rg a) (hb0 : 0 < b) : ga_rg (a.tdiv b) := by
  have h := Int.natAbs_tdiv_le_natAbs a b
  have h3 : ¬ a.tdiv b = 2147483648 := by
    intro h4
    have h5 : a = -2147483648 := by omega
    subst h5
    have h7 : (-2147483648 : Int).tdiv b ≤ 0 := by
      have h8 : (-2147483648 : Int).tdiv b = -((2147483648 : Int).tdiv b) := by rw [← Int.neg_tdiv]
      have h9 : 0 ≤ (2147483648 : Int).tdiv b := Int.tdiv_nonneg (by omega) (by omega)
      omega
    omega
  constructor <;> omega
theorem ga_div {a b : Int} (ha : ga_rg a) (hb : ga_rg b) (hb0 : 0 < b) : Int32.ofInt a / Int32.ofInt b = Int32.ofInt (a.tdiv b) := by
  have h1 := ga_tdiv_rg ha hb0
  apply Int32.toInt_inj.mp
  rw [Int32.toInt_div, ga_toI ha, ga_toI hb, ga_toI h1]
  exact ga_bm h1.1 h1.2
theorem ga_rem {a b : Int} (ha : ga_rg a) (hb : ga_rg b) (hb0 : 0 < b) : Int32.ofInt a - Int32.ofInt a / Int32.ofInt b * Int32.ofInt b = Int32.ofInt (a.tmod b) := by
  rw [ga_div ha hb hb0, ga_omul, ga_osub, Int.tmod_def, Int.mul_comm]

def ga_wr (z : Int) : Int := (Int32.ofInt z).toInt
theorem ga_wr_eq {z : Int} (h : ga_rg z) : ga_wr z = z := ga_toI h
theorem ga_rg_wr (z : Int) : ga_rg (ga_wr z) := ga_rgI _
theorem ga_of_wr (z : Int) : Int32.ofInt (ga_wr z) = Int32.ofInt z := ga_of_I _
end
section
-- the classes: fields in the order of the slots
def R_Blend : String := "GainTables$Blend"
def R_Borders : String := "GainTables$Borders"
def R_History : String := "GainTables$History"
def R_Path : String := "GainTables$Path"
def R_State : String := "GainTables$State"
def R_Table : String := "GainTables$Table"
def R_Text : String := "GainTables$Text"
def R_GT : String := "GainTables"
def R_Mo : String := "GainTablesModel"
def T_Blend : u_T := fun k => match k with
  | 0 => ("GainTables$Blend", "low", "I", false)
  | 1 => ("GainTables$Blend", "high", "I", false)
  | 2 => ("GainTables$Blend", "numerator", "I", false)
  | _ => ("GainTables$Blend", "denominator", "I", false)
def y_Blend : Nat → FieldType := fun k => match k with
  | 0 => .int
  | 1 => .int
  | 2 => .int
  | _ => .int
theorem nm_Blend : ∀ a, a < 4 → ∀ b, b < 4 → a ≠ b → (T_Blend a).2.1 ≠ (T_Blend b).2.1 := by decide +kernel
theorem ty_Blend : ∀ k, k < 4 → parseFieldDescriptor (T_Blend k).2.2.1 = some (y_Blend k) := by decide +kernel
def T_Borders : u_T := fun k => match k with
  | 0 => ("GainTables$Borders", "size", "I", false)
  | 1 => ("GainTables$Borders", "positions", "[I", true)
  | 2 => ("GainTables$Borders", "kinds", "[I", true)
  | _ => ("GainTables$Borders", "reaches", "[I", true)
def y_Borders : Nat → FieldType := fun k => match k with
  | 0 => .int
  | 1 => .array .int
  | 2 => .array .int
  | _ => .array .int
theorem nm_Borders : ∀ a, a < 4 → ∀ b, b < 4 → a ≠ b → (T_Borders a).2.1 ≠ (T_Borders b).2.1 := by decide +kernel
theorem ty_Borders : ∀ k, k < 4 → parseFieldDescriptor (T_Borders k).2.2.1 = some (y_Borders k) := by decide +kernel
def T_History : u_T := fun k => match k with
  | 0 => ("GainTables$History", "size", "I", false)
  | 1 => ("GainTables$History", "first", "I", false)
  | _ => ("GainTables$History", "states", "[LGainTables$State;", true)
def y_History : Nat → FieldType := fun k => match k with
  | 0 => .int
  | 1 => .int
  | _ => .array (.object "GainTables$State")
theorem nm_History : ∀ a, a < 3 → ∀ b, b < 3 → a ≠ b → (T_History a).2.1 ≠ (T_History b).2.1 := by decide +kernel
theorem ty_History : ∀ k, k < 3 → parseFieldDescriptor (T_History k).2.2.1 = some (y_History k) := by decide +kernel
def T_Path : u_T := fun k => match k with
  | 0 => ("GainTables$Path", "size", "I", false)
  | 1 => ("GainTables$Path", "latest", "I", false)
  | _ => ("GainTables$Path", "parts", "[I", true)
def y_Path : Nat → FieldType := fun k => match k with
  | 0 => .int
  | 1 => .int
  | _ => .array .int
theorem nm_Path : ∀ a, a < 3 → ∀ b, b < 3 → a ≠ b → (T_Path a).2.1 ≠ (T_Path b).2.1 := by decide +kernel
theorem ty_Path : ∀ k, k < 3 → parseFieldDescriptor (T_Path k).2.2.1 = some (y_Path k) := by decide +kernel
def T_State : u_T := fun k => match k with
  | 0 => ("GainTables$State", "table", "LGainTables$Table;", true)
  | 1 => ("GainTables$State", "firstSnapshot", "LGainTables$Table;", true)
  | 2 => ("GainTables$State", "secondSnapshot", "LGainTables$Table;", true)
  | 3 => ("GainTables$State", "thirdSnapshot", "LGainTables$Table;", true)
  | 4 => ("GainTables$State", "taken", "[Z", true)
  | 5 => ("GainTables$State", "point", "[I", true)
  | 6 => ("GainTables$State", "zones", "[I", true)
  | 7 => ("GainTables$State", "margin", "I", false)
  | 8 => ("GainTables$State", "path", "LGainTables$Path;", true)
  | 9 => ("GainTables$State", "ignoredMoves", "I", false)
  | 10 => ("GainTables$State", "carriedOutMoves", "I", false)
  | 11 => ("GainTables$State", "steps", "[I", true)
  | 12 => ("GainTables$State", "budgets", "[I", true)
  | 13 => ("GainTables$State", "edits", "[I", true)
  | _ => ("GainTables$State", "accounts", "[I", true)
def y_State : Nat → FieldType := fun k => match k with
  | 0 => .object "GainTables$Table"
  | 1 => .object "GainTables$Table"
  | 2 => .object "GainTables$Table"
  | 3 => .object "GainTables$Table"
  | 4 => .array .boolean
  | 5 => .array .int
  | 6 => .array .int
  | 7 => .int
  | 8 => .object "GainTables$Path"
  | 9 => .int
  | 10 => .int
  | 11 => .array .int
  | 12 => .array .int
  | 13 => .array .int
  | _ => .array .int
theorem nm_State : ∀ a, a < 15 → ∀ b, b < 15 → a ≠ b → (T_State a).2.1 ≠ (T_State b).2.1 := by decide +kernel
theorem ty_State : ∀ k, k < 15 → parseFieldDescriptor (T_State k).2.2.1 = some (y_State k) := by decide +kernel
def T_Table : u_T := fun k => match k with
  | 0 => ("GainTables$Table", "columns", "LGainTables$Borders;", true)
  | 1 => ("GainTables$Table", "rows", "LGainTables$Borders;", true)
  | 2 => ("GainTables$Table", "gains", "[I", true)
  | _ => ("GainTables$Table", "locks", "[I", true)
def y_Table : Nat → FieldType := fun k => match k with
  | 0 => .object "GainTables$Borders"
  | 1 => .object "GainTables$Borders"
  | 2 => .array .int
  | _ => .array .int
theorem nm_Table : ∀ a, a < 4 → ∀ b, b < 4 → a ≠ b → (T_Table a).2.1 ≠ (T_Table b).2.1 := by decide +kernel
theorem ty_Table : ∀ k, k < 4 → parseFieldDescriptor (T_Table k).2.2.1 = some (y_Table k) := by decide +kernel
def T_Text : u_T := fun k => match k with
  | 0 => ("GainTables$Text", "length", "I", false)
  | 1 => ("GainTables$Text", "error", "I", false)
  | 2 => ("GainTables$Text", "next", "I", false)
  | _ => ("GainTables$Text", "characters", "[C", true)
def y_Text : Nat → FieldType := fun k => match k with
  | 0 => .int
  | 1 => .int
  | 2 => .int
  | _ => .array .char
theorem nm_Text : ∀ a, a < 4 → ∀ b, b < 4 → a ≠ b → (T_Text a).2.1 ≠ (T_Text b).2.1 := by decide +kernel
theorem ty_Text : ∀ k, k < 4 → parseFieldDescriptor (T_Text k).2.2.1 = some (y_Text k) := by decide +kernel
def T_GT : u_T := fun k => match k with
  | 0 => ("GainTables", "now", "LGainTables$State;", true)
  | 1 => ("GainTables", "history", "LGainTables$History;", true)
  | 2 => ("GainTables", "text", "LGainTables$Text;", true)
  | 3 => ("GainTables", "draft", "LGainTables$Table;", true)
  | 4 => ("GainTables", "trial", "LGainTables$Borders;", true)
  | 5 => ("GainTables", "across", "LGainTables$Blend;", true)
  | 6 => ("GainTables", "along", "LGainTables$Blend;", true)
  | 7 => ("GainTables", "valuesAhead", "[I", true)
  | _ => ("GainTables", "valuesBehind", "[I", true)
def y_GT : Nat → FieldType := fun k => match k with
  | 0 => .object "GainTables$State"
  | 1 => .object "GainTables$History"
  | 2 => .object "GainTables$Text"
  | 3 => .object "GainTables$Table"
  | 4 => .object "GainTables$Borders"
  | 5 => .object "GainTables$Blend"
  | 6 => .object "GainTables$Blend"
  | 7 => .array .int
  | _ => .array .int
theorem nm_GT : ∀ a, a < 9 → ∀ b, b < 9 → a ≠ b → (T_GT a).2.1 ≠ (T_GT b).2.1 := by decide +kernel
theorem ty_GT : ∀ k, k < 9 → parseFieldDescriptor (T_GT k).2.2.1 = some (y_GT k) := by decide +kernel
def T_Mo : u_T := fun k => match k with
  | 0 => ("GainTablesModel", "thrown", "I", false)
  | 1 => ("GainTablesModel", "s", "[I", true)
  | 2 => ("GainTablesModel", "aside", "[I", true)
  | 3 => ("GainTablesModel", "saved", "[I", true)
  | 4 => ("GainTablesModel", "savedMany", "I", false)
  | 5 => ("GainTablesModel", "text", "[I", true)
  | 6 => ("GainTablesModel", "length", "I", false)
  | 7 => ("GainTablesModel", "low", "[I", true)
  | 8 => ("GainTablesModel", "high", "[I", true)
  | 9 => ("GainTablesModel", "up", "[I", true)
  | 10 => ("GainTablesModel", "down", "[I", true)
  | 11 => ("GainTablesModel", "ahead", "[I", true)
  | 12 => ("GainTablesModel", "next", "I", false)
  | _ => ("GainTablesModel", "number", "I", false)
def y_Mo : Nat → FieldType := fun k => match k with
  | 0 => .int
  | 1 => .array .int
  | 2 => .array .int
  | 3 => .array .int
  | 4 => .int
  | 5 => .array .int
  | 6 => .int
  | 7 => .array .int
  | 8 => .array .int
  | 9 => .array .int
  | 10 => .array .int
  | 11 => .array .int
  | 12 => .int
  | _ => .int
theorem nm_Mo : ∀ a, a < 14 → ∀ b, b < 14 → a ≠ b → (T_Mo a).2.1 ≠ (T_Mo b).2.1 := by decide +kernel
theorem ty_Mo : ∀ k, k < 14 → parseFieldDescriptor (T_Mo k).2.2.1 = some (y_Mo k) := by decide +kernel
abbrev ga_cl : List vw_C := [(R_Blend, T_Blend, 4), (R_Borders, T_Borders, 4), (R_History, T_History, 3), (R_Path, T_Path, 3), (R_State, T_State, 15), (R_Table, T_Table, 4), (R_Text, T_Text, 4), (R_GT, T_GT, 9), (R_Mo, T_Mo, 14)]
/-- the shapes of the cells: objects (class, fields: an int, or the cell that it names), arrays of numbers (kind, length), the one array of references -/
def ga_shl : List ga_Sh := [
  .inl (7, [some 1, some 55, some 327, some 329, some 340, some 344, some 345, some 346, some 347]),
  .inl (4, [some 2, some 13, some 24, some 35, some 46, some 47, some 48, none, some 49, none, none, some 51, some 52, some 53, some 54]),
  .inl (5, [some 3, some 7, some 11, some 12]),
  .inl (1, [none, some 4, some 5, some 6]),
  .inr (.inl (0, 6)),
  .inr (.inl (0, 6)),
  .inr (.inl (0, 6)),
  .inl (1, [none, some 8, some 9, some 10]),
  .inr (.inl (0, 6)),
  .inr (.inl (0, 6)),
  .inr (.inl (0, 6)),
  .inr (.inl (0, 147)),
  .inr (.inl (0, 49)),
  .inl (5, [some 14, some 18, some 22, some 23]),
  .inl (1, [none, some 15, some 16, some 17]),
  .inr (.inl (0, 6)),
  .inr (.inl (0, 6)),
  .inr (.inl (0, 6)),
  .inl (1, [none, some 19, some 20, some 21]),
  .inr (.inl (0, 6)),
  .inr (.inl (0, 6)),
  .inr (.inl (0, 6)),
  .inr (.inl (0, 147)),
  .inr (.inl (0, 49)),
  .inl (5, [some 25, some 29, some 33, some 34]),
  .inl (1, [none, some 26, some 27, some 28]),
  .inr (.inl (0, 6)),
  .inr (.inl (0, 6)),
  .inr (.inl (0, 6)),
  .inl (1, [none, some 30, some 31, some 32]),
  .inr (.inl (0, 6)),
  .inr (.inl (0, 6)),
  .inr (.inl (0, 6)),
  .inr (.inl (0, 147)),
  .inr (.inl (0, 49)),
  .inl (5, [some 36, some 40, some 44, some 45]),
  .inl (1, [none, some 37, some 38, some 39]),
  .inr (.inl (0, 6)),
  .inr (.inl (0, 6)),
  .inr (.inl (0, 6)),
  .inl (1, [none, some 41, some 42, some 43]),
  .inr (.inl (0, 6)),
  .inr (.inl (0, 6)),
  .inr (.inl (0, 6)),
  .inr (.inl (0, 147)),
  .inr (.inl (0, 49)),
  .inr (.inl (1, 3)),
  .inr (.inl (0, 2)),
  .inr (.inl (0, 2)),
  .inl (3, [none, none, some 50]),
  .inr (.inl (0, 160)),
  .inr (.inl (0, 3)),
  .inr (.inl (0, 3)),
  .inr (.inl (0, 3)),
  .inr (.inl (0, 4)),
  .inl (2, [none, none, some 56]),
  .inr (.inr [57, 111, 165, 219, 273]),
  .inl (4, [some 58, some 69, some 80, some 91, some 102, some 103, some 104, none, some 105, none, none, some 107, some 108, some 109, some 110]),
  .inl (5, [some 59, some 63, some 67, some 68]),
  .inl (1, [none, some 60, some 61, some 62]),
  .inr (.inl (0, 6)),
  .inr (.inl (0, 6)),
  .inr (.inl (0, 6)),
  .inl (1, [none, some 64, some 65, some 66]),
  .inr (.inl (0, 6)),
  .inr (.inl (0, 6)),
  .inr (.inl (0, 6)),
  .inr (.inl (0, 147)),
  .inr (.inl (0, 49)),
  .inl (5, [some 70, some 74, some 78, some 79]),
  .inl (1, [none, some 71, some 72, some 73]),
  .inr (.inl (0, 6)),
  .inr (.inl (0, 6)),
  .inr (.inl (0, 6)),
  .inl (1, [none, some 75, some 76, some 77]),
  .inr (.inl (0, 6)),
  .inr (.inl (0, 6)),
  .inr (.inl (0, 6)),
  .inr (.inl (0, 147)),
  .inr (.inl (0, 49)),
  .inl (5, [some 81, some 85, some 89, some 90]),
  .inl (1, [none, some 82, some 83, some 84]),
  .inr (.inl (0, 6)),
  .inr (.inl (0, 6)),
  .inr (.inl (0, 6)),
  .inl (1, [none, some 86, some 87, some 88]),
  .inr (.inl (0, 6)),
  .inr (.inl (0, 6)),
  .inr (.inl (0, 6)),
  .inr (.inl (0, 147)),
  .inr (.inl (0, 49)),
  .inl (5, [some 92, some 96, some 100, some 101]),
  .inl (1, [none, some 93, some 94, some 95]),
  .inr (.inl (0, 6)),
  .inr (.inl (0, 6)),
  .inr (.inl (0, 6)),
  .inl (1, [none, some 97, some 98, some 99]),
  .inr (.inl (0, 6)),
  .inr (.inl (0, 6)),
  .inr (.inl (0, 6)),
  .inr (.inl (0, 147)),
  .inr (.inl (0, 49)),
  .inr (.inl (1, 3)),
  .inr (.inl (0, 2)),
  .inr (.inl (0, 2)),
  .inl (3, [none, none, some 106]),
  .inr (.inl (0, 160)),
  .inr (.inl (0, 3)),
  .inr (.inl (0, 3)),
  .inr (.inl (0, 3)),
  .inr (.inl (0, 4)),
  .inl (4, [some 112, some 123, some 134, some 145, some 156, some 157, some 158, none, some 159, none, none, some 161, some 162, some 163, some 164]),
  .inl (5, [some 113, some 117, some 121, some 122]),
  .inl (1, [none, some 114, some 115, some 116]),
  .inr (.inl (0, 6)),
  .inr (.inl (0, 6)),
  .inr (.inl (0, 6)),
  .inl (1, [none, some 118, some 119, some 120]),
  .inr (.inl (0, 6)),
  .inr (.inl (0, 6)),
  .inr (.inl (0, 6)),
  .inr (.inl (0, 147)),
  .inr (.inl (0, 49)),
  .inl (5, [some 124, some 128, some 132, some 133]),
  .inl (1, [none, some 125, some 126, some 127]),
  .inr (.inl (0, 6)),
  .inr (.inl (0, 6)),
  .inr (.inl (0, 6)),
  .inl (1, [none, some 129, some 130, some 131]),
  .inr (.inl (0, 6)),
  .inr (.inl (0, 6)),
  .inr (.inl (0, 6)),
  .inr (.inl (0, 147)),
  .inr (.inl (0, 49)),
  .inl (5, [some 135, some 139, some 143, some 144]),
  .inl (1, [none, some 136, some 137, some 138]),
  .inr (.inl (0, 6)),
  .inr (.inl (0, 6)),
  .inr (.inl (0, 6)),
  .inl (1, [none, some 140, some 141, some 142]),
  .inr (.inl (0, 6)),
  .inr (.inl (0, 6)),
  .inr (.inl (0, 6)),
  .inr (.inl (0, 147)),
  .inr (.inl (0, 49)),
  .inl (5, [some 146, some 150, some 154, some 155]),
  .inl (1, [none, some 147, some 148, some 149]),
  .inr (.inl (0, 6)),
  .inr (.inl (0, 6)),
  .inr (.inl (0, 6)),
  .inl (1, [none, some 151, some 152, some 153]),
  .inr (.inl (0, 6)),
  .inr (.inl (0, 6)),
  .inr (.inl (0, 6)),
  .inr (.inl (0, 147)),
  .inr (.inl (0, 49)),
  .inr (.inl (1, 3)),
  .inr (.inl (0, 2)),
  .inr (.inl (0, 2)),
  .inl (3, [none, none, some 160]),
  .inr (.inl (0, 160)),
  .inr (.inl (0, 3)),
  .inr (.inl (0, 3)),
  .inr (.inl (0, 3)),
  .inr (.inl (0, 4)),
  .inl (4, [some 166, some 177, some 188, some 199, some 210, some 211, some 212, none, some 213, none, none, some 215, some 216, some 217, some 218]),
  .inl (5, [some 167, some 171, some 175, some 176]),
  .inl (1, [none, some 168, some 169, some 170]),
  .inr (.inl (0, 6)),
  .inr (.inl (0, 6)),
  .inr (.inl (0, 6)),
  .inl (1, [none, some 172, some 173, some 174]),
  .inr (.inl (0, 6)),
  .inr (.inl (0, 6)),
  .inr (.inl (0, 6)),
  .inr (.inl (0, 147)),
  .inr (.inl (0, 49)),
  .inl (5, [some 178, some 182, some 186, some 187]),
  .inl (1, [none, some 179, some 180, some 181]),
  .inr (.inl (0, 6)),
  .inr (.inl (0, 6)),
  .inr (.inl (0, 6)),
  .inl (1, [none, some 183, some 184, some 185]),
  .inr (.inl (0, 6)),
  .inr (.inl (0, 6)),
  .inr (.inl (0, 6)),
  .inr (.inl (0, 147)),
  .inr (.inl (0, 49)),
  .inl (5, [some 189, some 193, some 197, some 198]),
  .inl (1, [none, some 190, some 191, some 192]),
  .inr (.inl (0, 6)),
  .inr (.inl (0, 6)),
  .inr (.inl (0, 6)),
  .inl (1, [none, some 194, some 195, some 196]),
  .inr (.inl (0, 6)),
  .inr (.inl (0, 6)),
  .inr (.inl (0, 6)),
  .inr (.inl (0, 147)),
  .inr (.inl (0, 49)),
  .inl (5, [some 200, some 204, some 208, some 209]),
  .inl (1, [none, some 201, some 202, some 203]),
  .inr (.inl (0, 6)),
  .inr (.inl (0, 6)),
  .inr (.inl (0, 6)),
  .inl (1, [none, some 205, some 206, some 207]),
  .inr (.inl (0, 6)),
  .inr (.inl (0, 6)),
  .inr (.inl (0, 6)),
  .inr (.inl (0, 147)),
  .inr (.inl (0, 49)),
  .inr (.inl (1, 3)),
  .inr (.inl (0, 2)),
  .inr (.inl (0, 2)),
  .inl (3, [none, none, some 214]),
  .inr (.inl (0, 160)),
  .inr (.inl (0, 3)),
  .inr (.inl (0, 3)),
  .inr (.inl (0, 3)),
  .inr (.inl (0, 4)),
  .inl (4, [some 220, some 231, some 242, some 253, some 264, some 265, some 266, none, some 267, none, none, some 269, some 270, some 271, some 272]),
  .inl (5, [some 221, some 225, some 229, some 230]),
  .inl (1, [none, some 222, some 223, some 224]),
  .inr (.inl (0, 6)),
  .inr (.inl (0, 6)),
  .inr (.inl (0, 6)),
  .inl (1, [none, some 226, some 227, some 228]),
  .inr (.inl (0, 6)),
  .inr (.inl (0, 6)),
  .inr (.inl (0, 6)),
  .inr (.inl (0, 147)),
  .inr (.inl (0, 49)),
  .inl (5, [some 232, some 236, some 240, some 241]),
  .inl (1, [none, some 233, some 234, some 235]),
  .inr (.inl (0, 6)),
  .inr (.inl (0, 6)),
  .inr (.inl (0, 6)),
  .inl (1, [none, some 237, some 238, some 239]),
  .inr (.inl (0, 6)),
  .inr (.inl (0, 6)),
  .inr (.inl (0, 6)),
  .inr (.inl (0, 147)),
  .inr (.inl (0, 49)),
  .inl (5, [some 243, some 247, some 251, some 252]),
  .inl (1, [none, some 244, some 245, some 246]),
  .inr (.inl (0, 6)),
  .inr (.inl (0, 6)),
  .inr (.inl (0, 6)),
  .inl (1, [none, some 248, some 249, some 250]),
  .inr (.inl (0, 6)),
  .inr (.inl (0, 6)),
  .inr (.inl (0, 6)),
  .inr (.inl (0, 147)),
  .inr (.inl (0, 49)),
  .inl (5, [some 254, some 258, some 262, some 263]),
  .inl (1, [none, some 255, some 256, some 257]),
  .inr (.inl (0, 6)),
  .inr (.inl (0, 6)),
  .inr (.inl (0, 6)),
  .inl (1, [none, some 259, some 260, some 261]),
  .inr (.inl (0, 6)),
  .inr (.inl (0, 6)),
  .inr (.inl (0, 6)),
  .inr (.inl (0, 147)),
  .inr (.inl (0, 49)),
  .inr (.inl (1, 3)),
  .inr (.inl (0, 2)),
  .inr (.inl (0, 2)),
  .inl (3, [none, none, some 268]),
  .inr (.inl (0, 160)),
  .inr (.inl (0, 3)),
  .inr (.inl (0, 3)),
  .inr (.inl (0, 3)),
  .inr (.inl (0, 4)),
  .inl (4, [some 274, some 285, some 296, some 307, some 318, some 319, some 320, none, some 321, none, none, some 323, some 324, some 325, some 326]),
  .inl (5, [some 275, some 279, some 283, some 284]),
  .inl (1, [none, some 276, some 277, some 278]),
  .inr (.inl (0, 6)),
  .inr (.inl (0, 6)),
  .inr (.inl (0, 6)),
  .inl (1, [none, some 280, some 281, some 282]),
  .inr (.inl (0, 6)),
  .inr (.inl (0, 6)),
  .inr (.inl (0, 6)),
  .inr (.inl (0, 147)),
  .inr (.inl (0, 49)),
  .inl (5, [some 286, some 290, some 294, some 295]),
  .inl (1, [none, some 287, some 288, some 289]),
  .inr (.inl (0, 6)),
  .inr (.inl (0, 6)),
  .inr (.inl (0, 6)),
  .inl (1, [none, some 291, some 292, some 293]),
  .inr (.inl (0, 6)),
  .inr (.inl (0, 6)),
  .inr (.inl (0, 6)),
  .inr (.inl (0, 147)),
  .inr (.inl (0, 49)),
  .inl (5, [some 297, some 301, some 305, some 306]),
  .inl (1, [none, some 298, some 299, some 300]),
  .inr (.inl (0, 6)),
  .inr (.inl (0, 6)),
  .inr (.inl (0, 6)),
  .inl (1, [none, some 302, some 303, some 304]),
  .inr (.inl (0, 6)),
  .inr (.inl (0, 6)),
  .inr (.inl (0, 6)),
  .inr (.inl (0, 147)),
  .inr (.inl (0, 49)),
  .inl (5, [some 308, some 312, some 316, some 317]),
  .inl (1, [none, some 309, some 310, some 311]),
  .inr (.inl (0, 6)),
  .inr (.inl (0, 6)),
  .inr (.inl (0, 6)),
  .inl (1, [none, some 313, some 314, some 315]),
  .inr (.inl (0, 6)),
  .inr (.inl (0, 6)),
  .inr (.inl (0, 6)),
  .inr (.inl (0, 147)),
  .inr (.inl (0, 49)),
  .inr (.inl (1, 3)),
  .inr (.inl (0, 2)),
  .inr (.inl (0, 2)),
  .inl (3, [none, none, some 322]),
  .inr (.inl (0, 160)),
  .inr (.inl (0, 3)),
  .inr (.inl (0, 3)),
  .inr (.inl (0, 3)),
  .inr (.inl (0, 4)),
  .inl (6, [none, none, none, some 328]),
  .inr (.inl (2, 160)),
  .inl (5, [some 330, some 334, some 338, some 339]),
  .inl (1, [none, some 331, some 332, some 333]),
  .inr (.inl (0, 6)),
  .inr (.inl (0, 6)),
  .inr (.inl (0, 6)),
  .inl (1, [none, some 335, some 336, some 337]),
  .inr (.inl (0, 6)),
  .inr (.inl (0, 6)),
  .inr (.inl (0, 6)),
  .inr (.inl (0, 147)),
  .inr (.inl (0, 49)),
  .inl (1, [none, some 341, some 342, some 343]),
  .inr (.inl (0, 6)),
  .inr (.inl (0, 6)),
  .inr (.inl (0, 6)),
  .inl (0, [none, none, none, none]),
  .inl (0, [none, none, none, none]),
  .inr (.inl (0, 3)),
  .inr (.inl (0, 3)),
  .inl (8, [none, some 349, some 350, some 351, none, some 352, none, some 353, some 354, some 355, some 356, some 357, none, none]),
  .inr (.inl (0, 1120)),
  .inr (.inl (0, 1120)),
  .inr (.inl (0, 5600)),
  .inr (.inl (0, 160)),
  .inr (.inl (0, 2)),
  .inr (.inl (0, 2)),
  .inr (.inl (0, 2)),
  .inr (.inl (0, 2)),
  .inr (.inl (0, 3))]
def ga_sh (k : Nat) : ga_Sh := ga_shl.getD k (.inr (.inl (0, 0)))
/-- the words that a callee may take over -/
def ga_T : List Cond := lw_tbl.filter goodWord
theorem ga_mem {w : Cond} (i : Nat) (h : lw_tbl[i]? = some w ∧ goodWord w = true) : w ∈ ga_T := List.mem_filter.mpr ⟨List.mem_of_getElem? h.1, h.2⟩
theorem ga_mems (ws : List Cond) (ps : List Nat) (hp : ws = ps.filterMap (fun i => lw_tbl[i]?) ∧ ws.all goodWord = true) : ∀ w ∈ ws, w ∈ ga_T := by
  intro w hw
  refine List.mem_filter.mpr ⟨?_, List.all_eq_true.mp hp.2 w hw⟩
  rw [hp.1] at hw
  obtain ⟨i, -, hi⟩ := List.mem_filterMap.mp hw
  exact List.mem_of_getElem? hi
theorem in_Blend : ∀ w ∈ u_ws R_Blend T_Blend 4, w ∈ ga_T := ga_mems _ [283, 285, 287, 289] (by decide +kernel)
theorem in_Borders : ∀ w ∈ u_ws R_Borders T_Borders 4, w ∈ ga_T := ga_mems _ [109, 111, 113, 115] (by decide +kernel)
theorem in_History : ∀ w ∈ u_ws R_History T_History 3, w ∈ ga_T := ga_mems _ [232, 234, 236] (by decide +kernel)
theorem in_Path : ∀ w ∈ u_ws R_Path T_Path 3, w ∈ ga_T := ga_mems _ [152, 154, 156] (by decide +kernel)
theorem in_State : ∀ w ∈ u_ws R_State T_State 15, w ∈ ga_T := ga_mems _ [188, 190, 192, 194, 196, 198, 200, 202, 204, 206, 208, 210, 212, 214, 216] (by decide +kernel)
theorem in_Table : ∀ w ∈ u_ws R_Table T_Table 4, w ∈ ga_T := ga_mems _ [133, 135, 137, 139] (by decide +kernel)
theorem in_Text : ∀ w ∈ u_ws R_Text T_Text 4, w ∈ ga_T := ga_mems _ [251, 253, 255, 257] (by decide +kernel)
theorem in_GT : ∀ w ∈ u_ws R_GT T_GT 9, w ∈ ga_T := ga_mems _ [301, 303, 305, 307, 309, 311, 313, 315, 317] (by decide +kernel)
theorem in_Mo : ∀ w ∈ u_ws R_Mo T_Mo 14, w ∈ ga_T := ga_mems _ [841, 843, 845, 847, 849, 851, 853, 855, 857, 859, 861, 863, 865, 867] (by decide +kernel)
-- the methods: name, bytes, locals, what they answer
abbrev mt_GT_init : ga_M := (⟨"GainTables", "<init>", "()V"⟩, prog_1_method_1_code, 1, none)
abbrev mt_State_init : ga_M := (⟨"GainTables$State", "<init>", "()V"⟩, prog_6_method_1_code, 1, none)
abbrev mt_Table_init : ga_M := (⟨"GainTables$Table", "<init>", "()V"⟩, prog_7_method_1_code, 1, none)
abbrev mt_Borders_init : ga_M := (⟨"GainTables$Borders", "<init>", "()V"⟩, prog_3_method_1_code, 1, none)
abbrev mt_Arr_fill : ga_M := (⟨"java/util/Arrays", "fill", "([II)V"⟩, prog_13_method_103_code, 4, none)
abbrev mt_Path_init : ga_M := (⟨"GainTables$Path", "<init>", "()V"⟩, prog_5_method_1_code, 1, none)
abbrev mt_History_init : ga_M := (⟨"GainTables$History", "<init>", "()V"⟩, prog_4_method_1_code, 2, none)
abbrev mt_Text_init : ga_M := (⟨"GainTables$Text", "<init>", "()V"⟩, prog_8_method_1_code, 1, none)
abbrev mt_Blend_init : ga_M := (⟨"GainTables$Blend", "<init>", "()V"⟩, prog_2_method_1_code, 1, none)
abbrev mt_GT_addBorder : ga_M := (⟨"GainTables", "addBorder", "(IIII)I"⟩, prog_1_method_2_code, 8, some .int)
abbrev mt_GT_isAxis : ga_M := (⟨"GainTables", "isAxis", "(I)Z"⟩, prog_1_method_33_code, 1, some .boolean)
abbrev mt_GT_isIn : ga_M := (⟨"GainTables", "isIn", "(III)Z"⟩, prog_1_method_32_code, 3, some .boolean)
abbrev mt_GT_isReach : ga_M := (⟨"GainTables", "isReach", "(II)Z"⟩, prog_1_method_38_code, 2, some .boolean)
abbrev mt_Borders_isInside : ga_M := (⟨"GainTables$Borders", "isInside", "(II)Z"⟩, prog_3_method_9_code, 2, some .boolean)
abbrev mt_Table_bordersOf : ga_M := (⟨"GainTables$Table", "bordersOf", "(I)LGainTables$Borders;"⟩, prog_7_method_4_code, 2, some (.object "GainTables$Borders"))
abbrev mt_Borders_isFree : ga_M := (⟨"GainTables$Borders", "isFree", "(III)Z"⟩, prog_3_method_10_code, 5, some .boolean)
abbrev mt_Borders_isFull : ga_M := (⟨"GainTables$Borders", "isFull", "()Z"⟩, prog_3_method_4_code, 1, some .boolean)
abbrev mt_History_keep : ga_M := (⟨"GainTables$History", "keep", "(LGainTables$State;)V"⟩, prog_4_method_2_code, 3, none)
abbrev mt_State_copyFrom : ga_M := (⟨"GainTables$State", "copyFrom", "(LGainTables$State;)V"⟩, prog_6_method_2_code, 3, none)
abbrev mt_Table_copyFrom : ga_M := (⟨"GainTables$Table", "copyFrom", "(LGainTables$Table;)V"⟩, prog_7_method_3_code, 2, none)
abbrev mt_Borders_copyFrom : ga_M := (⟨"GainTables$Borders", "copyFrom", "(LGainTables$Borders;)V"⟩, prog_3_method_2_code, 2, none)
abbrev mt_Path_copyFrom : ga_M := (⟨"GainTables$Path", "copyFrom", "(LGainTables$Path;)V"⟩, prog_5_method_2_code, 2, none)
abbrev mt_Table_sumOfGains : ga_M := (⟨"GainTables$Table", "sumOfGains", "()I"⟩, prog_7_method_12_code, 5, some .int)
abbrev mt_Table_regionAt : ga_M := (⟨"GainTables$Table", "regionAt", "(II)I"⟩, prog_7_method_6_code, 2, some .int)
abbrev mt_Table_gainAt : ga_M := (⟨"GainTables$Table", "gainAt", "(II)I"⟩, prog_7_method_7_code, 4, some .int)
abbrev mt_Table_splitAt : ga_M := (⟨"GainTables$Table", "splitAt", "(IIII)I"⟩, prog_7_method_14_code, 8, some .int)
abbrev mt_Borders_insert : ga_M := (⟨"GainTables$Borders", "insert", "(III)I"⟩, prog_3_method_18_code, 6, some .int)
abbrev mt_Borders_stripOf : ga_M := (⟨"GainTables$Borders", "stripOf", "(I)I"⟩, prog_3_method_11_code, 4, some .int)
abbrev mt_Borders_copyBorder : ga_M := (⟨"GainTables$Borders", "copyBorder", "(II)V"⟩, prog_3_method_20_code, 3, none)
abbrev mt_Table_copyStrip : ga_M := (⟨"GainTables$Table", "copyStrip", "(III)V"⟩, prog_7_method_16_code, 8, none)
abbrev mt_Table_putGain : ga_M := (⟨"GainTables$Table", "putGain", "(III)V"⟩, prog_7_method_8_code, 5, none)
abbrev mt_Table_lockAt : ga_M := (⟨"GainTables$Table", "lockAt", "(I)I"⟩, prog_7_method_9_code, 2, some .int)
abbrev mt_Table_putLock : ga_M := (⟨"GainTables$Table", "putLock", "(II)V"⟩, prog_7_method_10_code, 3, none)
abbrev mt_State_settleTable : ga_M := (⟨"GainTables$State", "settleTable", "(I)V"⟩, prog_6_method_7_code, 2, none)
abbrev mt_State_findZones : ga_M := (⟨"GainTables$State", "findZones", "()V"⟩, prog_6_method_6_code, 1, none)
abbrev mt_Borders_zoneOf : ga_M := (⟨"GainTables$Borders", "zoneOf", "(I)I"⟩, prog_3_method_13_code, 4, some .int)
abbrev mt_GT_removeBorder : ga_M := (⟨"GainTables", "removeBorder", "(II)I"⟩, prog_1_method_3_code, 4, some .int)
abbrev mt_GT_isBorder : ga_M := (⟨"GainTables", "isBorder", "(II)Z"⟩, prog_1_method_40_code, 3, some .boolean)
abbrev mt_Borders_has : ga_M := (⟨"GainTables$Borders", "has", "(I)Z"⟩, prog_3_method_3_code, 2, some .boolean)
abbrev mt_Table_mergeAt : ga_M := (⟨"GainTables$Table", "mergeAt", "(II)V"⟩, prog_7_method_15_code, 5, none)
abbrev mt_Borders_delete : ga_M := (⟨"GainTables$Borders", "delete", "(I)V"⟩, prog_3_method_19_code, 3, none)
abbrev mt_GT_setReach : ga_M := (⟨"GainTables", "setReach", "(III)I"⟩, prog_1_method_4_code, 7, some .int)
abbrev mt_Borders_positionOf : ga_M := (⟨"GainTables$Borders", "positionOf", "(I)I"⟩, prog_3_method_5_code, 2, some .int)
abbrev mt_Borders_kindOf : ga_M := (⟨"GainTables$Borders", "kindOf", "(I)I"⟩, prog_3_method_6_code, 2, some .int)
abbrev mt_Borders_reachOf : ga_M := (⟨"GainTables$Borders", "reachOf", "(I)I"⟩, prog_3_method_7_code, 2, some .int)
abbrev mt_Borders_putReach : ga_M := (⟨"GainTables$Borders", "putReach", "(II)V"⟩, prog_3_method_8_code, 3, none)
abbrev mt_GT_setOperator : ga_M := (⟨"GainTables", "setOperator", "(III)I"⟩, prog_1_method_5_code, 6, some .int)
abbrev mt_GT_isOperator : ga_M := (⟨"GainTables", "isOperator", "(I)Z"⟩, prog_1_method_36_code, 1, some .boolean)
abbrev mt_GT_edit : ga_M := (⟨"GainTables", "edit", "(IIIII)I"⟩, prog_1_method_6_code, 8, some .int)
abbrev mt_GT_isEdit : ga_M := (⟨"GainTables", "isEdit", "(IIIII)Z"⟩, prog_1_method_42_code, 6, some .boolean)
abbrev mt_GT_isRegion : ga_M := (⟨"GainTables", "isRegion", "(II)Z"⟩, prog_1_method_41_code, 3, some .boolean)
abbrev mt_GT_isGain : ga_M := (⟨"GainTables", "isGain", "(I)Z"⟩, prog_1_method_35_code, 1, some .boolean)
abbrev mt_State_reasonAgainst : ga_M := (⟨"GainTables$State", "reasonAgainst", "(IIII)I"⟩, prog_6_method_12_code, 7, some .int)
abbrev mt_Math_abs : ga_M := (⟨"java/lang/Math", "abs", "(I)I"⟩, prog_11_method_59_code, 1, some .int)
abbrev mt_State_carryOutEdit : ga_M := (⟨"GainTables$State", "carryOutEdit", "(IIII)V"⟩, prog_6_method_13_code, 6, none)
abbrev mt_GT_scale : ga_M := (⟨"GainTables", "scale", "(III)I"⟩, prog_1_method_7_code, 9, some .int)
abbrev mt_Math_min : ga_M := (⟨"java/lang/Math", "min", "(II)I"⟩, prog_11_method_69_code, 2, some .int)
abbrev mt_GT_lock : ga_M := (⟨"GainTables", "lock", "(IIII)I"⟩, prog_1_method_8_code, 7, some .int)
abbrev mt_Table_locksOf : ga_M := (⟨"GainTables$Table", "locksOf", "(I)I"⟩, prog_7_method_11_code, 5, some .int)
abbrev mt_GT_setMargin : ga_M := (⟨"GainTables", "setMargin", "(I)I"⟩, prog_1_method_9_code, 3, some .int)
abbrev mt_GT_move : ga_M := (⟨"GainTables", "move", "(II)I"⟩, prog_1_method_10_code, 3, some .int)
abbrev mt_GT_isCoordinate : ga_M := (⟨"GainTables", "isCoordinate", "(I)Z"⟩, prog_1_method_34_code, 1, some .boolean)
abbrev mt_GT_carryOutMove : ga_M := (⟨"GainTables", "carryOutMove", "(II)I"⟩, prog_1_method_44_code, 4, some .int)
abbrev mt_State_ignores : ga_M := (⟨"GainTables$State", "ignores", "(II)Z"⟩, prog_6_method_9_code, 3, some .boolean)
abbrev mt_GT_blendAtPoint : ga_M := (⟨"GainTables", "blendAtPoint", "()V"⟩, prog_1_method_45_code, 1, none)
abbrev mt_Blend_findIn : ga_M := (⟨"GainTables$Blend", "findIn", "(LGainTables$Borders;II)V"⟩, prog_2_method_2_code, 7, none)
abbrev mt_Borders_heldIn : ga_M := (⟨"GainTables$Borders", "heldIn", "(II)I"⟩, prog_3_method_15_code, 6, some .int)
abbrev mt_Math_max : ga_M := (⟨"java/lang/Math", "max", "(II)I"⟩, prog_11_method_65_code, 2, some .int)
abbrev mt_Borders_blendingAt : ga_M := (⟨"GainTables$Borders", "blendingAt", "(I)I"⟩, prog_3_method_16_code, 3, some .int)
abbrev mt_GT_noteValues : ga_M := (⟨"GainTables", "noteValues", "([I)V"⟩, prog_1_method_47_code, 3, none)
abbrev mt_GT_blendedValue : ga_M := (⟨"GainTables", "blendedValue", "(I)I"⟩, prog_1_method_46_code, 3, some .int)
abbrev mt_Table_numerator : ga_M := (⟨"GainTables$Table", "numerator", "(LGainTables$Blend;LGainTables$Blend;I)I"⟩, prog_7_method_13_code, 6, some .int)
abbrev mt_State_putPoint : ga_M := (⟨"GainTables$State", "putPoint", "(II)V"⟩, prog_6_method_10_code, 3, none)
abbrev mt_Borders_zoneAfter : ga_M := (⟨"GainTables$Borders", "zoneAfter", "(II)I"⟩, prog_3_method_14_code, 6, some .int)
abbrev mt_GT_greatestDifference : ga_M := (⟨"GainTables", "greatestDifference", "()I"⟩, prog_1_method_48_code, 3, some .int)
abbrev mt_State_noteEntry : ga_M := (⟨"GainTables$State", "noteEntry", "([II)V"⟩, prog_6_method_11_code, 4, none)
abbrev mt_Path_startEntry : ga_M := (⟨"GainTables$Path", "startEntry", "()V"⟩, prog_5_method_3_code, 1, none)
abbrev mt_Path_putPart : ga_M := (⟨"GainTables$Path", "putPart", "(II)V"⟩, prog_5_method_4_code, 4, none)
abbrev mt_GT_sweep : ga_M := (⟨"GainTables", "sweep", "(III)I"⟩, prog_1_method_11_code, 8, some .int)
abbrev mt_GT_placeTowards : ga_M := (⟨"GainTables", "placeTowards", "(III)I"⟩, prog_1_method_43_code, 3, some .int)
abbrev mt_GT_take : ga_M := (⟨"GainTables", "take", "(I)I"⟩, prog_1_method_12_code, 2, some .int)
abbrev mt_GT_isPlace : ga_M := (⟨"GainTables", "isPlace", "(I)Z"⟩, prog_1_method_37_code, 1, some .boolean)
abbrev mt_State_snapshotAt : ga_M := (⟨"GainTables$State", "snapshotAt", "(I)LGainTables$Table;"⟩, prog_6_method_3_code, 2, some (.object "GainTables$Table"))
abbrev mt_Table_regions : ga_M := (⟨"GainTables$Table", "regions", "()I"⟩, prog_7_method_5_code, 1, some .int)
abbrev mt_GT_restore : ga_M := (⟨"GainTables", "restore", "(I)I"⟩, prog_1_method_13_code, 2, some .int)
abbrev mt_State_replaceTable : ga_M := (⟨"GainTables$State", "replaceTable", "(LGainTables$Table;)V"⟩, prog_6_method_8_code, 3, none)
abbrev mt_GT_undo : ga_M := (⟨"GainTables", "undo", "()I"⟩, prog_1_method_14_code, 1, some .int)
abbrev mt_History_bringBack : ga_M := (⟨"GainTables$History", "bringBack", "(LGainTables$State;)V"⟩, prog_4_method_3_code, 3, none)
abbrev mt_GT_append : ga_M := (⟨"GainTables", "append", "(I)I"⟩, prog_1_method_15_code, 2, some .int)
abbrev mt_Text_put : ga_M := (⟨"GainTables$Text", "put", "(C)V"⟩, prog_8_method_2_code, 2, none)
abbrev mt_GT_clearText : ga_M := (⟨"GainTables", "clearText", "()I"⟩, prog_1_method_16_code, 2, some .int)
abbrev mt_GT_load : ga_M := (⟨"GainTables", "load", "()I"⟩, prog_1_method_17_code, 2, some .int)
abbrev mt_Text_readInto : ga_M := (⟨"GainTables$Text", "readInto", "(LGainTables$Table;)I"⟩, prog_8_method_3_code, 3, some .int)
abbrev mt_Table_clear : ga_M := (⟨"GainTables$Table", "clear", "()V"⟩, prog_7_method_2_code, 1, none)
abbrev mt_Text_peek : ga_M := (⟨"GainTables$Text", "peek", "()I"⟩, prog_8_method_9_code, 1, some .int)
abbrev mt_Text_characterAt : ga_M := (⟨"GainTables$Text", "characterAt", "(I)I"⟩, prog_8_method_10_code, 2, some .int)
abbrev mt_Text_readItem : ga_M := (⟨"GainTables$Text", "readItem", "(LGainTables$Table;)V"⟩, prog_8_method_4_code, 3, none)
abbrev mt_Text_readBorder : ga_M := (⟨"GainTables$Text", "readBorder", "(LGainTables$Table;I)V"⟩, prog_8_method_5_code, 8, none)
abbrev mt_Text_readNumber : ga_M := (⟨"GainTables$Text", "readNumber", "(II)I"⟩, prog_8_method_7_code, 7, some .int)
abbrev mt_Text_isDigit : ga_M := (⟨"GainTables$Text", "isDigit", "(I)Z"⟩, prog_8_method_11_code, 1, some .boolean)
abbrev mt_Text_readEndOfItem : ga_M := (⟨"GainTables$Text", "readEndOfItem", "()V"⟩, prog_8_method_8_code, 1, none)
abbrev mt_Text_readGain : ga_M := (⟨"GainTables$Text", "readGain", "(LGainTables$Table;)V"⟩, prog_8_method_6_code, 6, none)
abbrev mt_GT_count : ga_M := (⟨"GainTables", "count", "(I)I"⟩, prog_1_method_18_code, 2, some .int)
abbrev mt_State_placesTaken : ga_M := (⟨"GainTables$State", "placesTaken", "()I"⟩, prog_6_method_4_code, 3, some .int)
abbrev mt_GT_axis : ga_M := (⟨"GainTables", "axis", "(II)I"⟩, prog_1_method_19_code, 4, some .int)
abbrev mt_Borders_zones : ga_M := (⟨"GainTables$Borders", "zones", "()I"⟩, prog_3_method_12_code, 1, some .int)
abbrev mt_GT_border : ga_M := (⟨"GainTables", "border", "(III)I"⟩, prog_1_method_20_code, 5, some .int)
abbrev mt_GT_region : ga_M := (⟨"GainTables", "region", "(III)I"⟩, prog_1_method_21_code, 5, some .int)
abbrev mt_GT_operator : ga_M := (⟨"GainTables", "operator", "(II)I"⟩, prog_1_method_22_code, 3, some .int)
abbrev mt_GT_account : ga_M := (⟨"GainTables", "account", "(I)I"⟩, prog_1_method_23_code, 2, some .int)
abbrev mt_State_sumOfAccounts : ga_M := (⟨"GainTables$State", "sumOfAccounts", "()I"⟩, prog_6_method_5_code, 3, some .int)
abbrev mt_GT_gain : ga_M := (⟨"GainTables", "gain", "(II)I"⟩, prog_1_method_24_code, 3, some .int)
abbrev mt_GT_trail : ga_M := (⟨"GainTables", "trail", "(II)I"⟩, prog_1_method_25_code, 3, some .int)
abbrev mt_Path_partOf : ga_M := (⟨"GainTables$Path", "partOf", "(II)I"⟩, prog_5_method_5_code, 4, some .int)
abbrev mt_Math_floorMod : ga_M := (⟨"java/lang/Math", "floorMod", "(II)I"⟩, prog_11_method_50_code, 3, some .int)
abbrev mt_GT_refusal : ga_M := (⟨"GainTables", "refusal", "(IIIII)I"⟩, prog_1_method_26_code, 6, some .int)
abbrev mt_GT_effect : ga_M := (⟨"GainTables", "effect", "(II)I"⟩, prog_1_method_27_code, 5, some .int)
abbrev mt_GT_valueAt : ga_M := (⟨"GainTables", "valueAt", "(III)I"⟩, prog_1_method_28_code, 4, some .int)
abbrev mt_Blend_findByPosition : ga_M := (⟨"GainTables$Blend", "findByPosition", "(LGainTables$Borders;I)V"⟩, prog_2_method_3_code, 3, none)
abbrev mt_GT_chatter : ga_M := (⟨"GainTables", "chatter", "(IIII)I"⟩, prog_1_method_29_code, 6, some .int)
abbrev mt_GT_isSwing : ga_M := (⟨"GainTables", "isSwing", "(II)Z"⟩, prog_1_method_39_code, 2, some .boolean)
abbrev mt_Borders_zoneChanges : ga_M := (⟨"GainTables$Borders", "zoneChanges", "(IIII)I"⟩, prog_3_method_17_code, 10, some .int)
abbrev mt_GT_calmReach : ga_M := (⟨"GainTables", "calmReach", "(III)I"⟩, prog_1_method_30_code, 8, some .int)
abbrev mt_GT_steepest : ga_M := (⟨"GainTables", "steepest", "(III)I"⟩, prog_1_method_31_code, 11, some .int)
abbrev mt_Mo_init : ga_M := (⟨"GainTablesModel", "<init>", "()V"⟩, prog_10_method_1_code, 2, none)
abbrev mt_Mo_clearRegions : ga_M := (⟨"GainTablesModel", "clearRegions", "()V"⟩, prog_10_method_2_code, 3, none)
abbrev mt_Mo_addBorder : ga_M := (⟨"GainTablesModel", "addBorder", "(IIII)I"⟩, prog_10_method_36_code, 7, some .int)
abbrev mt_Mo_isAxis : ga_M := (⟨"GainTablesModel", "isAxis", "(I)Z"⟩, prog_10_method_10_code, 1, some .boolean)
abbrev mt_Mo_in : ga_M := (⟨"GainTablesModel", "in", "(III)Z"⟩, prog_10_method_4_code, 3, some .boolean)
abbrev mt_Mo_isReach : ga_M := (⟨"GainTablesModel", "isReach", "(II)Z"⟩, prog_10_method_29_code, 2, some .boolean)
abbrev mt_Mo_isInside : ga_M := (⟨"GainTablesModel", "isInside", "(II)Z"⟩, prog_10_method_30_code, 2, some .boolean)
abbrev mt_Mo_isOccupied : ga_M := (⟨"GainTablesModel", "isOccupied", "(IIII)Z"⟩, prog_10_method_31_code, 7, some .boolean)
abbrev mt_Mo_borders : ga_M := (⟨"GainTablesModel", "borders", "(I)I"⟩, prog_10_method_11_code, 2, some .int)
abbrev mt_Mo_ofBorder : ga_M := (⟨"GainTablesModel", "ofBorder", "(III)I"⟩, prog_10_method_12_code, 4, some .int)
abbrev mt_Mo_apart : ga_M := (⟨"GainTablesModel", "apart", "(II)I"⟩, prog_10_method_5_code, 2, some .int)
abbrev mt_Mo_act : ga_M := (⟨"GainTablesModel", "act", "()V"⟩, prog_10_method_6_code, 2, none)
abbrev mt_Mo_allGains : ga_M := (⟨"GainTablesModel", "allGains", "()I"⟩, prog_10_method_18_code, 4, some .int)
abbrev mt_Mo_at : ga_M := (⟨"GainTablesModel", "at", "(II)I"⟩, prog_10_method_15_code, 2, some .int)
abbrev mt_Mo_insert : ga_M := (⟨"GainTablesModel", "insert", "(IIII)I"⟩, prog_10_method_34_code, 8, some .int)
abbrev mt_Mo_setBorder : ga_M := (⟨"GainTablesModel", "setBorder", "(IIIII)V"⟩, prog_10_method_13_code, 7, none)
abbrev mt_Mo_copyStrip : ga_M := (⟨"GainTablesModel", "copyStrip", "(III)V"⟩, prog_10_method_33_code, 5, none)
abbrev mt_Mo_copyRegion : ga_M := (⟨"GainTablesModel", "copyRegion", "(IIII)V"⟩, prog_10_method_32_code, 6, none)
abbrev mt_Mo_settle : ga_M := (⟨"GainTablesModel", "settle", "(I)V"⟩, prog_10_method_35_code, 2, none)
abbrev mt_Mo_findZones : ga_M := (⟨"GainTablesModel", "findZones", "()V"⟩, prog_10_method_22_code, 1, none)
abbrev mt_Mo_zoneOf : ga_M := (⟨"GainTablesModel", "zoneOf", "(II)I"⟩, prog_10_method_21_code, 5, some .int)
abbrev mt_Mo_removeBorder : ga_M := (⟨"GainTablesModel", "removeBorder", "(II)I"⟩, prog_10_method_37_code, 6, some .int)
abbrev mt_Mo_isBorder : ga_M := (⟨"GainTablesModel", "isBorder", "(II)Z"⟩, prog_10_method_14_code, 3, some .boolean)
abbrev mt_Mo_setReach : ga_M := (⟨"GainTablesModel", "setReach", "(III)I"⟩, prog_10_method_38_code, 5, some .int)
abbrev mt_Mo_setOperator : ga_M := (⟨"GainTablesModel", "setOperator", "(III)I"⟩, prog_10_method_40_code, 6, some .int)
abbrev mt_Mo_isOperator : ga_M := (⟨"GainTablesModel", "isOperator", "(I)Z"⟩, prog_10_method_39_code, 1, some .boolean)
abbrev mt_Mo_edit : ga_M := (⟨"GainTablesModel", "edit", "(IIIII)I"⟩, prog_10_method_44_code, 7, some .int)
abbrev mt_Mo_isEdit : ga_M := (⟨"GainTablesModel", "isEdit", "(IIIII)Z"⟩, prog_10_method_43_code, 6, some .boolean)
abbrev mt_Mo_isRegion : ga_M := (⟨"GainTablesModel", "isRegion", "(II)Z"⟩, prog_10_method_16_code, 3, some .boolean)
abbrev mt_Mo_refusalOf : ga_M := (⟨"GainTablesModel", "refusalOf", "(IIIII)I"⟩, prog_10_method_41_code, 8, some .int)
abbrev mt_Mo_change : ga_M := (⟨"GainTablesModel", "change", "(IIIII)V"⟩, prog_10_method_42_code, 7, none)
abbrev mt_Mo_scale : ga_M := (⟨"GainTablesModel", "scale", "(III)I"⟩, prog_10_method_45_code, 8, some .int)
abbrev mt_Mo_lock : ga_M := (⟨"GainTablesModel", "lock", "(IIII)I"⟩, prog_10_method_47_code, 5, some .int)
abbrev mt_Mo_locksOf : ga_M := (⟨"GainTablesModel", "locksOf", "(I)I"⟩, prog_10_method_46_code, 5, some .int)
abbrev mt_Mo_setMargin : ga_M := (⟨"GainTablesModel", "setMargin", "(I)I"⟩, prog_10_method_48_code, 3, some .int)
abbrev mt_Mo_move : ga_M := (⟨"GainTablesModel", "move", "(II)I"⟩, prog_10_method_56_code, 3, some .int)
abbrev mt_Mo_isCoordinate : ga_M := (⟨"GainTablesModel", "isCoordinate", "(I)Z"⟩, prog_10_method_55_code, 1, some .boolean)
abbrev mt_Mo_moves : ga_M := (⟨"GainTablesModel", "moves", "(II)I"⟩, prog_10_method_54_code, 5, some .int)
abbrev mt_Mo_isIgnored : ga_M := (⟨"GainTablesModel", "isIgnored", "(II)Z"⟩, prog_10_method_49_code, 3, some .boolean)
abbrev mt_Mo_noteValues : ga_M := (⟨"GainTablesModel", "noteValues", "()V"⟩, prog_10_method_51_code, 2, none)
abbrev mt_Mo_locatePoint : ga_M := (⟨"GainTablesModel", "locatePoint", "()V"⟩, prog_10_method_25_code, 1, none)
abbrev mt_Mo_locate : ga_M := (⟨"GainTablesModel", "locate", "(III)V"⟩, prog_10_method_24_code, 10, none)
abbrev mt_Mo_sticky : ga_M := (⟨"GainTablesModel", "sticky", "(II)I"⟩, prog_10_method_19_code, 5, some .int)
abbrev mt_Mo_value : ga_M := (⟨"GainTablesModel", "value", "(I)I"⟩, prog_10_method_28_code, 2, some .int)
abbrev mt_Mo_numerator : ga_M := (⟨"GainTablesModel", "numerator", "(I)I"⟩, prog_10_method_27_code, 5, some .int)
abbrev mt_Mo_denominator : ga_M := (⟨"GainTablesModel", "denominator", "()I"⟩, prog_10_method_26_code, 1, some .int)
abbrev mt_Mo_goTo : ga_M := (⟨"GainTablesModel", "goTo", "(II)V"⟩, prog_10_method_53_code, 3, none)
abbrev mt_Mo_zoneBehind : ga_M := (⟨"GainTablesModel", "zoneBehind", "(III)I"⟩, prog_10_method_23_code, 6, some .int)
abbrev mt_Mo_jump : ga_M := (⟨"GainTablesModel", "jump", "()I"⟩, prog_10_method_52_code, 4, some .int)
abbrev mt_Mo_newEntry : ga_M := (⟨"GainTablesModel", "newEntry", "()I"⟩, prog_10_method_50_code, 2, some .int)
abbrev mt_Mo_sweep : ga_M := (⟨"GainTablesModel", "sweep", "(III)I"⟩, prog_10_method_57_code, 9, some .int)
abbrev mt_Mo_take : ga_M := (⟨"GainTablesModel", "take", "(I)I"⟩, prog_10_method_59_code, 4, some .int)
abbrev mt_Mo_isPlace : ga_M := (⟨"GainTablesModel", "isPlace", "(I)Z"⟩, prog_10_method_58_code, 1, some .boolean)
abbrev mt_Mo_regions : ga_M := (⟨"GainTablesModel", "regions", "()I"⟩, prog_10_method_17_code, 1, some .int)
abbrev mt_Mo_restore : ga_M := (⟨"GainTablesModel", "restore", "(I)I"⟩, prog_10_method_60_code, 5, some .int)
abbrev mt_Mo_undo : ga_M := (⟨"GainTablesModel", "undo", "()I"⟩, prog_10_method_61_code, 2, some .int)
abbrev mt_Mo_append : ga_M := (⟨"GainTablesModel", "append", "(I)I"⟩, prog_10_method_62_code, 2, some .int)
abbrev mt_Mo_clearText : ga_M := (⟨"GainTablesModel", "clearText", "()I"⟩, prog_10_method_63_code, 2, some .int)
abbrev mt_Mo_load : ga_M := (⟨"GainTablesModel", "load", "()I"⟩, prog_10_method_70_code, 4, some .int)
abbrev mt_Mo_hold : ga_M := (⟨"GainTablesModel", "hold", "()V"⟩, prog_10_method_7_code, 2, none)
abbrev mt_Mo_here : ga_M := (⟨"GainTablesModel", "here", "()I"⟩, prog_10_method_64_code, 1, some .int)
abbrev mt_Mo_readsItem : ga_M := (⟨"GainTablesModel", "readsItem", "()Z"⟩, prog_10_method_69_code, 3, some .boolean)
abbrev mt_Mo_readsGain : ga_M := (⟨"GainTablesModel", "readsGain", "()Z"⟩, prog_10_method_68_code, 5, some .boolean)
abbrev mt_Mo_reads : ga_M := (⟨"GainTablesModel", "reads", "(II)Z"⟩, prog_10_method_65_code, 7, some .boolean)
abbrev mt_Mo_takes : ga_M := (⟨"GainTablesModel", "takes", "(I)Z"⟩, prog_10_method_66_code, 3, some .boolean)
abbrev mt_Mo_readsBorder : ga_M := (⟨"GainTablesModel", "readsBorder", "(II)Z"⟩, prog_10_method_67_code, 6, some .boolean)
abbrev mt_Mo_release : ga_M := (⟨"GainTablesModel", "release", "()V"⟩, prog_10_method_8_code, 2, none)
abbrev mt_Mo_exchange : ga_M := (⟨"GainTablesModel", "exchange", "()V"⟩, prog_10_method_9_code, 3, none)
abbrev mt_Mo_count : ga_M := (⟨"GainTablesModel", "count", "(I)I"⟩, prog_10_method_72_code, 2, some .int)
abbrev mt_Mo_snapshots : ga_M := (⟨"GainTablesModel", "snapshots", "()I"⟩, prog_10_method_71_code, 1, some .int)
abbrev mt_Mo_axis : ga_M := (⟨"GainTablesModel", "axis", "(II)I"⟩, prog_10_method_73_code, 3, some .int)
abbrev mt_Mo_stickyMany : ga_M := (⟨"GainTablesModel", "stickyMany", "(I)I"⟩, prog_10_method_20_code, 4, some .int)
abbrev mt_Mo_border : ga_M := (⟨"GainTablesModel", "border", "(III)I"⟩, prog_10_method_74_code, 4, some .int)
abbrev mt_Mo_region : ga_M := (⟨"GainTablesModel", "region", "(III)I"⟩, prog_10_method_75_code, 5, some .int)
abbrev mt_Mo_operator : ga_M := (⟨"GainTablesModel", "operator", "(II)I"⟩, prog_10_method_76_code, 3, some .int)
abbrev mt_Mo_account : ga_M := (⟨"GainTablesModel", "account", "(I)I"⟩, prog_10_method_77_code, 2, some .int)
abbrev mt_Mo_gain : ga_M := (⟨"GainTablesModel", "gain", "(II)I"⟩, prog_10_method_78_code, 3, some .int)
abbrev mt_Mo_trail : ga_M := (⟨"GainTablesModel", "trail", "(II)I"⟩, prog_10_method_79_code, 3, some .int)
abbrev mt_Mo_refusal : ga_M := (⟨"GainTablesModel", "refusal", "(IIIII)I"⟩, prog_10_method_80_code, 6, some .int)
abbrev mt_Mo_effect : ga_M := (⟨"GainTablesModel", "effect", "(II)I"⟩, prog_10_method_81_code, 6, some .int)
abbrev mt_Mo_valueAt : ga_M := (⟨"GainTablesModel", "valueAt", "(III)I"⟩, prog_10_method_83_code, 4, some .int)
abbrev mt_Mo_valueThere : ga_M := (⟨"GainTablesModel", "valueThere", "(III)I"⟩, prog_10_method_82_code, 4, some .int)
abbrev mt_Mo_chatter : ga_M := (⟨"GainTablesModel", "chatter", "(IIII)I"⟩, prog_10_method_85_code, 5, some .int)
abbrev mt_Mo_chatters : ga_M := (⟨"GainTablesModel", "chatters", "(IIIII)I"⟩, prog_10_method_84_code, 10, some .int)
abbrev mt_Mo_calmReach : ga_M := (⟨"GainTablesModel", "calmReach", "(III)I"⟩, prog_10_method_86_code, 8, some .int)
abbrev mt_Mo_steepest : ga_M := (⟨"GainTablesModel", "steepest", "(III)I"⟩, prog_10_method_87_code, 9, some .int)
end
section
/-! the calculus: worlds, contexts, the judgement ga_W and its rows -/
def ga_cz (G : ga_G) : ga_V → Value
  | .inl z => .int (Int32.ofInt z)
  | .inr k => .ref (ga_ad G k)
def ga_f1 (G : ga_G) (I : ga_I) (k j : Nat) : Option Nat → Value
  | none => .int (Int32.ofInt (I k j))
  | some r => .ref (ga_ad G r)
def ga_fv (G : ga_G) (I : ga_I) (k : Nat) (fs : List (Option Nat)) : List Value := fs.mapIdx (fun j o => ga_f1 G I k j o)
def ga_ce (G : ga_G) (I : ga_I) (k : Nat) : ga_Sh → va_E
  | .inl (ci, fs) => .inr (ci, ga_fv G I k fs)
  | .inr (.inl (t, n)) => .inl (ga_cy G t, (n, .inl (fun j => Int32.ofInt (I k j))))
  | .inr (.inr ts) => .inl (ga_cy G 3, (ts.length, .inr (.inr (.inr (.inr (fun j => some (ga_ad G (ts.getD j 0))))))))
def ga_ws (G : ga_G) (I : ga_I) : va_W := (List.range 358).map (fun k => (ga_ad G k, ga_ce G I k (ga_sh k)))
theorem ga_ws_at (G : ga_G) (I : ga_I) {k : Nat} (hk : k < 358) : (ga_ws G I)[k]? = some (ga_ad G k, ga_ce G I k (ga_sh k)) := by
  unfold ga_ws
  rw [List.getElem?_map, List.getElem?_range hk]
  rfl
theorem ga_ws_ge (G : ga_G) (I : ga_I) {k : Nat} (hk : ¬ k < 358) : (ga_ws G I)[k]? = none := by
  unfold ga_ws
  rw [List.getElem?_map, List.getElem?_eq_none (by simpa using hk)]
  rfl
theorem ga_ws_set {G : ga_G} {I I' : ga_I} {k : Nat} {c : va_E} (hk : k < 358) (hc : ga_ce G I' k (ga_sh k) = c) (ho : ∀ q, q ≠ k → ga_ce G I' q (ga_sh q) = ga_ce G I q (ga_sh q)) : (ga_ws G I).set k (ga_ad G k, c) = ga_ws G I' := by
  apply List.ext_getElem?
  intro q
  by_cases hq : q < 358
  · rw [ga_ws_at G I' hq]
    by_cases e : k = q
    · subst e
      rw [List.getElem?_set_self (by simp [ga_ws]; omega), hc]
    · rw [List.getElem?_set_ne e, ga_ws_at G I hq, ho q (fun h => e h.symm)]
  · rw [ga_ws_ge G I' hq]
    rw [List.getElem?_eq_none (by simp [ga_ws]; omega)]
abbrev ga_ok (G : ga_G) : Prop := (∀ k, k < 358 → ga_ad G k = ga_ba G + k) ∧ ga_b G < ga_ba G ∧ ga_ad G 1000 = ga_b G
def ga_A (G : ga_G) : Nat → Prop := fun q => ga_ba G ≤ q
theorem ga_apart {G : ga_G} (h : ga_ok G) (I : ga_I) : va_D (ga_A G) (ga_ws G I) := by
  refine ⟨fun i j p q hi hj e => ?_, fun k q hk => ?_⟩
  · by_cases h1 : i < 358
    · by_cases h2 : j < 358
      · rw [ga_ws_at G I h1] at hi
        rw [ga_ws_at G I h2] at hj
        cases hi; cases hj
        have e1 : ga_ad G i = ga_ad G j := e
        rw [h.1 i h1, h.1 j h2] at e1
        omega
      · rw [ga_ws_ge G I h2] at hj; cases hj
    · rw [ga_ws_ge G I h1] at hi; cases hi
  · by_cases h1 : k < 358
    · rw [ga_ws_at G I h1] at hk
      cases hk
      show ga_ba G ≤ ga_ad G k
      rw [h.1 k h1]; omega
    · rw [ga_ws_ge G I h1] at hk; cases hk
def ga_ty (G : ga_G) : List (ClassId × FieldType) := [(ga_cy G 0, .int), (ga_cy G 1, .boolean), (ga_cy G 2, .char), (ga_cy G 3, .object "GainTables$State")]
def ga_RG (I : ga_I) : Prop := ∀ k j, ga_rg (I k j)
/-- the heap holds the world -/
abbrev ga_Wd (G : ga_G) (I : ga_I) (H : Heap) : Prop := va_P (ga_D G) ga_cl (ga_ws G I) H
def ga_has (G : ga_G) (n : Nat) (ls : Array Slot) (lst : List (Option ga_V)) : Prop := ls.size = n ∧ lst.length = n ∧ lv_wf ls ∧ ∀ (i : Nat) (v : ga_V), lst[i]? = some (some v) → ls[i]? = some (.val (ga_cz G v))
theorem ga_cat (G : ga_G) (v : ga_V) : (ga_cz G v).category = 1 := by
  cases v <;> rfl
def ga_lv (G : ga_G) (lst : List (Option ga_V)) : List (Nat × Value) := (List.range lst.length).filterMap (fun i => (lst.getD i none).map (fun v => (i, ga_cz G v)))
theorem ga_lv_mem {G : ga_G} {lst : List (Option ga_V)} {q : Nat × Value} : q ∈ ga_lv G lst ↔ ∃ i v, lst[i]? = some (some v) ∧ q = (i, ga_cz G v) := by
  unfold ga_lv
  rw [List.mem_filterMap]
  constructor
  · rintro ⟨i, hi, h⟩
    rw [List.mem_range] at hi
    rw [Option.map_eq_some_iff] at h
    obtain ⟨v, h1, h2⟩ := h
    refine ⟨i, v, ?_, h2.symm⟩
    rw [List.getD_eq_getElem?_getD] at h1
    rw [List.getElem?_eq_getElem hi] at h1 ⊢
    exact congrArg some h1
  · rintro ⟨i, v, h, rfl⟩
    have hi := (List.getElem?_eq_some_iff.mp h).1
    refine ⟨i, List.mem_range.mpr hi, ?_⟩
    rw [List.getD_eq_getElem?_getD, h]
    rfl
theorem ga_has_lv {G : ga_G} {n : Nat} {ls : Array Slot} {lst : List (Option ga_V)} (h : ga_has G n ls lst) : lv_has ls n (ga_lv G lst) := by
  refine ⟨h.1, h.2.2.1, fun q hq => ?_⟩
  obtain ⟨i, v, h1, rfl⟩ := ga_lv_mem.mp hq
  exact h.2.2.2 i v h1
theorem ga_has_set {G : ga_G} {n i : Nat} {ls ls' : Array Slot} {lst : List (Option ga_V)} {v : ga_V} (h : ga_has G n ls lst) (hi : i < lst.length) (h' : lv_has ls' n ((i, ga_cz G v) :: (ga_lv G lst).filter (fun q => !(q.1 == i) && !(q.1 + 1 == i && q.2.category == 2)))) : ga_has G n ls' (lst.set i (some v)) := by
  refine ⟨h'.1, by rw [List.length_set]; exact h.2.1, h'.2.1, fun j w hj => ?_⟩
  by_cases e : i = j
  · subst e
    rw [List.getElem?_set_self hi] at hj
    cases hj
    exact h'.2.2 _ List.mem_cons_self
  · rw [List.getElem?_set_ne e] at hj
    refine h'.2.2 (j, ga_cz G w) (List.mem_cons_of_mem _ (List.mem_filter.mpr ⟨ga_lv_mem.mpr ⟨j, w, hj, rfl⟩, ?_⟩))
    have e2 : ¬ j = i := fun q => e q.symm
    simp [ga_cat, e2]
/-- fewer locals are known -/
theorem ga_has_less {G : ga_G} {n : Nat} {ls : Array Slot} {lst lst' : List (Option ga_V)} (h : ga_has G n ls lst) (hl : lst'.length = lst.length) (hk : ∀ (i : Nat) (v : ga_V), lst'[i]? = some (some v) → lst[i]? = some (some v)) : ga_has G n ls lst' :=
  ⟨h.1, hl.trans h.2.1, h.2.2.1, fun i v hv => h.2.2.2 i v (hk i v hv)⟩
def ga_Ctx (G : ga_G) (d : Nat) (mt : ga_M) (p : Program) (R : Room) (s : State) (m : MethodId) (args : Array Value) (c : Code) (cells slots : Nat) : Prop :=
  p.tables.exec = Jvm.exec ∧ c.code = mt.2.1 ∧ c.maxLocals = mt.2.2.1 ∧ s.vm.findClass mt.1.cls = some m.cls ∧ (∀ w ∈ ga_T, w.before args s = true) ∧ va_K (ga_D G) ga_cl (ga_ty G) s ∧ va_X (ga_b G) (ga_L G) (ga_xs G) s s.heap ∧ ga_b G < s.heap.size ∧ ga_ok G ∧ (d ≤ R.frames ∧ 43 * d ≤ R.locals) ∧ cells ≤ R.cells ∧ slots ≤ R.slots
def ga_fit (r : Option FieldType) (ins : Instr) (v : Option ga_V) : Prop :=
  (r = none ∧ ins = .return_ ∧ v = none) ∨ (r = some .int ∧ ins = .ireturn ∧ ∃ z, v = some (.inl z)) ∨ (r = some .boolean ∧ ins = .ireturn ∧ (v = some (.inl 0) ∨ v = some (.inl 1))) ∨ (∃ C, r = some (.object C) ∧ ins = .areturn ∧ ∃ k, v = some (.inr k))
def ga_Ret (G : ga_G) (mt : ga_M) (E : Option ga_V → ga_I → Prop) (p : Program) (e : Env) (R : Room) (s : State) (m : MethodId) (args : Array Value) (below : List Frame) (meth : Method) (c : Code) (cells slots : Nat) (Q : State → Prop) : Prop :=
  ∀ (pc : Nat) (ls : Array Slot) (H : Heap) (locs : List Loc) (I : ga_I) (v : Option ga_V) (ins : Instr), decode mt.2.1 pc = .ok (ins, 1) → ga_fit mt.2.2.2 ins v → E v I → ga_RG I → ga_Wd G I H → va_S (ga_A G) s.heap H locs → W p (ga_l G) e R s m args below meth c H locs cells slots Q (F0 m pc ls (v.toList.map (ga_cz G)))
/-- from this place of the method, in this state, it comes to its end with E -/
def ga_W (G : ga_G) (d : Nat) (mt : ga_M) (pc : Nat) (lst : List (Option ga_V)) (st : List ga_V) (I : ga_I) (E : Option ga_V → ga_I → Prop) : Prop :=
  ∀ (p : Program) (e : Env) (R : Room) (s : State) (m : MethodId) (args : Array Value) (below : List Frame) (meth : Method) (c : Code) (cells slots : Nat) (Q : State → Prop),
    ga_Ctx G d mt p R s m args c cells slots → ga_Ret G mt E p e R s m args below meth c cells slots Q → ga_RG I →
    ∀ (H : Heap) (locs : List Loc) (ls : Array Slot), ga_Wd G I H → va_S (ga_A G) s.heap H locs → ga_has G mt.2.2.1 ls lst → W p (ga_l G) e R s m args below meth c H locs cells slots Q (F0 m pc ls (st.map (ga_cz G)))
section GW
variable {G : ga_G} {d : Nat} {mt : ga_M} {pc : Nat} {lst : List (Option ga_V)} {st : List ga_V} {I : ga_I} {E : Option ga_V → ga_I → Prop}
theorem gw_RG (K : ga_RG I → ga_W G d mt pc lst st I E) : ga_W G d mt pc lst st I E := by
  intro p e R s m args below meth c cells slots Q C hr hI H locs ls hP hS hL
  exact K hI p e R s m args below meth c cells slots Q C hr hI H locs ls hP hS hL
theorem gw_less {lst' : List (Option ga_V)} (K : ga_W G d mt pc lst' st I E) (hl : lst'.length = lst.length) (hk : ∀ (i : Nat) (v : ga_V), lst'[i]? = some (some v) → lst[i]? = some (some v)) : ga_W G d mt pc lst st I E := by
  intro p e R s m args below meth c cells slots Q C hr hI H locs ls hP hS hL
  exact K p e R s m args below meth c cells slots Q C hr hI H locs ls hP hS (ga_has_less hL hl hk)
theorem gw_mono {E' : Option ga_V → ga_I → Prop} (h : ∀ v I', E' v I' → E v I') (K : ga_W G d mt pc lst st I E') : ga_W G d mt pc lst st I E := by
  intro p e R s m args below meth c cells slots Q C hr hI H locs ls hP hS hL
  exact K p e R s m args below meth c cells slots Q C (fun pc ls H locs I v ins h1 h2 h3 => hr pc ls H locs I v ins h1 h2 (h v I h3)) hI H locs ls hP hS hL
-- loads, constants, stores
theorem gw_iload_n {k : Fin 4} {z : Int} (i : Nat) (hd : decode mt.2.1 pc = .ok (.iload_n k, 1)) (hk : (k : Nat) = i) (hl : lst[i]? = some (some (.inl z))) (K : ga_W G d mt (pc + 1) lst (.inl z :: st) I E) : ga_W G d mt pc lst st I E := by
  intro p e R s m args below meth c cells slots Q C hr hI H locs ls hP hS hL
  exact lv_iload_n C.1 C.2.1 hd hk (hL.2.2.2 i _ hl) (K p e R s m args below meth c cells slots Q C hr hI H locs ls hP hS hL)
theorem gw_iload {z : Int} (i : Nat) (hd : decode mt.2.1 pc = .ok (.iload i, 2)) (hl : lst[i]? = some (some (.inl z))) (K : ga_W G d mt (pc + 2) lst (.inl z :: st) I E) : ga_W G d mt pc lst st I E := by
  intro p e R s m args below meth c cells slots Q C hr hI H locs ls hP hS hL
  exact lv_iload C.1 C.2.1 hd (hL.2.2.2 i _ hl) (K p e R s m args below meth c cells slots Q C hr hI H locs ls hP hS hL)
theorem gw_aload_n {k : Fin 4} {z : Nat} (i : Nat) (hd : decode mt.2.1 pc = .ok (.aload_n k, 1)) (hk : (k : Nat) = i) (hl : lst[i]? = some (some (.inr z))) (K : ga_W G d mt (pc + 1) lst (.inr z :: st) I E) : ga_W G d mt pc lst st I E := by
  intro p e R s m args below meth c cells slots Q C hr hI H locs ls hP hS hL
  exact lv_aload_n C.1 C.2.1 hd hk (hL.2.2.2 i _ hl) (K p e R s m args below meth c cells slots Q C hr hI H locs ls hP hS hL)
theorem gw_aload {z : Nat} (i : Nat) (hd : decode mt.2.1 pc = .ok (.aload i, 2)) (hl : lst[i]? = some (some (.inr z))) (K : ga_W G d mt (pc + 2) lst (.inr z :: st) I E) : ga_W G d mt pc lst st I E := by
  intro p e R s m args below meth c cells slots Q C hr hI H locs ls hP hS hL
  exact lv_aload C.1 C.2.1 hd (hL.2.2.2 i _ hl) (K p e R s m args below meth c cells slots Q C hr hI H locs ls hP hS hL)
theorem gw_iconst {n : Int} (hd : decode mt.2.1 pc = .ok (.iconst n, 1)) (K : ga_W G d mt (pc + 1) lst (.inl n :: st) I E) : ga_W G d mt pc lst st I E := by
  intro p e R s m args below meth c cells slots Q C hr hI H locs ls hP hS hL
  exact lv_iconst C.1 C.2.1 hd rfl (K p e R s m args below meth c cells slots Q C hr hI H locs ls hP hS hL)
theorem gw_bipush {n : Int} (hd : decode mt.2.1 pc = .ok (.bipush n, 2)) (hn : (Int8.ofInt n).toInt32 = Int32.ofInt n) (K : ga_W G d mt (pc + 2) lst (.inl n :: st) I E) : ga_W G d mt pc lst st I E := by
  intro p e R s m args below meth c cells slots Q C hr hI H locs ls hP hS hL
  exact lv_bipush C.1 C.2.1 hd hn (K p e R s m args below meth c cells slots Q C hr hI H locs ls hP hS hL)
theorem gw_sipush {n : Int} (hd : decode mt.2.1 pc = .ok (.sipush n, 3)) (hn : (Int16.ofInt n).toInt32 = Int32.ofInt n) (K : ga_W G d mt (pc + 3) lst (.inl n :: st) I E) : ga_W G d mt pc lst st I E := by
  intro p e R s m args below meth c cells slots Q C hr hI H locs ls hP hS hL
  exact lv_sipush C.1 C.2.1 hd hn (K p e R s m args below meth c cells slots Q C hr hI H locs ls hP hS hL)
theorem gw_ldc {idx : Nat} {x : Int32} {n : Int} (hd : decode mt.2.1 pc = .ok (.ldc idx, 2)) (hw : Cond.constant mt.1.cls idx x ∈ ga_T) (hn : x = Int32.ofInt n) (K : ga_W G d mt (pc + 2) lst (.inl n :: st) I E) : ga_W G d mt pc lst st I E := by
  intro p e R s m args below meth c cells slots Q C hr hI H locs ls hP hS hL
  subst hn
  exact lv_ldc C.1 C.2.1 C.2.2.2.1 (C.2.2.2.2.1 _ hw) hd (K p e R s m args below meth c cells slots Q C hr hI H locs ls hP hS hL)
theorem gw_istore_n {k : Fin 4} {z : Int} (i : Nat) {lst' : List (Option ga_V)} (hd : decode mt.2.1 pc = .ok (.istore_n k, 1)) (hk : (k : Nat) = i) (hi : i < lst.length) (hl : lst.set i (some (.inl z)) = lst') (K : ga_W G d mt (pc + 1) lst' st I E) : ga_W G d mt pc lst (.inl z :: st) I E := by
  intro p e R s m args below meth c cells slots Q C hr hI H locs ls hP hS hL
  subst hl
  exact lv_istore_n C.1 C.2.1 hd hk (ga_has_lv hL) (by rw [← hL.2.1]; exact hi) rfl (fun ls' h' => K p e R s m args below meth c cells slots Q C hr hI H locs ls' hP hS (ga_has_set (v := .inl z) hL hi h'))
theorem gw_istore {z : Int} (i : Nat) {lst' : List (Option ga_V)} (hd : decode mt.2.1 pc = .ok (.istore i, 2)) (hi : i < lst.length) (hl : lst.set i (some (.inl z)) = lst') (K : ga_W G d mt (pc + 2) lst' st I E) : ga_W G d mt pc lst (.inl z :: st) I E := by
  intro p e R s m args below meth c cells slots Q C hr hI H locs ls hP hS hL
  subst hl
  exact lv_istore C.1 C.2.1 hd (ga_has_lv hL) (by rw [← hL.2.1]; exact hi) rfl (fun ls' h' => K p e R s m args below meth c cells slots Q C hr hI H locs ls' hP hS (ga_has_set (v := .inl z) hL hi h'))
theorem gw_astore_n {k : Fin 4} {z : Nat} (i : Nat) {lst' : List (Option ga_V)} (hd : decode mt.2.1 pc = .ok (.astore_n k, 1)) (hk : (k : Nat) = i) (hi : i < lst.length) (hl : lst.set i (some (.inr z)) = lst') (K : ga_W G d mt (pc + 1) lst' st I E) : ga_W G d mt pc lst (.inr z :: st) I E := by
  intro p e R s m args below meth c cells slots Q C hr hI H locs ls hP hS hL
  subst hl
  exact lv_astore_n C.1 C.2.1 hd hk (ga_has_lv hL) (by rw [← hL.2.1]; exact hi) rfl (fun ls' h' => K p e R s m args below meth c cells slots Q C hr hI H locs ls' hP hS (ga_has_set (v := .inr z) hL hi h'))
theorem gw_astore {z : Nat} (i : Nat) {lst' : List (Option ga_V)} (hd : decode mt.2.1 pc = .ok (.astore i, 2)) (hi : i < lst.length) (hl : lst.set i (some (.inr z)) = lst') (K : ga_W G d mt (pc + 2) lst' st I E) : ga_W G d mt pc lst (.inr z :: st) I E := by
  intro p e R s m args below meth c cells slots Q C hr hI H locs ls hP hS hL
  subst hl
  exact lv_astore C.1 C.2.1 hd (ga_has_lv hL) (by rw [← hL.2.1]; exact hi) rfl (fun ls' h' => K p e R s m args below meth c cells slots Q C hr hI H locs ls' hP hS (ga_has_set (v := .inr z) hL hi h'))
theorem gw_iinc {z : Int} {n : Int} (i : Nat) {lst' : List (Option ga_V)} (hd : decode mt.2.1 pc = .ok (.iinc i n, 3)) (hv : lst[i]? = some (some (.inl z))) (hl : lst.set i (some (.inl (z + n))) = lst') (K : ga_W G d mt (pc + 3) lst' st I E) : ga_W G d mt pc lst st I E := by
  intro p e R s m args below meth c cells slots Q C hr hI H locs ls hP hS hL
  subst hl
  have hi : i < lst.length := (List.getElem?_eq_some_iff.mp hv).1
  obtain ⟨k, hk⟩ := List.getElem?_of_mem (ga_lv_mem (G := G).mpr ⟨i, _, hv, rfl⟩)
  exact lv_iinc C.1 C.2.1 hd (ga_has_lv hL) (k := k) hk (ga_oadd z n) (by rw [← hL.2.1]; exact hi) rfl (fun ls' h' => K p e R s m args below meth c cells slots Q C hr hI H locs ls' hP hS (ga_has_set (v := .inl (z + n)) hL hi h'))
-- arithmetic
theorem gw_iadd {a b : Int} (hd : decode mt.2.1 pc = .ok (.iadd, 1)) (K : ga_W G d mt (pc + 1) lst (.inl (a + b) :: st) I E) : ga_W G d mt pc lst (.inl b :: .inl a :: st) I E := by
  intro p e R s m args below meth c cells slots Q C hr hI H locs ls hP hS hL
  refine lv_iadd C.1 C.2.1 hd ?_
  rw [ga_oadd]
  exact K p e R s m args below meth c cells slots Q C hr hI H locs ls hP hS hL
theorem gw_isub {a b : Int} (hd : decode mt.2.1 pc = .ok (.isub, 1)) (K : ga_W G d mt (pc + 1) lst (.inl (a - b) :: st) I E) : ga_W G d mt pc lst (.inl b :: .inl a :: st) I E := by
  intro p e R s m args below meth c cells slots Q C hr hI H locs ls hP hS hL
  refine lv_isub C.1 C.2.1 hd ?_
  rw [ga_osub]
  exact K p e R s m args below meth c cells slots Q C hr hI H locs ls hP hS hL
theorem gw_imul {a b : Int} (hd : decode mt.2.1 pc = .ok (.imul, 1)) (K : ga_W G d mt (pc + 1) lst (.inl (a * b) :: st) I E) : ga_W G d mt pc lst (.inl b :: .inl a :: st) I E := by
  intro p e R s m args below meth c cells slots Q C hr hI H locs ls hP hS hL
  refine lv_imul C.1 C.2.1 hd ?_
  rw [ga_omul]
  exact K p e R s m args below meth c cells slots Q C hr hI H locs ls hP hS hL
theorem gw_ineg {a : Int} (hd : decode mt.2.1 pc = .ok (.ineg, 1)) (K : ga_W G d mt (pc + 1) lst (.inl (-a) :: st) I E) : ga_W G d mt pc lst (.inl a :: st) I E := by
  intro p e R s m args below meth c cells slots Q C hr hI H locs ls hP hS hL
  refine lv_ineg C.1 C.2.1 hd ?_
  rw [ga_oneg]
  exact K p e R s m args below meth c cells slots Q C hr hI H locs ls hP hS hL
theorem ga_ne0 {b : Int} (hb : ga_rg b) (hb0 : b ≠ 0) : ¬ Int32.ofInt b = 0 := fun h => hb0 ((ga_eq hb (b := 0) ⟨by omega, by omega⟩).mp h)
theorem gw_idiv {a b : Int} (hd : decode mt.2.1 pc = .ok (.idiv, 1)) (ha : ga_rg a) (hb : ga_rg b) (hb0 : 0 < b) (K : ga_W G d mt (pc + 1) lst (.inl (a.tdiv b) :: st) I E) : ga_W G d mt pc lst (.inl b :: .inl a :: st) I E := by
  intro p e R s m args below meth c cells slots Q C hr hI H locs ls hP hS hL
  refine lv_idiv C.1 C.2.1 hd (ga_ne0 hb (by omega)) ?_
  rw [ga_div ha hb hb0]
  exact K p e R s m args below meth c cells slots Q C hr hI H locs ls hP hS hL
theorem gw_irem {a b : Int} (hd : decode mt.2.1 pc = .ok (.irem, 1)) (ha : ga_rg a) (hb : ga_rg b) (hb0 : 0 < b) (K : ga_W G d mt (pc + 1) lst (.inl (a.tmod b) :: st) I E) : ga_W G d mt pc lst (.inl b :: .inl a :: st) I E := by
  intro p e R s m args below meth c cells slots Q C hr hI H locs ls hP hS hL
  refine lv_irem C.1 C.2.1 hd (ga_ne0 hb (by omega)) ?_
  rw [ga_rem ha hb hb0]
  exact K p e R s m args below meth c cells slots Q C hr hI H locs ls hP hS hL
theorem gw_i2c {a : Int} (hd : decode mt.2.1 pc = .ok (.i2c, 1)) (h0 : 0 ≤ a) (h1 : a < 65536) (K : ga_W G d mt (pc + 1) lst (.inl a :: st) I E) : ga_W G d mt pc lst (.inl a :: st) I E := by
  intro p e R s m args below meth c cells slots Q C hr hI H locs ls hP hS hL
  obtain ⟨n, rfl⟩ := Int.eq_ofNat_of_zero_le h0
  have e1 : Int32.ofInt ((n : Nat) : Int) = nI n := rfl
  refine lv_i2c C.1 C.2.1 hd (v := Int32.ofInt ((n : Nat) : Int)) ?_ (K p e R s m args below meth c cells slots Q C hr hI H locs ls hP hS hL)
  rw [e1, pk_char, pk_tn (by omega), Nat.mod_eq_of_lt (by omega)]
-- the stack
theorem gw_dup {v : ga_V} (hd : decode mt.2.1 pc = .ok (.dup, 1)) (K : ga_W G d mt (pc + 1) lst (v :: v :: st) I E) : ga_W G d mt pc lst (v :: st) I E := by
  intro p e R s m args below meth c cells slots Q C hr hI H locs ls hP hS hL
  exact lv_dup C.1 C.2.1 hd (ga_cat G v) (K p e R s m args below meth c cells slots Q C hr hI H locs ls hP hS hL)
theorem gw_dup2 {v w : ga_V} (hd : decode mt.2.1 pc = .ok (.dup2, 1)) (K : ga_W G d mt (pc + 1) lst (v :: w :: v :: w :: st) I E) : ga_W G d mt pc lst (v :: w :: st) I E := by
  intro p e R s m args below meth c cells slots Q C hr hI H locs ls hP hS hL
  exact lv_dup2_11 C.1 C.2.1 hd (ga_cat G v) (ga_cat G w) (K p e R s m args below meth c cells slots Q C hr hI H locs ls hP hS hL)
theorem gw_pop {v : ga_V} (hd : decode mt.2.1 pc = .ok (.pop, 1)) (K : ga_W G d mt (pc + 1) lst st I E) : ga_W G d mt pc lst (v :: st) I E := by
  intro p e R s m args below meth c cells slots Q C hr hI H locs ls hP hS hL
  exact lv_pop C.1 C.2.1 hd (ga_cat G v) (K p e R s m args below meth c cells slots Q C hr hI H locs ls hP hS hL)
-- branches
theorem gw_goto {off : Int} (tgt : Nat) (hd : decode mt.2.1 pc = .ok (.goto off, 3)) (ht : (pc : Int) + off = (tgt : Int)) (K : ga_W G d mt tgt lst st I E) : ga_W G d mt pc lst st I E := by
  intro p e R s m args below meth c cells slots Q C hr hI H locs ls hP hS hL
  exact lv_goto C.1 C.2.1 hd ht (K p e R s m args below meth c cells slots Q C hr hI H locs ls hP hS hL)
theorem gw_ifnull {k : Nat} {off : Int} (hd : decode mt.2.1 pc = .ok (.ifnull off, 3)) (K : ga_W G d mt (pc + 3) lst st I E) : ga_W G d mt pc lst (.inr k :: st) I E := by
  intro p e R s m args below meth c cells slots Q C hr hI H locs ls hP hS hL
  exact lv_ifnull C.1 C.2.1 hd (K p e R s m args below meth c cells slots Q C hr hI H locs ls hP hS hL)
end GW
theorem ga_z0 : (Int32.ofInt 0) = 0 := rfl
section GX
variable {G : ga_G} {d : Nat} {mt : ga_M} {pc : Nat} {lst : List (Option ga_V)} {st : List ga_V} {I : ga_I} {E : Option ga_V → ga_I → Prop}
theorem gw_icmp_eq {a b : Int} {off : Int} (tgt : Nat) (hd : decode mt.2.1 pc = .ok (.if_icmp .eq off, 3)) (ht : (pc : Int) + off = (tgt : Int)) (ha : ga_rg a) (hb : ga_rg b) (K1 : a = b → ga_W G d mt tgt lst st I E) (K2 : ¬ (a = b) → ga_W G d mt (pc + 3) lst st I E) : ga_W G d mt pc lst (.inl b :: .inl a :: st) I E := by
  intro p e R s m args below meth c cells slots Q C hr hI H locs ls hP hS hL
  refine lv_icmp_eq C.1 C.2.1 hd ht (fun h => K1 ((ga_eq ha hb).mp h) p e R s m args below meth c cells slots Q C hr hI H locs ls hP hS hL) (fun h => K2 (fun q => h ((ga_eq ha hb).mpr q)) p e R s m args below meth c cells slots Q C hr hI H locs ls hP hS hL)
theorem gw_if_eq {a : Int} {off : Int} (tgt : Nat) (hd : decode mt.2.1 pc = .ok (.ifCond .eq off, 3)) (ht : (pc : Int) + off = (tgt : Int)) (ha : ga_rg a) (K1 : a = 0 → ga_W G d mt tgt lst st I E) (K2 : ¬ (a = 0) → ga_W G d mt (pc + 3) lst st I E) : ga_W G d mt pc lst (.inl a :: st) I E := by
  intro p e R s m args below meth c cells slots Q C hr hI H locs ls hP hS hL
  have hz : ga_rg 0 := ⟨by omega, by omega⟩
  refine lv_if_eq C.1 C.2.1 hd ht (fun h => K1 ((ga_eq ha hz).mp h) p e R s m args below meth c cells slots Q C hr hI H locs ls hP hS hL) (fun h => K2 (fun q => h ((ga_eq ha hz).mpr q)) p e R s m args below meth c cells slots Q C hr hI H locs ls hP hS hL)
theorem gw_icmp_ne {a b : Int} {off : Int} (tgt : Nat) (hd : decode mt.2.1 pc = .ok (.if_icmp .ne off, 3)) (ht : (pc : Int) + off = (tgt : Int)) (ha : ga_rg a) (hb : ga_rg b) (K1 : a ≠ b → ga_W G d mt tgt lst st I E) (K2 : a = b → ga_W G d mt (pc + 3) lst st I E) : ga_W G d mt pc lst (.inl b :: .inl a :: st) I E := by
  intro p e R s m args below meth c cells slots Q C hr hI H locs ls hP hS hL
  refine lv_icmp_ne C.1 C.2.1 hd ht (fun h => K1 ((not_congr (ga_eq ha hb)).mp h) p e R s m args below meth c cells slots Q C hr hI H locs ls hP hS hL) (fun h => K2 ((ga_eq ha hb).mp h) p e R s m args below meth c cells slots Q C hr hI H locs ls hP hS hL)
theorem gw_if_ne {a : Int} {off : Int} (tgt : Nat) (hd : decode mt.2.1 pc = .ok (.ifCond .ne off, 3)) (ht : (pc : Int) + off = (tgt : Int)) (ha : ga_rg a) (K1 : a ≠ 0 → ga_W G d mt tgt lst st I E) (K2 : a = 0 → ga_W G d mt (pc + 3) lst st I E) : ga_W G d mt pc lst (.inl a :: st) I E := by
  intro p e R s m args below meth c cells slots Q C hr hI H locs ls hP hS hL
  have hz : ga_rg 0 := ⟨by omega, by omega⟩
  refine lv_if_ne C.1 C.2.1 hd ht (fun h => K1 ((not_congr (ga_eq ha hz)).mp h) p e R s m args below meth c cells slots Q C hr hI H locs ls hP hS hL) (fun h => K2 ((ga_eq ha hz).mp h) p e R s m args below meth c cells slots Q C hr hI H locs ls hP hS hL)
theorem gw_icmp_lt {a b : Int} {off : Int} (tgt : Nat) (hd : decode mt.2.1 pc = .ok (.if_icmp .lt off, 3)) (ht : (pc : Int) + off = (tgt : Int)) (ha : ga_rg a) (hb : ga_rg b) (K1 : a < b → ga_W G d mt tgt lst st I E) (K2 : ¬ (a < b) → ga_W G d mt (pc + 3) lst st I E) : ga_W G d mt pc lst (.inl b :: .inl a :: st) I E := by
  intro p e R s m args below meth c cells slots Q C hr hI H locs ls hP hS hL
  refine lv_icmp_lt C.1 C.2.1 hd ht (fun h => K1 ((ga_lt ha hb).mp h) p e R s m args below meth c cells slots Q C hr hI H locs ls hP hS hL) (fun h => K2 (fun q => h ((ga_lt ha hb).mpr q)) p e R s m args below meth c cells slots Q C hr hI H locs ls hP hS hL)
theorem gw_if_lt {a : Int} {off : Int} (tgt : Nat) (hd : decode mt.2.1 pc = .ok (.ifCond .lt off, 3)) (ht : (pc : Int) + off = (tgt : Int)) (ha : ga_rg a) (K1 : a < 0 → ga_W G d mt tgt lst st I E) (K2 : ¬ (a < 0) → ga_W G d mt (pc + 3) lst st I E) : ga_W G d mt pc lst (.inl a :: st) I E := by
  intro p e R s m args below meth c cells slots Q C hr hI H locs ls hP hS hL
  have hz : ga_rg 0 := ⟨by omega, by omega⟩
  refine lv_if_lt C.1 C.2.1 hd ht (fun h => K1 ((ga_lt ha hz).mp h) p e R s m args below meth c cells slots Q C hr hI H locs ls hP hS hL) (fun h => K2 (fun q => h ((ga_lt ha hz).mpr q)) p e R s m args below meth c cells slots Q C hr hI H locs ls hP hS hL)
theorem gw_icmp_ge {a b : Int} {off : Int} (tgt : Nat) (hd : decode mt.2.1 pc = .ok (.if_icmp .ge off, 3)) (ht : (pc : Int) + off = (tgt : Int)) (ha : ga_rg a) (hb : ga_rg b) (K1 : b ≤ a → ga_W G d mt tgt lst st I E) (K2 : ¬ (b ≤ a) → ga_W G d mt (pc + 3) lst st I E) : ga_W G d mt pc lst (.inl b :: .inl a :: st) I E := by
  intro p e R s m args below meth c cells slots Q C hr hI H locs ls hP hS hL
  refine lv_icmp_ge C.1 C.2.1 hd ht (fun h => K1 ((ga_le hb ha).mp h) p e R s m args below meth c cells slots Q C hr hI H locs ls hP hS hL) (fun h => K2 (fun q => h ((ga_le hb ha).mpr q)) p e R s m args below meth c cells slots Q C hr hI H locs ls hP hS hL)
theorem gw_if_ge {a : Int} {off : Int} (tgt : Nat) (hd : decode mt.2.1 pc = .ok (.ifCond .ge off, 3)) (ht : (pc : Int) + off = (tgt : Int)) (ha : ga_rg a) (K1 : 0 ≤ a → ga_W G d mt tgt lst st I E) (K2 : ¬ (0 ≤ a) → ga_W G d mt (pc + 3) lst st I E) : ga_W G d mt pc lst (.inl a :: st) I E := by
  intro p e R s m args below meth c cells slots Q C hr hI H locs ls hP hS hL
  have hz : ga_rg 0 := ⟨by omega, by omega⟩
  refine lv_if_ge C.1 C.2.1 hd ht (fun h => K1 ((ga_le hz ha).mp h) p e R s m args below meth c cells slots Q C hr hI H locs ls hP hS hL) (fun h => K2 (fun q => h ((ga_le hz ha).mpr q)) p e R s m args below meth c cells slots Q C hr hI H locs ls hP hS hL)
theorem gw_icmp_gt {a b : Int} {off : Int} (tgt : Nat) (hd : decode mt.2.1 pc = .ok (.if_icmp .gt off, 3)) (ht : (pc : Int) + off = (tgt : Int)) (ha : ga_rg a) (hb : ga_rg b) (K1 : b < a → ga_W G d mt tgt lst st I E) (K2 : ¬ (b < a) → ga_W G d mt (pc + 3) lst st I E) : ga_W G d mt pc lst (.inl b :: .inl a :: st) I E := by
  intro p e R s m args below meth c cells slots Q C hr hI H locs ls hP hS hL
  refine lv_icmp_gt C.1 C.2.1 hd ht (fun h => K1 ((ga_lt hb ha).mp h) p e R s m args below meth c cells slots Q C hr hI H locs ls hP hS hL) (fun h => K2 (fun q => h ((ga_lt hb ha).mpr q)) p e R s m args below meth c cells slots Q C hr hI H locs ls hP hS hL)
theorem gw_if_gt {a : Int} {off : Int} (tgt : Nat) (hd : decode mt.2.1 pc = .ok (.ifCond .gt off, 3)) (ht : (pc : Int) + off = (tgt : Int)) (ha : ga_rg a) (K1 : 0 < a → ga_W G d mt tgt lst st I E) (K2 : ¬ (0 < a) → ga_W G d mt (pc + 3) lst st I E) : ga_W G d mt pc lst (.inl a :: st) I E := by
  intro p e R s m args below meth c cells slots Q C hr hI H locs ls hP hS hL
  have hz : ga_rg 0 := ⟨by omega, by omega⟩
  refine lv_if_gt C.1 C.2.1 hd ht (fun h => K1 ((ga_lt hz ha).mp h) p e R s m args below meth c cells slots Q C hr hI H locs ls hP hS hL) (fun h => K2 (fun q => h ((ga_lt hz ha).mpr q)) p e R s m args below meth c cells slots Q C hr hI H locs ls hP hS hL)
theorem gw_icmp_le {a b : Int} {off : Int} (tgt : Nat) (hd : decode mt.2.1 pc = .ok (.if_icmp .le off, 3)) (ht : (pc : Int) + off = (tgt : Int)) (ha : ga_rg a) (hb : ga_rg b) (K1 : a ≤ b → ga_W G d mt tgt lst st I E) (K2 : ¬ (a ≤ b) → ga_W G d mt (pc + 3) lst st I E) : ga_W G d mt pc lst (.inl b :: .inl a :: st) I E := by
  intro p e R s m args below meth c cells slots Q C hr hI H locs ls hP hS hL
  refine lv_icmp_le C.1 C.2.1 hd ht (fun h => K1 ((ga_le ha hb).mp h) p e R s m args below meth c cells slots Q C hr hI H locs ls hP hS hL) (fun h => K2 (fun q => h ((ga_le ha hb).mpr q)) p e R s m args below meth c cells slots Q C hr hI H locs ls hP hS hL)
theorem gw_if_le {a : Int} {off : Int} (tgt : Nat) (hd : decode mt.2.1 pc = .ok (.ifCond .le off, 3)) (ht : (pc : Int) + off = (tgt : Int)) (ha : ga_rg a) (K1 : a ≤ 0 → ga_W G d mt tgt lst st I E) (K2 : ¬ (a ≤ 0) → ga_W G d mt (pc + 3) lst st I E) : ga_W G d mt pc lst (.inl a :: st) I E := by
  intro p e R s m args below meth c cells slots Q C hr hI H locs ls hP hS hL
  have hz : ga_rg 0 := ⟨by omega, by omega⟩
  refine lv_if_le C.1 C.2.1 hd ht (fun h => K1 ((ga_le ha hz).mp h) p e R s m args below meth c cells slots Q C hr hI H locs ls hP hS hL) (fun h => K2 (fun q => h ((ga_le ha hz).mpr q)) p e R s m args below meth c cells slots Q C hr hI H locs ls hP hS hL)
/-- the answer of a test as a number -/
def ga_bb (b : Bool) : Int := cond b 1 0
theorem ga_bb_01 (b : Bool) : ga_bb b = 0 ∨ ga_bb b = 1 := by cases b <;> simp [ga_bb]
theorem ga_bb_rg (b : Bool) : ga_rg (ga_bb b) := by cases b <;> simp [ga_bb, ga_rg]
theorem ga_bb_0 {b : Bool} : ga_bb b = 0 ↔ b = false := by cases b <;> simp [ga_bb]
theorem gw_ifb_eq {b : Bool} {off : Int} (tgt : Nat) (hd : decode mt.2.1 pc = .ok (.ifCond .eq off, 3)) (ht : (pc : Int) + off = (tgt : Int)) (K1 : b = false → ga_W G d mt tgt lst st I E) (K2 : b = true → ga_W G d mt (pc + 3) lst st I E) : ga_W G d mt pc lst (.inl (ga_bb b) :: st) I E := by
  refine gw_if_eq tgt hd ht (ga_bb_rg b) (fun h => K1 (ga_bb_0.mp h)) (fun h => K2 ?_)
  cases b
  · exact absurd (ga_bb_0.mpr rfl) h
  · rfl
theorem gw_ifb_ne {b : Bool} {off : Int} (tgt : Nat) (hd : decode mt.2.1 pc = .ok (.ifCond .ne off, 3)) (ht : (pc : Int) + off = (tgt : Int)) (K1 : b = true → ga_W G d mt tgt lst st I E) (K2 : b = false → ga_W G d mt (pc + 3) lst st I E) : ga_W G d mt pc lst (.inl (ga_bb b) :: st) I E := by
  refine gw_if_ne tgt hd ht (ga_bb_rg b) (fun h => K1 ?_) (fun h => K2 (ga_bb_0.mp h))
  cases b
  · exact absurd (ga_bb_0.mpr rfl) h
  · rfl
/-- what a place of the method has left of the locals' knowledge -/
def ga_lk : List (Option ga_V) → List (Option ga_V) → Prop
  | [], [] => True
  | none :: a, _ :: b => ga_lk a b
  | some v :: a, w :: b => w = some v ∧ ga_lk a b
  | _, _ => False
theorem ga_lk_ok : ∀ {a b : List (Option ga_V)}, ga_lk a b → a.length = b.length ∧ ∀ (i : Nat) (v : ga_V), a[i]? = some (some v) → b[i]? = some (some v)
  | [], [], _ => ⟨rfl, fun i v h => by simp at h⟩
  | none :: a, w :: b, h => by
    obtain ⟨h1, h2⟩ := ga_lk_ok (a := a) (b := b) h
    refine ⟨by simp [h1], fun i v hv => ?_⟩
    cases i with
    | zero => simp at hv
    | succ i => simpa using h2 i v (by simpa using hv)
  | some x :: a, w :: b, h => by
    obtain ⟨h1, h2⟩ := ga_lk_ok (a := a) (b := b) h.2
    refine ⟨by simp [h1], fun i v hv => ?_⟩
    cases i with
    | zero =>
      have e : x = v := by simpa using hv
      rw [h.1, e]; rfl
    | succ i => simpa using h2 i v (by simpa using hv)
  | [], _ :: _, h => h.elim
  | none :: _, [], h => h.elim
  | some _ :: _, [], h => h.elim
theorem gw_le {lst' : List (Option ga_V)} (K : ga_W G d mt pc lst' st I E) (h : ga_lk lst' lst) : ga_W G d mt pc lst st I E := gw_less K (ga_lk_ok h).1 (ga_lk_ok h).2
end GX
end
section
/-! the calculus: fields, arrays, calls -/
def ga_up (I : ga_I) (k j : Nat) (z : Int) : ga_I := fun a b => if a = k ∧ b = j then z else I a b
def ga_cp (I : ga_I) (ks kd sp dp n : Nat) : ga_I := fun a j => if a = kd ∧ dp ≤ j ∧ j < dp + n then I ks (sp + (j - dp)) else I a j
theorem ga_RG_up {I : ga_I} (h : ga_RG I) (k j : Nat) {z : Int} (hz : ga_rg z) : ga_RG (ga_up I k j z) := by
  intro a b
  unfold ga_up
  by_cases e : a = k ∧ b = j
  · rw [if_pos e]; exact hz
  · rw [if_neg e]; exact h a b
theorem ga_RG_cp {I : ga_I} (h : ga_RG I) (ks kd sp dp n : Nat) : ga_RG (ga_cp I ks kd sp dp n) := by
  intro a b
  unfold ga_cp
  by_cases e : a = kd ∧ dp ≤ b ∧ b < dp + n
  · rw [if_pos e]; exact h _ _
  · rw [if_neg e]; exact h a b
abbrev ga_obj (k ci : Nat) (fs : List (Option Nat)) : Prop := k < 358 ∧ ga_sh k = .inl (ci, fs)
abbrev ga_arr (k t n : Nat) : Prop := k < 358 ∧ ga_sh k = .inr (.inl (t, n))
def ga_shn : ga_Sh → Bool
  | .inr (.inl (_, n)) => decide (n < 100000)
  | .inr (.inr ts) => decide (ts.length < 100000)
  | .inl _ => true
theorem ga_shn_all : ga_shl.all ga_shn = true := by decide +kernel
theorem ga_shn_ok (s : ga_Sh) (h : s ∈ ga_shl) : ga_shn s = true := List.all_eq_true.mp ga_shn_all s h
theorem ga_sh_mem {k : Nat} (hk : k < 358) : ga_sh k ∈ ga_shl := by
  have hl : ga_shl.length = 358 := by decide +kernel
  unfold ga_sh
  rw [List.getD_eq_getElem?_getD, List.getElem?_eq_getElem (by omega)]
  exact List.getElem_mem _
theorem ga_arr_n {k t n : Nat} (h : ga_arr k t n) : n < 100000 := by
  have h1 := ga_shn_ok _ (ga_sh_mem h.1)
  rw [h.2] at h1
  exact of_decide_eq_true h1
/-- a field's link: the constant of a class, the field's class and place -/
def ga_FL (own : String) (idx ci j : Nat) : Prop := ∃ (C : String) (T : u_T) (N : Nat), ga_cl[ci]? = some (C, T, N) ∧ j < N ∧ (∀ w ∈ u_ws C T N, w ∈ ga_T) ∧ Cond.fieldLink own idx C (T j).2.1 (T j).2.2.1 ∈ ga_T ∧ (T j).1 = C
/-- a field of ints that may be written -/
def ga_FP (own : String) (idx ci j : Nat) : Prop := ∃ (C : String) (T : u_T) (N : Nat) (ty : Nat → FieldType), ga_cl[ci]? = some (C, T, N) ∧ j < N ∧ (∀ w ∈ u_ws C T N, w ∈ ga_T) ∧ Cond.fieldLink own idx C (T j).2.1 (T j).2.2.1 ∈ ga_T ∧ (T j).1 = C ∧ (∀ k, k < N → parseFieldDescriptor (T k).2.2.1 = some (ty k)) ∧ (∀ a, a < N → ∀ b, b < N → a ≠ b → (T a).2.1 ≠ (T b).2.1) ∧ (T j).2.2.2 = false ∧ parseFieldDescriptor (T j).2.2.1 = some .int
theorem ga_fv_at {G : ga_G} {I : ga_I} {k j : Nat} {fs : List (Option Nat)} {o : Option Nat} (h : fs[j]? = some o) : (ga_fv G I k fs)[j]? = some (ga_f1 G I k j o) := by
  unfold ga_fv
  rw [List.getElem?_mapIdx, h]
  rfl
theorem ga_fv_up {G : ga_G} {I : ga_I} {k j : Nat} {fs : List (Option Nat)} {z : Int} (h : fs[j]? = some none) : ga_fv G (ga_up I k j (ga_wr z)) k fs = (ga_fv G I k fs).set j (.int (Int32.ofInt z)) := by
  apply List.ext_getElem?
  intro q
  unfold ga_fv
  rw [List.getElem?_mapIdx]
  by_cases e : j = q
  · subst e
    have hj := (List.getElem?_eq_some_iff.mp h).1
    rw [List.getElem?_set_self (by rw [List.length_mapIdx]; exact hj), h]
    simp [ga_f1, ga_up, ga_of_wr]
  · rw [List.getElem?_set_ne e, List.getElem?_mapIdx]
    have e2 : ¬ q = j := fun x => e x.symm
    congr 1
    funext o
    cases o with
    | none => simp [ga_f1, ga_up, e2]
    | some r => rfl
theorem ga_ce_other {G : ga_G} {I I' : ga_I} {q : Nat} (s : ga_Sh) (h : ∀ j, I' q j = I q j) : ga_ce G I' q s = ga_ce G I q s := by
  unfold ga_ce
  have h2 : I' q = I q := funext h
  rcases s with ⟨ci, fs⟩ | ⟨t, n⟩ | ts
  · show Sum.inr (ci, ga_fv G I' q fs) = Sum.inr (ci, ga_fv G I q fs)
    have h3 : (fun j o => ga_f1 G I' q j o) = (fun j o => ga_f1 G I q j o) := by
      funext j o
      cases o <;> simp [ga_f1, h]
    unfold ga_fv
    rw [h3]
  · show Sum.inl (ga_cy G t, (n, Sum.inl (fun j => Int32.ofInt (I' q j)))) = Sum.inl (ga_cy G t, (n, Sum.inl (fun j => Int32.ofInt (I q j))))
    rw [h2]
  · rfl
section GH
variable {G : ga_G} {d : Nat} {mt : ga_M} {pc : Nat} {lst : List (Option ga_V)} {st : List ga_V} {I : ga_I} {E : Option ga_V → ga_I → Prop}
theorem gw_getI {idx ci j k : Nat} {fs : List (Option Nat)} (hd : decode mt.2.1 pc = .ok (.getfield idx, 3)) (hf : ga_FL mt.1.cls idx ci j) (ho : ga_obj k ci fs) (hj : fs[j]? = some none) (K : ga_W G d mt (pc + 3) lst (.inl (I k j) :: st) I E) : ga_W G d mt pc lst (.inr k :: st) I E := by
  intro p e R s m args below meth c cells slots Q C hr hI H locs ls hP hS hL
  obtain ⟨Cn, T, N, hc, hjN, hin, hl, hown⟩ := hf
  have he := ga_ws_at G I ho.1
  rw [ho.2] at he
  exact va_get C.1 C.2.1 (ref := Cn) C.2.2.2.2.1 hin C.2.2.2.1 C.2.2.2.2.2.1 hP k he hc j hjN (C.2.2.2.2.1 _ hl) (fun x hx => by rw [hown] at hx; exact hx) (ga_fv_at hj) hd (K p e R s m args below meth c cells slots Q C hr hI H locs ls hP hS hL)
theorem gw_getR {idx ci j k r : Nat} {fs : List (Option Nat)} (hd : decode mt.2.1 pc = .ok (.getfield idx, 3)) (hf : ga_FL mt.1.cls idx ci j) (ho : ga_obj k ci fs) (hj : fs[j]? = some (some r)) (K : ga_W G d mt (pc + 3) lst (.inr r :: st) I E) : ga_W G d mt pc lst (.inr k :: st) I E := by
  intro p e R s m args below meth c cells slots Q C hr hI H locs ls hP hS hL
  obtain ⟨Cn, T, N, hc, hjN, hin, hl, hown⟩ := hf
  have he := ga_ws_at G I ho.1
  rw [ho.2] at he
  exact va_get C.1 C.2.1 (ref := Cn) C.2.2.2.2.1 hin C.2.2.2.1 C.2.2.2.2.2.1 hP k he hc j hjN (C.2.2.2.2.1 _ hl) (fun x hx => by rw [hown] at hx; exact hx) (ga_fv_at hj) hd (K p e R s m args below meth c cells slots Q C hr hI H locs ls hP hS hL)
theorem gw_putI {idx ci j k : Nat} {fs : List (Option Nat)} {z : Int} (hd : decode mt.2.1 pc = .ok (.putfield idx, 3)) (hf : ga_FP mt.1.cls idx ci j) (ho : ga_obj k ci fs) (hj : fs[j]? = some none) (K : ga_W G d mt (pc + 3) lst st (ga_up I k j (ga_wr z)) E) : ga_W G d mt pc lst (.inl z :: .inr k :: st) I E := by
  intro p e R s m args below meth c cells slots Q C hr hI H locs ls hP hS hL
  obtain ⟨Cn, T, N, ty, hc, hjN, hin, hl, hown, hty, hnm, hfin, hpar⟩ := hf
  have he := ga_ws_at G I ho.1
  rw [ho.2] at he
  refine va_put C.1 C.2.1 (ref := Cn) C.2.2.2.2.1 hin ty hty hnm C.2.2.2.1 C.2.2.2.2.2.1 hP (ga_apart C.2.2.2.2.2.2.2.2.1 I) hS k he hc j hjN (C.2.2.2.2.1 _ hl) (fun x hx => by rw [hown] at hx; exact hx) hfin hpar (v := .int (Int32.ofInt z)) rfl rfl (by unfold ga_fv; rw [List.length_mapIdx]; exact (List.getElem?_eq_some_iff.mp hj).1) hd (fun H1 locs1 hP1 hD1 hS1 => ?_)
  rw [ga_ws_set (I' := ga_up I k j (ga_wr z)) ho.1 (by rw [ho.2]; show Sum.inr (ci, ga_fv G (ga_up I k j (ga_wr z)) k fs) = _; rw [ga_fv_up hj]) (fun q hq => ga_ce_other _ (fun b => by simp [ga_up, hq]))] at hP1
  exact K p e R s m args below meth c cells slots Q C hr (ga_RG_up hI k j (ga_rg_wr z)) H1 locs1 ls hP1 hS1 hL
theorem gw_iald {k n : Nat} {i : Int} (hd : decode mt.2.1 pc = .ok (.iaload, 1)) (ha : ga_arr k 0 n) (h0 : 0 ≤ i) (h1 : i < n) (K : ga_W G d mt (pc + 1) lst (.inl (I k i.toNat) :: st) I E) : ga_W G d mt pc lst (.inl i :: .inr k :: st) I E := by
  intro p e R s m args below meth c cells slots Q C hr hI H locs ls hP hS hL
  have he := ga_ws_at G I ha.1
  rw [ha.2] at he
  have hn := ga_arr_n ha
  refine va_iald C.1 C.2.1 C.2.2.2.2.2.1 hP k 0 he rfl (ga_in h0 h1 (by omega)) hd ?_
  rw [ga_nat ⟨by omega, by omega⟩]
  exact K p e R s m args below meth c cells slots Q C hr hI H locs ls hP hS hL
theorem gw_zald {k n : Nat} {i : Int} (hd : decode mt.2.1 pc = .ok (.baload, 1)) (ha : ga_arr k 1 n) (h0 : 0 ≤ i) (h1 : i < n) (K : ga_W G d mt (pc + 1) lst (.inl (I k i.toNat) :: st) I E) : ga_W G d mt pc lst (.inl i :: .inr k :: st) I E := by
  intro p e R s m args below meth c cells slots Q C hr hI H locs ls hP hS hL
  have he := ga_ws_at G I ha.1
  rw [ha.2] at he
  have hn := ga_arr_n ha
  refine va_zald C.1 C.2.1 C.2.2.2.2.2.1 hP k 1 he rfl (ga_in h0 h1 (by omega)) hd ?_
  rw [ga_nat ⟨by omega, by omega⟩]
  exact K p e R s m args below meth c cells slots Q C hr hI H locs ls hP hS hL
theorem gw_cald {k n : Nat} {i : Int} (hd : decode mt.2.1 pc = .ok (.caload, 1)) (ha : ga_arr k 2 n) (h0 : 0 ≤ i) (h1 : i < n) (K : ga_W G d mt (pc + 1) lst (.inl (I k i.toNat) :: st) I E) : ga_W G d mt pc lst (.inl i :: .inr k :: st) I E := by
  intro p e R s m args below meth c cells slots Q C hr hI H locs ls hP hS hL
  have he := ga_ws_at G I ha.1
  rw [ha.2] at he
  have hn := ga_arr_n ha
  refine va_cald C.1 C.2.1 C.2.2.2.2.2.1 hP k 2 he rfl (ga_in h0 h1 (by omega)) hd ?_
  rw [ga_nat ⟨by omega, by omega⟩]
  exact K p e R s m args below meth c cells slots Q C hr hI H locs ls hP hS hL
theorem gw_aald {k r : Nat} {ts : List Nat} {i : Int} (hd : decode mt.2.1 pc = .ok (.aaload, 1)) (hk : k < 358 ∧ ga_sh k = .inr (.inr ts)) (h0 : 0 ≤ i) (hr0 : ts[i.toNat]? = some r) (K : ga_W G d mt (pc + 1) lst (.inr r :: st) I E) : ga_W G d mt pc lst (.inl i :: .inr k :: st) I E := by
  intro p e R s m args below meth c cells slots Q C hr hI H locs ls hP hS hL
  have he := ga_ws_at G I hk.1
  rw [hk.2] at he
  have hn := ga_shn_ok _ (ga_sh_mem hk.1)
  rw [hk.2] at hn
  have hn : ts.length < 100000 := of_decide_eq_true hn
  have hi := (List.getElem?_eq_some_iff.mp hr0).1
  refine va_aldq C.1 C.2.1 C.2.2.2.2.2.1 hP k 3 he rfl (ga_in h0 (by omega) (by omega)) hd ?_
  rw [ga_nat ⟨by omega, by omega⟩]
  rw [List.getD_eq_getElem?_getD, hr0]
  exact K p e R s m args below meth c cells slots Q C hr hI H locs ls hP hS hL
theorem gw_alen {k t n : Nat} (hd : decode mt.2.1 pc = .ok (.arraylength, 1)) (ha : ga_arr k t n) (ht : t < 3) (K : ga_W G d mt (pc + 1) lst (.inl (n : Int) :: st) I E) : ga_W G d mt pc lst (.inr k :: st) I E := by
  intro p e R s m args below meth c cells slots Q C hr hI H locs ls hP hS hL
  have he := ga_ws_at G I ha.1
  rw [ha.2] at he
  have ht2 : ∃ ty, (ga_ty G)[t]? = some (ga_cy G t, ty) := by
    rcases (show t = 0 ∨ t = 1 ∨ t = 2 by omega) with rfl | rfl | rfl <;> exact ⟨_, rfl⟩
  obtain ⟨ty, hty⟩ := ht2
  exact va_alen C.1 C.2.1 C.2.2.2.2.2.1 hP k t he hty rfl hd (K p e R s m args below meth c cells slots Q C hr hI H locs ls hP hS hL)
theorem ga_arr_up {G : ga_G} {I : ga_I} {k n t : Nat} {i z : Int} {x : Int32} (ha : ga_arr k t n) (h0 : 0 ≤ i) (h1 : i < n) (hx : x = Int32.ofInt z) : (ga_ws G I).set k (ga_ad G k, .inl (ga_cy G t, n, .inl (upd (fun j => Int32.ofInt (I k j)) (Int32.ofInt i).toNatClampNeg x))) = ga_ws G (ga_up I k i.toNat (ga_wr z)) := by
  have hn := ga_arr_n ha
  refine ga_ws_set ha.1 ?_ (fun q hq => ga_ce_other _ (fun b => by simp [ga_up, hq]))
  rw [ha.2, ga_nat ⟨by omega, by omega⟩, hx]
  show Sum.inl (ga_cy G t, (n, Sum.inl (fun j => Int32.ofInt (ga_up I k i.toNat (ga_wr z) k j)))) = _
  congr 4
  funext j
  unfold upd ga_up
  by_cases e : j = i.toNat
  · rw [if_pos ⟨rfl, e⟩, if_pos e, ga_of_wr]
  · rw [if_neg (fun h => e h.2), if_neg e]
theorem gw_iast {k n : Nat} {i z : Int} (hd : decode mt.2.1 pc = .ok (.iastore, 1)) (ha : ga_arr k 0 n) (h0 : 0 ≤ i) (h1 : i < n) (K : ga_W G d mt (pc + 1) lst st (ga_up I k i.toNat (ga_wr z)) E) : ga_W G d mt pc lst (.inl z :: .inl i :: .inr k :: st) I E := by
  intro p e R s m args below meth c cells slots Q C hr hI H locs ls hP hS hL
  have he := ga_ws_at G I ha.1
  rw [ha.2] at he
  have hn := ga_arr_n ha
  refine va_iast C.1 C.2.1 C.2.2.2.2.2.1 hP (ga_apart C.2.2.2.2.2.2.2.2.1 I) hS k 0 he rfl (ga_in h0 h1 (by omega)) hd (fun H1 locs1 hP1 hD1 hS1 => ?_)
  rw [ga_arr_up ha h0 h1 rfl] at hP1
  exact K p e R s m args below meth c cells slots Q C hr (ga_RG_up hI k _ (ga_rg_wr z)) H1 locs1 ls hP1 hS1 hL
theorem gw_zast {k n : Nat} {i z : Int} (hd : decode mt.2.1 pc = .ok (.bastore, 1)) (ha : ga_arr k 1 n) (h0 : 0 ≤ i) (h1 : i < n) (hz : z = 0 ∨ z = 1) (K : ga_W G d mt (pc + 1) lst st (ga_up I k i.toNat (ga_wr z)) E) : ga_W G d mt pc lst (.inl z :: .inl i :: .inr k :: st) I E := by
  intro p e R s m args below meth c cells slots Q C hr hI H locs ls hP hS hL
  have he := ga_ws_at G I ha.1
  rw [ha.2] at he
  have hn := ga_arr_n ha
  refine va_zast C.1 C.2.1 C.2.2.2.2.2.1 hP (ga_apart C.2.2.2.2.2.2.2.2.1 I) hS k 1 he rfl (ga_in h0 h1 (by omega)) hd (fun H1 locs1 hP1 hD1 hS1 => ?_)
  rw [ga_arr_up (z := z) ha h0 h1 (by rcases hz with rfl | rfl <;> decide +kernel)] at hP1
  exact K p e R s m args below meth c cells slots Q C hr (ga_RG_up hI k _ (ga_rg_wr z)) H1 locs1 ls hP1 hS1 hL
theorem gw_cast {k n : Nat} {i z : Int} (hd : decode mt.2.1 pc = .ok (.castore, 1)) (ha : ga_arr k 2 n) (h0 : 0 ≤ i) (h1 : i < n) (hz0 : 0 ≤ z) (hz1 : z < 65536) (K : ga_W G d mt (pc + 1) lst st (ga_up I k i.toNat (ga_wr z)) E) : ga_W G d mt pc lst (.inl z :: .inl i :: .inr k :: st) I E := by
  intro p e R s m args below meth c cells slots Q C hr hI H locs ls hP hS hL
  have he := ga_ws_at G I ha.1
  rw [ha.2] at he
  have hn := ga_arr_n ha
  refine va_cast C.1 C.2.1 C.2.2.2.2.2.1 hP (ga_apart C.2.2.2.2.2.2.2.2.1 I) hS k 2 he rfl (ga_in h0 h1 (by omega)) hd (fun H1 locs1 hP1 hD1 hS1 => ?_)
  obtain ⟨q, rfl⟩ := Int.eq_ofNat_of_zero_le hz0
  have e1 : Int32.ofInt ((q : Nat) : Int) = nI q := rfl
  rw [ga_arr_up (z := ((q : Nat) : Int)) ha h0 h1 (by rw [e1, vp_nar_char]; have := pk_char (nI q); rw [pk_tn (by omega), Nat.mod_eq_of_lt (by omega)] at this; first | exact this | (rw [← this]; rfl))] at hP1
  exact K p e R s m args below meth c cells slots Q C hr (ga_RG_up hI k _ (ga_rg_wr _)) H1 locs1 ls hP1 hS1 hL
end GH
end
section
/-! the calculus: calls -/
def ga_rm (d : Nat) : Room := { frames := d, cells := 0, slots := 0, locals := 43 * d }
def ga_wm (mt : ga_M) : List Cond := .code mt.1 mt.2.1 mt.2.2.1 mt.2.2.2 :: ga_T
def ga_In (mt : ga_M) : Prop := Cond.code mt.1 mt.2.1 mt.2.2.1 mt.2.2.2 ∈ ga_T ∧ plainFor mt.1 = true ∧ mt.2.2.1 ≤ 24 ∧ Cond.initialized mt.1.cls ∈ ga_T ∧ (mt.1.cls ≠ "java/lang/invoke/MethodHandle" ∧ mt.1.cls ≠ "java/lang/invoke/VarHandle")
theorem ga_goodT : GoodIn ga_T ga_T := fun w hw => ⟨hw, good_of_word (List.mem_filter.mp hw).2⟩
theorem ga_goodM {mt : ga_M} (h : ga_In mt) : GoodIn ga_T (ga_wm mt) := fun w hw => by
  rcases List.mem_cons.mp hw with rfl | hw
  · exact ga_goodT _ h.1
  · exact ga_goodT _ hw
/-- what a call finds: the world, the classes, the script -/
def ga_pre (G : ga_G) (I : ga_I) (U : State) : Prop := ga_Wd G I U.heap ∧ va_K (ga_D G) ga_cl (ga_ty G) U ∧ va_X (ga_b G) (ga_L G) (ga_xs G) U U.heap ∧ ga_b G < U.heap.size
def ga_Qc (G : ga_G) (E : Option ga_V → ga_I → Prop) : Array Value → State → Outcome → State → Prop := fun _ st oc t => (∃ (v : Option ga_V) (I' : ga_I), oc = .returned (v.map (ga_cz G)) ∧ E v I' ∧ ga_RG I' ∧ ga_Wd G I' t.heap) ∧ va_F (ga_A G) st t
def ga_en (n : Nat) (as : List ga_V) : List (Option ga_V) := as.map some ++ List.replicate (n - as.length) none
theorem ga_args_mem (G : ga_G) : ∀ (as : List ga_V) (k i : Nat) (v : ga_V), as[i]? = some v → (k + i, ga_cz G v) ∈ lv_args k (as.map (ga_cz G))
  | [], _, _, _, h => by simp at h
  | a :: as, k, 0, v, h => by
    have e : a = v := by simpa using h
    subst e
    simp [lv_args]
  | a :: as, k, i + 1, v, h => by
    have h2 := ga_args_mem G as (k + 1) i v (by simpa using h)
    have e : k + 1 + i = k + (i + 1) := by omega
    rw [e] at h2
    rw [List.map_cons, lv_args, if_neg (by rw [ga_cat]; decide)]
    exact List.mem_cons_of_mem _ h2
theorem ga_sl_len (G : ga_G) : ∀ as : List ga_V, (lg_sl (as.map (ga_cz G))).length = as.length
  | [] => by simp [lg_sl]
  | a :: as => by
    have h := ga_sl_len G as
    have hc : ¬ (ga_cz G a).category = 2 := by rw [ga_cat]; decide
    show (lg_sl (ga_cz G a :: as.map (ga_cz G))).length = _
    unfold lg_sl at h ⊢
    rw [List.flatMap_cons, List.length_append, h, if_neg hc]
    simp; omega
theorem ga_has_en {G : ga_G} {n : Nat} {as : List ga_V} (h : as.length ≤ n) : ga_has G n ((lg_sl (as.map (ga_cz G)) ++ List.replicate (n - (lg_sl (as.map (ga_cz G))).length) Slot.unset).toArray) (ga_en n as) := by
  have h1 := lv_entry (as.map (ga_cz G)) (n := n) (by rw [ga_sl_len]; exact h)
  refine ⟨h1.1, by simp [ga_en]; omega, h1.2.1, fun i v hv => ?_⟩
  unfold ga_en at hv
  by_cases hi : i < as.length
  · rw [List.getElem?_append_left (by simpa using hi), List.getElem?_map] at hv
    have hv2 : as[i]? = some v := by
      cases e : as[i]? with
      | none => rw [e] at hv; cases hv
      | some w => rw [e] at hv; exact Option.some.inj hv
    have h3 := ga_args_mem G as 0 i v hv2
    rw [Nat.zero_add] at h3
    exact h1.2.2 _ h3
  · rw [List.getElem?_append_right (by simpa using hi)] at hv
    have h4 := (List.mem_of_getElem? hv)
    have h5 := List.eq_of_mem_replicate h4
    cases h5
theorem ga_blind (G : ga_G) (I : ga_I) (av : List Value) : FrameBlind (va_Pc av (ga_pre G I)) := fun a U g mk q => by
  obtain ⟨q0, qP, qK, qX, qb⟩ := q
  exact ⟨q0, qP, va_K.moved (u := U) (U := U.calling g mk a) (Vm.Alike.refl U.vm) qK, va_X.moved (u := U) (U := U.calling g mk a) (Vm.Alike.refl U.vm) qX, qb⟩
theorem ga_X_kept {G : ga_G} (hok : ga_ok G) {s : State} {H : Heap} {locs : List Loc} (hX : va_X (ga_b G) (ga_L G) (ga_xs G) s s.heap) (hb : ga_b G < s.heap.size) (hS : va_S (ga_A G) s.heap H locs) : va_X (ga_b G) (ga_L G) (ga_xs G) s H :=
  hX.kept (hS.2.1 _ hb (fun h => by have := hok.2.1; unfold ga_A at h; omega))
/-- a contract out of a walk, also of a method of the JDK that is plain -/
theorem ga_ofW {l : Launch} {y : MethodName} {ws ws' : List Cond} {rm : Room} {Pc : Array Value → State → Prop} {Qc : Array Value → State → Outcome → State → Prop} {mc ms : Nat} {free : Addr → Prop} {cc : ByteArray} {maxL : Nat} {ret : Option FieldType}
    (hy : plainFor y = true) (hw : ws = Cond.code y cc maxL ret :: ws')
    (body : ∀ p e s m args below meth c s₁, BodyLoose p l y (headSpec ws rm) cc maxL ret e s m args below meth c s₁ → c.maxLocals = maxL → Pc args s →
      W p l e (headSpec ws rm).room s m args below meth c s.heap [] 0 0 (MQ below Qc args s mc ms free) (entryFrame m args maxL)) : Met l y ws rm Pc Qc mc ms free := by
  refine MetFree.of_bodySF (code := cc) (maxLocals := maxL) (ret := ret) hy ?_ ?_
  · intro args s m h hn
    obtain ⟨meth, c, h1, h2, h3, h4, h5, h6, -, -⟩ := Cond.code_spec hn (atoms_spec (ws := ws) h _ (by rw [hw]; exact List.mem_cons_self))
    exact ⟨meth, c, h1, h2, h3, h4, h5, h6⟩
  · intro p e s m args below meth c s₁ B hml hP _
    have hh0 : s₁.heap = s.heap := by rw [B.state]; rfl
    obtain ⟨t, a1, o, b1, b2, b3⟩ := body p e s m args below meth c s₁ B hml hP s₁ hh0 (Stand.of_body B)
    exact ⟨t, o, a1, b1, b2, ⟨b3.1, b3.2⟩⟩
/-- the contract of a method, out of its walk -/
theorem ga_met {G : ga_G} {d : Nat} {mt : ga_M} {as : List ga_V} {I : ga_I} {E : Option ga_V → ga_I → Prop} (hin : ga_In mt) (hok : ga_ok G) (hI : ga_RG I) (hn : as.length ≤ mt.2.2.1) (K : ga_W G d mt 0 (ga_en mt.2.2.1 as) [] I E) : Met (ga_l G) mt.1 (ga_wm mt) (ga_rm d) (va_Pc (as.map (ga_cz G)) (ga_pre G I)) (ga_Qc G E) 0 0 (ga_A G) := by
  refine ga_ofW (cc := mt.2.1) (maxL := mt.2.2.1) (ret := mt.2.2.2) hin.2.1 rfl ?_
  intro p e s m args below meth c s₁ B hml hv
  obtain ⟨rfl, hP, hK, hX, hbl⟩ := hv
  have hts := atoms_spec (ws := ga_wm mt) B.pre
  have hown : s.vm.findClass mt.1.cls = some m.cls := findClass_of_methodNamed B.named
  have hlocks := B.notSynchronized
  have hr := B.returns
  have C : ga_Ctx G d mt p (headSpec (ga_wm mt) (ga_rm d)).room s m (as.map (ga_cz G)).toArray c 0 0 := ⟨B.exec, B.bytes, hml, hown, fun w hw => hts w (List.mem_cons_of_mem _ hw), hK, hX, hbl, hok, ⟨Nat.le_refl _, Nat.le_refl _⟩, Nat.zero_le _, Nat.zero_le _⟩
  rw [lg_entry_eq]
  refine K p e _ s m _ below meth c 0 0 _ C ?_ hI s.heap [] _ hP va_S.rf (ga_has_en hn)
  intro pc ls H locs I' v ins hd hfit hE hI' hP' hS'
  have hq : ∀ t : State, t.heap = H → s.WarmedH t.vm → ga_Qc G E (as.map (ga_cz G)).toArray s (.returned (v.map (ga_cz G))) t := fun t ht hW => ⟨⟨v, I', rfl, hE, hI', by rw [ht]; exact hP'⟩, hS'.F ht⟩
  rcases hfit with ⟨h1, rfl, rfl⟩ | ⟨h1, rfl, z, rfl⟩ | ⟨h1, rfl, hz⟩ | ⟨Cn, h1, rfl, k, rfl⟩
  · exact W.vret B.exec B.bytes (hr.trans h1) hq hS'.2.2 hd
  · exact W.iret B.exec B.bytes (hr.trans h1) hq hS'.2.2 hd
  · rcases hz with rfl | rfl
    · exact W.zret B.exec B.bytes (hr.trans h1) (v := Int32.ofInt 0) (by decide +kernel) hq hS'.2.2 hd
    · exact W.zret B.exec B.bytes (hr.trans h1) (v := Int32.ofInt 1) (by decide +kernel) hq hS'.2.2 hd
  · exact W.aret B.exec B.bytes (hr.trans h1) (Or.inl ⟨_, rfl⟩) (Or.inr ⟨_, rfl⟩) hq hS'.2.2 hd
theorem ga_wNat : Cond.native arraycopyName ∈ ga_T := ga_mem 369 (by decide +kernel)
theorem ga_wStat : Cond.static arraycopyName ∈ ga_T := ga_mem 368 (by decide +kernel)
theorem ga_wIni : Cond.initialized "java/lang/System" ∈ ga_T := ga_mem 74 (by decide +kernel)
section GC
variable {G : ga_G} {d : Nat} {mt : ga_M} {pc : Nat} {lst : List (Option ga_V)} {st : List ga_V} {I : ga_I} {E : Option ga_V → ga_I → Prop}
/-- returns -/
theorem gw_return (hd : decode mt.2.1 pc = .ok (.return_, 1)) (hr : mt.2.2.2 = none) (h : E none I) : ga_W G d mt pc lst [] I E := by
  intro p e R s m args below meth c cells slots Q C hR hI H locs ls hP hS hL
  exact hR pc ls H locs I none _ hd (Or.inl ⟨hr, rfl, rfl⟩) h hI hP hS
theorem gw_ireturn {z : Int} (hd : decode mt.2.1 pc = .ok (.ireturn, 1)) (hr : mt.2.2.2 = some .int) (h : E (some (.inl z)) I) : ga_W G d mt pc lst [.inl z] I E := by
  intro p e R s m args below meth c cells slots Q C hR hI H locs ls hP hS hL
  exact hR pc ls H locs I (some (.inl z)) _ hd (Or.inr (Or.inl ⟨hr, rfl, z, rfl⟩)) h hI hP hS
theorem gw_zreturn {z : Int} (hd : decode mt.2.1 pc = .ok (.ireturn, 1)) (hr : mt.2.2.2 = some .boolean) (hz : z = 0 ∨ z = 1) (h : E (some (.inl z)) I) : ga_W G d mt pc lst [.inl z] I E := by
  intro p e R s m args below meth c cells slots Q C hR hI H locs ls hP hS hL
  exact hR pc ls H locs I (some (.inl z)) _ hd (Or.inr (Or.inr (Or.inl ⟨hr, rfl, by rcases hz with rfl | rfl; exact Or.inl rfl; exact Or.inr rfl⟩))) h hI hP hS
theorem gw_areturn {k : Nat} {Cn : String} (hd : decode mt.2.1 pc = .ok (.areturn, 1)) (hr : mt.2.2.2 = some (.object Cn)) (h : E (some (.inr k)) I) : ga_W G d mt pc lst [.inr k] I E := by
  intro p e R s m args below meth c cells slots Q C hR hI H locs ls hP hS hL
  exact hR pc ls H locs I (some (.inr k)) _ hd (Or.inr (Or.inr (Or.inr ⟨Cn, hr, rfl, k, rfl⟩))) h hI hP hS
/-- behind any call -/
theorem ga_back {p : Program} {e : Env} {R : Room} {s : State} {m : MethodId} {args : Array Value} {below : List Frame} {meth : Method} {c : Code} {cells slots : Nat} {Q : State → Prop} {H : Heap} {locs : List Loc} {ls : Array Slot} {st0 : List Value} {rest : List ga_V} {E' : Option ga_V → ga_I → Prop} {a : Array Value}
    (C : ga_Ctx G d mt p R s m args c cells slots) (hR : ga_Ret G mt E p e R s m args below meth c cells slots Q) (hS : va_S (ga_A G) s.heap H locs) (hL : ga_has G mt.2.2.1 ls lst)
    (hr : va_Run p (ga_l G) e R s m args below meth c H locs cells slots 0 0 (F0 m pc ls st0) (rest.map (ga_cz G)) (ga_Qc G E' a) (ga_A G)) (K : ∀ v I', E' v I' → ga_W G d mt (pc + 3) lst (v.toList ++ rest) I' E) : W p (ga_l G) e R s m args below meth c H locs cells slots Q (F0 m pc ls st0) := by
  intro T hT X
  obtain ⟨v, st₀, t, T', L, h0, X', hL', e1, e2, ⟨⟨r, I', hv, hE, hI', hP'⟩, hz, hk⟩, stp⟩ := hr T hT X
  cases hv
  rw [h0] at hz hk
  have hS1 : va_S (ga_A G) s.heap T'.heap (locs ++ L) := ⟨Nat.le_trans hS.1 (by rw [e1]; exact hz), fun q h1 h2 => by rw [e1, hk q (Nat.lt_of_lt_of_le h1 hS.1) h2]; exact hS.2.1 q h1 h2, fun q hq => by
      rcases List.mem_append.mp hq with h | h
      · exact hS.2.2 q h
      · exact hL' q h⟩
  obtain ⟨t2, a1, b1⟩ := K r I' hE p e R s m args below meth c cells slots Q C hR hI' T'.heap (locs ++ L) ls (by rw [e1]; exact hP') hS1 hL T' rfl X'
  refine ⟨t2, stp t2 ?_, b1⟩
  have e5 : (r.map (ga_cz G)).toList ++ rest.map (ga_cz G) = (r.toList ++ rest).map (ga_cz G) := by
    cases r <;> rfl
  rw [e5]
  exact a1
theorem ga_cats (G : ga_G) (l : List ga_V) : ((l.map (ga_cz G)).map fun v => v.category).sum = l.length := by
  induction l with
  | nil => rfl
  | cons a l ih => simp [ga_cat] at ih ⊢; omega
def ga_LV (own : String) (idx : Nat) (mt : ga_M) (n : Nat) : Prop := ga_In mt ∧ Cond.methodLink own idx mt.1 ∈ ga_T ∧ Cond.instanceMethod mt.1 ∈ ga_T ∧ Cond.selects mt.1.cls mt.1 mt.1 ∈ ga_T ∧ (parseMethodDescriptor mt.1.desc).map (fun d => d.parameters.length) = some n
def ga_LS (own : String) (idx : Nat) (mt : ga_M) (n : Nat) : Prop := ga_In mt ∧ Cond.methodLink own idx mt.1 ∈ ga_T ∧ Cond.static mt.1 ∈ ga_T ∧ (parseMethodDescriptor mt.1.desc).map (fun d => d.parameters.length) = some n
def ga_LN (own : String) (idx : Nat) (mt : ga_M) (n : Nat) : Prop := ga_In mt ∧ (∃ host, Cond.methodLinkNest own idx mt.1 host ∈ ga_T) ∧ Cond.static mt.1 ∈ ga_T ∧ (parseMethodDescriptor mt.1.desc).map (fun d => d.parameters.length) = some n
theorem gw_invV {d' idx n k : Nat} {mt' : ga_M} {as rest : List ga_V} (hd : decode mt.2.1 pc = .ok (.invokevirtual idx, 3)) (hl : ga_LV mt.1.cls idx mt' n) (hk : k < 358 ∧ ∃ ci fs q, ga_sh k = .inl (ci, fs) ∧ ga_cl[ci]? = some q ∧ q.1 = mt'.1.cls) (hn : as.length = n) (hn2 : as.length + 1 ≤ mt'.2.2.1) (hrs : rest.length ≤ 8) (hdd : d' + 1 = d) (hst : as.reverse ++ .inr k :: rest = st)
    (K : ga_W G d' mt' 0 (ga_en mt'.2.2.1 (.inr k :: as)) [] I (fun v I' => ga_W G d mt (pc + 3) lst (v.toList ++ rest) I' E)) : ga_W G d mt pc lst st I E := by
  intro p e R s m args below meth c cells slots Q C hR hI H locs ls hP hS hL
  subst hdd; subst hst
  obtain ⟨hin, hml, him, hse, hpar⟩ := hl
  obtain ⟨hk1, ci, fs, q, hsh, hcl, hq⟩ := hk
  have he := ga_ws_at G I hk1
  rw [hsh] at he
  obtain ⟨hx, hb, hm, hown, hts, hK, hX, hbl, hok, hroom, hce, hsl⟩ := id C
  have hM := ga_met (d := d') hin hok hI (as := .inr k :: as) (by simpa using hn2) K
  have cw : CallW R s args mt.1.cls mt'.1.cls idx mt'.1 mt'.2.1 mt'.2.2.1 mt'.2.2.2 (ga_wm mt') (ga_rm d') 0 0 n := by
    refine ⟨callB_of n hts (ga_goodM hin) rfl rfl rfl (hts _ hin.2.2.2.1) (hts _ hml) ⟨hin.2.2.2.2.1, hin.2.2.2.2.2, hpar⟩ ⟨hroom.1, ?_⟩, hts _ him, hts _ hse⟩
    have h1 := hroom.2
    have h2 := hin.2.2.1
    show 8 + (mt'.2.2.1 + 11) + 43 * d' ≤ R.locals
    omega
  have hrecv : ∃ cellB : Cell, H[ga_ad G k]? = some cellB ∧ cellB.vm.isStatics = false ∧ s.vm.findClass mt'.1.cls = some cellB.cls := by
    have h := va_recv hK hP hcl he
    rw [hq] at h
    exact h
  have hst0 : ((as.reverse ++ .inr k :: rest).map (ga_cz G)) = (as.map (ga_cz G)).reverse ++ .ref (ga_ad G k) :: rest.map (ga_cz G) := by simp [ga_cz]
  rw [hst0]
  refine ga_back C hR hS hL (va_runV (As := as.map (ga_cz G)) ⟨hx, hb, hm, hown, hts⟩ hM cw ⟨ga_blind G I _, hrecv, fun U hU hW => ⟨rfl, by rw [hU]; exact hP, va_K.moved hW.alike hK, by rw [hU]; exact va_X.moved hW.alike (ga_X_kept hok hX hbl hS), by rw [hU]; exact Nat.lt_of_lt_of_le hbl hS.1⟩⟩ rfl (by simpa using hn) hL.1 rfl (lv_room (by rw [ga_cats]; exact hrs)) hd ⟨hce, hsl⟩) (fun v I' h => h)
theorem gw_invS {d' idx n : Nat} {mt' : ga_M} {as rest : List ga_V} (hd : decode mt.2.1 pc = .ok (.invokestatic idx, 3)) (hl : ga_LS mt.1.cls idx mt' n) (hn : as.length = n) (hn2 : as.length ≤ mt'.2.2.1) (hrs : rest.length ≤ 8) (hdd : d' + 1 = d) (hst : as.reverse ++ rest = st)
    (K : ga_W G d' mt' 0 (ga_en mt'.2.2.1 as) [] I (fun v I' => ga_W G d mt (pc + 3) lst (v.toList ++ rest) I' E)) : ga_W G d mt pc lst st I E := by
  intro p e R s m args below meth c cells slots Q C hR hI H locs ls hP hS hL
  subst hdd; subst hst
  obtain ⟨hin, hml, hstt, hpar⟩ := hl
  obtain ⟨hx, hb, hm, hown, hts, hK, hX, hbl, hok, hroom, hce, hsl⟩ := id C
  have hM := ga_met (d := d') hin hok hI (as := as) hn2 K
  have cw : CallB R s args mt.1.cls idx mt'.1 mt'.2.1 mt'.2.2.1 mt'.2.2.2 (ga_wm mt') (ga_rm d') 0 0 n ∧ (Cond.static mt'.1).before args s = true := by
    refine ⟨callB_of n hts (ga_goodM hin) rfl rfl rfl (hts _ hin.2.2.2.1) (hts _ hml) ⟨hin.2.2.2.2.1, hin.2.2.2.2.2, hpar⟩ ⟨hroom.1, ?_⟩, hts _ hstt⟩
    have h1 := hroom.2
    have h2 := hin.2.2.1
    show 8 + (mt'.2.2.1 + 11) + 43 * d' ≤ R.locals
    omega
  have hst0 : ((as.reverse ++ rest).map (ga_cz G)) = (as.map (ga_cz G)).reverse ++ rest.map (ga_cz G) := by simp
  rw [hst0]
  refine ga_back C hR hS hL (va_runS (As := as.map (ga_cz G)) ⟨hx, hb, hm, hown, hts⟩ hM cw ⟨ga_blind G I _, fun U hU hW => ⟨rfl, by rw [hU]; exact hP, va_K.moved hW.alike hK, by rw [hU]; exact va_X.moved hW.alike (ga_X_kept hok hX hbl hS), by rw [hU]; exact Nat.lt_of_lt_of_le hbl hS.1⟩⟩ rfl (by simpa using hn) hL.1 rfl (lv_room (by rw [ga_cats]; exact hrs)) hd ⟨hce, hsl⟩) (fun v I' h => h)
theorem gw_invN {d' idx n : Nat} {mt' : ga_M} {as rest : List ga_V} (hd : decode mt.2.1 pc = .ok (.invokestatic idx, 3)) (hl : ga_LN mt.1.cls idx mt' n) (hn : as.length = n) (hn2 : as.length ≤ mt'.2.2.1) (hrs : rest.length ≤ 8) (hdd : d' + 1 = d) (hst : as.reverse ++ rest = st)
    (K : ga_W G d' mt' 0 (ga_en mt'.2.2.1 as) [] I (fun v I' => ga_W G d mt (pc + 3) lst (v.toList ++ rest) I' E)) : ga_W G d mt pc lst st I E := by
  intro p e R s m args below meth c cells slots Q C hR hI H locs ls hP hS hL
  subst hdd; subst hst
  obtain ⟨hin, ⟨host, hml⟩, hstt, hpar⟩ := hl
  obtain ⟨hx, hb, hm, hown, hts, hK, hX, hbl, hok, hroom, hce, hsl⟩ := id C
  have hM := ga_met (d := d') hin hok hI (as := as) hn2 K
  have cw : va_CN R s args mt.1.cls idx mt'.1 host mt'.2.1 mt'.2.2.1 mt'.2.2.2 (ga_wm mt') (ga_rm d') 0 0 n ∧ (Cond.static mt'.1).before args s = true ∧ True := by
    refine ⟨va_cnB n hts (ga_goodM hin) rfl rfl rfl (va_any rfl (hts _ hml)) (hts _ hin.2.2.2.1) ⟨hin.2.2.2.2.1, hin.2.2.2.2.2, hpar⟩ ⟨hroom.1, ?_⟩, hts _ hstt, trivial⟩
    have h1 := hroom.2
    have h2 := hin.2.2.1
    show 8 + (mt'.2.2.1 + 11) + 43 * d' ≤ R.locals
    omega
  have hst0 : ((as.reverse ++ rest).map (ga_cz G)) = (as.map (ga_cz G)).reverse ++ rest.map (ga_cz G) := by simp
  rw [hst0]
  refine ga_back C hR hS hL (va_runSN (As := as.map (ga_cz G)) ⟨hx, hb, hm, hown, hts⟩ hM cw ⟨ga_blind G I _, fun U hU hW => ⟨rfl, by rw [hU]; exact hP, va_K.moved hW.alike hK, by rw [hU]; exact va_X.moved hW.alike (ga_X_kept hok hX hbl hS), by rw [hU]; exact Nat.lt_of_lt_of_le hbl hS.1⟩⟩ rfl (by simpa using hn) hL.1 rfl (lv_room (by rw [ga_cats]; exact hrs)) hd ⟨hce, hsl⟩) (fun v I' h => h)
theorem gw_copy {idx ks kd ns nd : Nat} {sp dp n : Int} (hd : decode mt.2.1 pc = .ok (.invokestatic idx, 3)) (hl : Cond.methodLink mt.1.cls idx arraycopyName ∈ ga_T) (hs : ga_arr ks 0 ns) (ht : ga_arr kd 0 nd) (h1 : 0 ≤ sp) (h2 : 0 ≤ dp) (h3 : 0 ≤ n) (h4 : sp + n ≤ ns) (h5 : dp + n ≤ nd) (hdd : 1 ≤ d) (hrs : st.length ≤ 8)
    (K : ga_W G d mt (pc + 3) lst st (ga_cp I ks kd sp.toNat dp.toNat n.toNat) E) : ga_W G d mt pc lst (.inl n :: .inl dp :: .inr kd :: .inl sp :: .inr ks :: st) I E := by
  intro p e R s m args below meth c cells slots Q C hR hI H locs ls hP hS hL
  obtain ⟨hx, hb, hm, hown, hts, hK, hX, hbl, hok, hroom, hce, hsl⟩ := id C
  have ns' := ga_arr_n hs
  have nd' := ga_arr_n ht
  have e0 := ga_ws_at G I hs.1
  rw [hs.2] at e0
  have e1 := ga_ws_at G I ht.1
  rw [ht.2] at e1
  have nn : ∀ z : Int, 0 ≤ z → z < 2147483648 → ¬ Int32.ofInt z < 0 ∧ (Int32.ofInt z).toNatClampNeg = z.toNat := fun z q1 q2 => by
    refine ⟨fun h => ?_, ga_nat ⟨by omega, by omega⟩⟩
    have := (ga_lt (a := z) (b := 0) ⟨by omega, by omega⟩ ⟨by omega, by omega⟩).mp h
    omega
  obtain ⟨a1, b1⟩ := nn sp h1 (by omega)
  obtain ⟨a2, b2⟩ := nn dp h2 (by omega)
  obtain ⟨a3, b3⟩ := nn n h3 (by omega)
  refine va_copyi hx hb (hm.trans hL.1.symm) hown (hts _ hl) (hts _ ga_wNat) (hts _ ga_wStat) (hts _ ga_wIni) hK hP (ga_apart hok I) hS ks kd 0 0 e0 e1 rfl rfl rfl a1 a2 a3 (by rw [b1, b3]; omega) (by rw [b2, b3]; omega) (fun i hi => rfl) (Nat.le_trans hdd hroom.1) ?_ hd (fun H1 locs1 hP1 hD1 hS1 => ?_)
  · rw [ga_cats]
    have h9 := hroom.2
    have h8 : nativeFrameWords "java/lang/System" "arraycopy" 5 + 11 ≤ 35 := by decide +kernel
    omega
  · rw [b1, b2, b3] at hP1
    rw [ga_ws_set (I' := ga_cp I ks kd sp.toNat dp.toNat n.toNat) ht.1 (by
      rw [ht.2]
      show Sum.inl (ga_cy G 0, (nd, Sum.inl (fun j => Int32.ofInt (ga_cp I ks kd sp.toNat dp.toNat n.toNat kd j)))) = _
      congr 4
      funext j
      unfold va_cpy ga_cp
      by_cases q : dp.toNat ≤ j ∧ j < dp.toNat + n.toNat
      · rw [if_pos ⟨rfl, q⟩, if_pos q]
      · rw [if_neg (fun h => q h.2), if_neg q]) (fun q hq => ga_ce_other _ (fun b => by simp [ga_cp, hq]))] at hP1
    exact K p e R s m args below meth c cells slots Q C hR (ga_RG_cp hI _ _ _ _ _) H1 locs1 ls hP1 hS1 hL
end GC
end
