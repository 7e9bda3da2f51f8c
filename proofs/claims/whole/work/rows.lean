section
/-- a private method of a class that the tables say can be made, by its rows of tables_1 -/
def lw_okq (q : MethodName × Nat) : Prop := (q.1.cls ≠ "java/lang/invoke/MethodHandle" ∧ q.1.cls ≠ "java/lang/invoke/VarHandle") ∧ Cond.instantiable q.1.cls q.2 ∈ tables_1 ∧ Cond.privateMethod q.1 ∈ tables_1 ∧ Cond.instanceMethod q.1 ∈ tables_1
theorem lw_p0 : lw_okq (⟨"TilesGoAbout", "refuse", "(I)I"⟩, 9) := ⟨⟨by decide +kernel, by decide +kernel⟩, List.mem_of_getElem? (i := 16) (by decide +kernel), List.mem_of_getElem? (i := 213) (by decide +kernel), List.mem_of_getElem? (i := 214) (by decide +kernel)⟩
theorem lw_p1 : lw_okq (⟨"TilesGoAbout$Letters", "placeOfFormFault", "()I"⟩, 2) := ⟨⟨by decide +kernel, by decide +kernel⟩, List.mem_of_getElem? (i := 167) (by decide +kernel), List.mem_of_getElem? (i := 229) (by decide +kernel), List.mem_of_getElem? (i := 230) (by decide +kernel)⟩
theorem lw_p2 : lw_okq (⟨"TilesGoAbout$Letters", "at", "(I)I"⟩, 2) := ⟨⟨by decide +kernel, by decide +kernel⟩, List.mem_of_getElem? (i := 167) (by decide +kernel), List.mem_of_getElem? (i := 233) (by decide +kernel), List.mem_of_getElem? (i := 234) (by decide +kernel)⟩
theorem lw_p3 : lw_okq (⟨"TilesGoAbout$Letters", "tellStatement", "(LTilesGoAbout$Hearth;I)Z"⟩, 2) := ⟨⟨by decide +kernel, by decide +kernel⟩, List.mem_of_getElem? (i := 167) (by decide +kernel), List.mem_of_getElem? (i := 252) (by decide +kernel), List.mem_of_getElem? (i := 253) (by decide +kernel)⟩
theorem lw_p4 : lw_okq (⟨"TilesGoAbout$Letters", "digit", "(I)I"⟩, 2) := ⟨⟨by decide +kernel, by decide +kernel⟩, List.mem_of_getElem? (i := 167) (by decide +kernel), List.mem_of_getElem? (i := 256) (by decide +kernel), List.mem_of_getElem? (i := 257) (by decide +kernel)⟩
theorem lw_p5 : lw_okq (⟨"TilesGoAbout$Letters", "number", "(I)I"⟩, 2) := ⟨⟨by decide +kernel, by decide +kernel⟩, List.mem_of_getElem? (i := 167) (by decide +kernel), List.mem_of_getElem? (i := 260) (by decide +kernel), List.mem_of_getElem? (i := 261) (by decide +kernel)⟩
theorem lw_p6 : lw_okq (⟨"TilesGoAbout$Hearth", "goerOf", "(I)LTilesGoAbout$Skater;"⟩, 15) := ⟨⟨by decide +kernel, by decide +kernel⟩, List.mem_of_getElem? (i := 24) (by decide +kernel), List.mem_of_getElem? (i := 323) (by decide +kernel), List.mem_of_getElem? (i := 324) (by decide +kernel)⟩
theorem lw_p7 : lw_okq (⟨"TilesGoAbout$Hearth", "mayGo", "(II)Z"⟩, 15) := ⟨⟨by decide +kernel, by decide +kernel⟩, List.mem_of_getElem? (i := 24) (by decide +kernel), List.mem_of_getElem? (i := 363) (by decide +kernel), List.mem_of_getElem? (i := 364) (by decide +kernel)⟩
theorem lw_p8 : lw_okq (⟨"TilesGoAbout$Mind", "nobodyAboard", "(LTilesGoAbout$Hearth;II)Z"⟩, 4) := ⟨⟨by decide +kernel, by decide +kernel⟩, List.mem_of_getElem? (i := 132) (by decide +kernel), List.mem_of_getElem? (i := 601) (by decide +kernel), List.mem_of_getElem? (i := 602) (by decide +kernel)⟩
theorem lw_p9 : lw_okq (⟨"TilesGoAbout$Mind", "worthOf", "(I)I"⟩, 4) := ⟨⟨by decide +kernel, by decide +kernel⟩, List.mem_of_getElem? (i := 132) (by decide +kernel), List.mem_of_getElem? (i := 686) (by decide +kernel), List.mem_of_getElem? (i := 687) (by decide +kernel)⟩
theorem lw_p10 : lw_okq (⟨"TilesGoAbout", "refuseLong", "(I)J"⟩, 9) := ⟨⟨by decide +kernel, by decide +kernel⟩, List.mem_of_getElem? (i := 16) (by decide +kernel), List.mem_of_getElem? (i := 694) (by decide +kernel), List.mem_of_getElem? (i := 695) (by decide +kernel)⟩
theorem lw_p11 : lw_okq (⟨"TilesGoAbout", "goesAsTold", "(III)Z"⟩, 9) := ⟨⟨by decide +kernel, by decide +kernel⟩, List.mem_of_getElem? (i := 16) (by decide +kernel), List.mem_of_getElem? (i := 721) (by decide +kernel), List.mem_of_getElem? (i := 722) (by decide +kernel)⟩
theorem lw_p12 : lw_okq (⟨"TilesGoAbout$Mind", "draw", "(I)I"⟩, 4) := ⟨⟨by decide +kernel, by decide +kernel⟩, List.mem_of_getElem? (i := 132) (by decide +kernel), List.mem_of_getElem? (i := 747) (by decide +kernel), List.mem_of_getElem? (i := 748) (by decide +kernel)⟩
theorem lw_p13 : lw_okq (⟨"TilesGoAboutModel", "no", "(I)I"⟩, 26) := ⟨⟨by decide +kernel, by decide +kernel⟩, List.mem_of_getElem? (i := 769) (by decide +kernel), List.mem_of_getElem? (i := 861) (by decide +kernel), List.mem_of_getElem? (i := 862) (by decide +kernel)⟩
theorem lw_p14 : lw_okq (⟨"TilesGoAboutModel", "statement", "()Z"⟩, 26) := ⟨⟨by decide +kernel, by decide +kernel⟩, List.mem_of_getElem? (i := 769) (by decide +kernel), List.mem_of_getElem? (i := 869) (by decide +kernel), List.mem_of_getElem? (i := 870) (by decide +kernel)⟩
theorem lw_p15 : lw_okq (⟨"TilesGoAboutModel", "letterNow", "()I"⟩, 26) := ⟨⟨by decide +kernel, by decide +kernel⟩, List.mem_of_getElem? (i := 769) (by decide +kernel), List.mem_of_getElem? (i := 873) (by decide +kernel), List.mem_of_getElem? (i := 874) (by decide +kernel)⟩
def lw_privs_1 : List (MethodName × Nat) := [(⟨"TilesGoAbout", "refuse", "(I)I"⟩, 9), (⟨"TilesGoAbout$Letters", "placeOfFormFault", "()I"⟩, 2), (⟨"TilesGoAbout$Letters", "at", "(I)I"⟩, 2), (⟨"TilesGoAbout$Letters", "tellStatement", "(LTilesGoAbout$Hearth;I)Z"⟩, 2), (⟨"TilesGoAbout$Letters", "digit", "(I)I"⟩, 2), (⟨"TilesGoAbout$Letters", "number", "(I)I"⟩, 2), (⟨"TilesGoAbout$Hearth", "goerOf", "(I)LTilesGoAbout$Skater;"⟩, 15), (⟨"TilesGoAbout$Hearth", "mayGo", "(II)Z"⟩, 15), (⟨"TilesGoAbout$Mind", "nobodyAboard", "(LTilesGoAbout$Hearth;II)Z"⟩, 4), (⟨"TilesGoAbout$Mind", "worthOf", "(I)I"⟩, 4), (⟨"TilesGoAbout", "refuseLong", "(I)J"⟩, 9), (⟨"TilesGoAbout", "goesAsTold", "(III)Z"⟩, 9), (⟨"TilesGoAbout$Mind", "draw", "(I)I"⟩, 4), (⟨"TilesGoAboutModel", "no", "(I)I"⟩, 26), (⟨"TilesGoAboutModel", "statement", "()Z"⟩, 26), (⟨"TilesGoAboutModel", "letterNow", "()I"⟩, 26)]
theorem lw_r1 : ∀ q ∈ lw_privs_1, lw_okq q := List.forall_mem_cons.mpr ⟨lw_p0, List.forall_mem_cons.mpr ⟨lw_p1, List.forall_mem_cons.mpr ⟨lw_p2, List.forall_mem_cons.mpr ⟨lw_p3, List.forall_mem_cons.mpr ⟨lw_p4, List.forall_mem_cons.mpr ⟨lw_p5, List.forall_mem_cons.mpr ⟨lw_p6, List.forall_mem_cons.mpr ⟨lw_p7, List.forall_mem_cons.mpr ⟨lw_p8, List.forall_mem_cons.mpr ⟨lw_p9, List.forall_mem_cons.mpr ⟨lw_p10, List.forall_mem_cons.mpr ⟨lw_p11, List.forall_mem_cons.mpr ⟨lw_p12, List.forall_mem_cons.mpr ⟨lw_p13, List.forall_mem_cons.mpr ⟨lw_p14, List.forall_mem_cons.mpr ⟨lw_p15, fun _ h => absurd h List.not_mem_nil⟩⟩⟩⟩⟩⟩⟩⟩⟩⟩⟩⟩⟩⟩⟩⟩
theorem lw_p16 : lw_okq (⟨"TilesGoAboutModel", "readsAll", "(II)Z"⟩, 26) := ⟨⟨by decide +kernel, by decide +kernel⟩, List.mem_of_getElem? (i := 769) (by decide +kernel), List.mem_of_getElem? (i := 877) (by decide +kernel), List.mem_of_getElem? (i := 878) (by decide +kernel)⟩
theorem lw_p17 : lw_okq (⟨"TilesGoAboutModel", "readsLittle", "(I)Z"⟩, 26) := ⟨⟨by decide +kernel, by decide +kernel⟩, List.mem_of_getElem? (i := 769) (by decide +kernel), List.mem_of_getElem? (i := 881) (by decide +kernel), List.mem_of_getElem? (i := 882) (by decide +kernel)⟩
theorem lw_p18 : lw_okq (⟨"TilesGoAboutModel", "readsDigits", "(II)Z"⟩, 26) := ⟨⟨by decide +kernel, by decide +kernel⟩, List.mem_of_getElem? (i := 769) (by decide +kernel), List.mem_of_getElem? (i := 888) (by decide +kernel), List.mem_of_getElem? (i := 889) (by decide +kernel)⟩
theorem lw_p19 : lw_okq (⟨"TilesGoAboutModel", "passesAll", "(IZ)V"⟩, 26) := ⟨⟨by decide +kernel, by decide +kernel⟩, List.mem_of_getElem? (i := 769) (by decide +kernel), List.mem_of_getElem? (i := 895) (by decide +kernel), List.mem_of_getElem? (i := 896) (by decide +kernel)⟩
theorem lw_p20 : lw_okq (⟨"TilesGoAboutModel", "passes", "([I)V"⟩, 26) := ⟨⟨by decide +kernel, by decide +kernel⟩, List.mem_of_getElem? (i := 769) (by decide +kernel), List.mem_of_getElem? (i := 899) (by decide +kernel), List.mem_of_getElem? (i := 900) (by decide +kernel)⟩
theorem lw_p21 : lw_okq (⟨"TilesGoAboutModel", "passOne", "(I)I"⟩, 26) := ⟨⟨by decide +kernel, by decide +kernel⟩, List.mem_of_getElem? (i := 769) (by decide +kernel), List.mem_of_getElem? (i := 903) (by decide +kernel), List.mem_of_getElem? (i := 904) (by decide +kernel)⟩
theorem lw_p22 : lw_okq (⟨"TilesGoAboutModel", "comesTold", "(I)Z"⟩, 26) := ⟨⟨by decide +kernel, by decide +kernel⟩, List.mem_of_getElem? (i := 769) (by decide +kernel), List.mem_of_getElem? (i := 907) (by decide +kernel), List.mem_of_getElem? (i := 908) (by decide +kernel)⟩
theorem lw_p23 : lw_okq (⟨"TilesGoAboutModel", "comesLittle", "(I)Z"⟩, 26) := ⟨⟨by decide +kernel, by decide +kernel⟩, List.mem_of_getElem? (i := 769) (by decide +kernel), List.mem_of_getElem? (i := 911) (by decide +kernel), List.mem_of_getElem? (i := 912) (by decide +kernel)⟩
theorem lw_p24 : lw_okq (⟨"TilesGoAboutModel", "addsOne", "(III)V"⟩, 26) := ⟨⟨by decide +kernel, by decide +kernel⟩, List.mem_of_getElem? (i := 769) (by decide +kernel), List.mem_of_getElem? (i := 918) (by decide +kernel), List.mem_of_getElem? (i := 919) (by decide +kernel)⟩
theorem lw_p25 : lw_okq (⟨"TilesGoAboutModel", "comesOf", "(III)Z"⟩, 26) := ⟨⟨by decide +kernel, by decide +kernel⟩, List.mem_of_getElem? (i := 769) (by decide +kernel), List.mem_of_getElem? (i := 922) (by decide +kernel), List.mem_of_getElem? (i := 923) (by decide +kernel)⟩
theorem lw_p26 : lw_okq (⟨"TilesGoAboutModel", "isOne", "(I)Z"⟩, 26) := ⟨⟨by decide +kernel, by decide +kernel⟩, List.mem_of_getElem? (i := 769) (by decide +kernel), List.mem_of_getElem? (i := 926) (by decide +kernel), List.mem_of_getElem? (i := 927) (by decide +kernel)⟩
theorem lw_p27 : lw_okq (⟨"TilesGoAboutModel", "pinsOne", "(II)V"⟩, 26) := ⟨⟨by decide +kernel, by decide +kernel⟩, List.mem_of_getElem? (i := 769) (by decide +kernel), List.mem_of_getElem? (i := 930) (by decide +kernel), List.mem_of_getElem? (i := 931) (by decide +kernel)⟩
theorem lw_p28 : lw_okq (⟨"TilesGoAboutModel", "comesNights", "(I)Z"⟩, 26) := ⟨⟨by decide +kernel, by decide +kernel⟩, List.mem_of_getElem? (i := 769) (by decide +kernel), List.mem_of_getElem? (i := 934) (by decide +kernel), List.mem_of_getElem? (i := 935) (by decide +kernel)⟩
theorem lw_p29 : lw_okq (⟨"TilesGoAboutModel", "goes", "(I)V"⟩, 26) := ⟨⟨by decide +kernel, by decide +kernel⟩, List.mem_of_getElem? (i := 769) (by decide +kernel), List.mem_of_getElem? (i := 938) (by decide +kernel), List.mem_of_getElem? (i := 939) (by decide +kernel)⟩
theorem lw_p30 : lw_okq (⟨"TilesGoAboutModel", "goesNight", "()V"⟩, 26) := ⟨⟨by decide +kernel, by decide +kernel⟩, List.mem_of_getElem? (i := 769) (by decide +kernel), List.mem_of_getElem? (i := 942) (by decide +kernel), List.mem_of_getElem? (i := 943) (by decide +kernel)⟩
theorem lw_p31 : lw_okq (⟨"TilesGoAboutModel", "goesOne", "(I)V"⟩, 26) := ⟨⟨by decide +kernel, by decide +kernel⟩, List.mem_of_getElem? (i := 769) (by decide +kernel), List.mem_of_getElem? (i := 946) (by decide +kernel), List.mem_of_getElem? (i := 947) (by decide +kernel)⟩
def lw_privs_2 : List (MethodName × Nat) := [(⟨"TilesGoAboutModel", "readsAll", "(II)Z"⟩, 26), (⟨"TilesGoAboutModel", "readsLittle", "(I)Z"⟩, 26), (⟨"TilesGoAboutModel", "readsDigits", "(II)Z"⟩, 26), (⟨"TilesGoAboutModel", "passesAll", "(IZ)V"⟩, 26), (⟨"TilesGoAboutModel", "passes", "([I)V"⟩, 26), (⟨"TilesGoAboutModel", "passOne", "(I)I"⟩, 26), (⟨"TilesGoAboutModel", "comesTold", "(I)Z"⟩, 26), (⟨"TilesGoAboutModel", "comesLittle", "(I)Z"⟩, 26), (⟨"TilesGoAboutModel", "addsOne", "(III)V"⟩, 26), (⟨"TilesGoAboutModel", "comesOf", "(III)Z"⟩, 26), (⟨"TilesGoAboutModel", "isOne", "(I)Z"⟩, 26), (⟨"TilesGoAboutModel", "pinsOne", "(II)V"⟩, 26), (⟨"TilesGoAboutModel", "comesNights", "(I)Z"⟩, 26), (⟨"TilesGoAboutModel", "goes", "(I)V"⟩, 26), (⟨"TilesGoAboutModel", "goesNight", "()V"⟩, 26), (⟨"TilesGoAboutModel", "goesOne", "(I)V"⟩, 26)]
theorem lw_r2 : ∀ q ∈ lw_privs_2, lw_okq q := List.forall_mem_cons.mpr ⟨lw_p16, List.forall_mem_cons.mpr ⟨lw_p17, List.forall_mem_cons.mpr ⟨lw_p18, List.forall_mem_cons.mpr ⟨lw_p19, List.forall_mem_cons.mpr ⟨lw_p20, List.forall_mem_cons.mpr ⟨lw_p21, List.forall_mem_cons.mpr ⟨lw_p22, List.forall_mem_cons.mpr ⟨lw_p23, List.forall_mem_cons.mpr ⟨lw_p24, List.forall_mem_cons.mpr ⟨lw_p25, List.forall_mem_cons.mpr ⟨lw_p26, List.forall_mem_cons.mpr ⟨lw_p27, List.forall_mem_cons.mpr ⟨lw_p28, List.forall_mem_cons.mpr ⟨lw_p29, List.forall_mem_cons.mpr ⟨lw_p30, List.forall_mem_cons.mpr ⟨lw_p31, fun _ h => absurd h List.not_mem_nil⟩⟩⟩⟩⟩⟩⟩⟩⟩⟩⟩⟩⟩⟩⟩⟩
theorem lw_p32 : lw_okq (⟨"TilesGoAboutModel", "isAboard", "(I)Z"⟩, 26) := ⟨⟨by decide +kernel, by decide +kernel⟩, List.mem_of_getElem? (i := 769) (by decide +kernel), List.mem_of_getElem? (i := 950) (by decide +kernel), List.mem_of_getElem? (i := 951) (by decide +kernel)⟩
theorem lw_p33 : lw_okq (⟨"TilesGoAboutModel", "wayOf", "(II)I"⟩, 26) := ⟨⟨by decide +kernel, by decide +kernel⟩, List.mem_of_getElem? (i := 769) (by decide +kernel), List.mem_of_getElem? (i := 954) (by decide +kernel), List.mem_of_getElem? (i := 955) (by decide +kernel)⟩
theorem lw_p34 : lw_okq (⟨"TilesGoAboutModel", "skaterWay", "(I)I"⟩, 26) := ⟨⟨by decide +kernel, by decide +kernel⟩, List.mem_of_getElem? (i := 769) (by decide +kernel), List.mem_of_getElem? (i := 961) (by decide +kernel), List.mem_of_getElem? (i := 962) (by decide +kernel)⟩
theorem lw_p35 : lw_okq (⟨"TilesGoAboutModel", "toShip", "(I)I"⟩, 26) := ⟨⟨by decide +kernel, by decide +kernel⟩, List.mem_of_getElem? (i := 769) (by decide +kernel), List.mem_of_getElem? (i := 965) (by decide +kernel), List.mem_of_getElem? (i := 966) (by decide +kernel)⟩
theorem lw_p36 : lw_okq (⟨"TilesGoAboutModel", "wifeWay", "(II)I"⟩, 26) := ⟨⟨by decide +kernel, by decide +kernel⟩, List.mem_of_getElem? (i := 769) (by decide +kernel), List.mem_of_getElem? (i := 969) (by decide +kernel), List.mem_of_getElem? (i := 970) (by decide +kernel)⟩
theorem lw_p37 : lw_okq (⟨"TilesGoAboutModel", "areOthersAboard", "(I)Z"⟩, 26) := ⟨⟨by decide +kernel, by decide +kernel⟩, List.mem_of_getElem? (i := 769) (by decide +kernel), List.mem_of_getElem? (i := 973) (by decide +kernel), List.mem_of_getElem? (i := 974) (by decide +kernel)⟩
theorem lw_p38 : lw_okq (⟨"TilesGoAboutModel", "manyOn", "(I)I"⟩, 26) := ⟨⟨by decide +kernel, by decide +kernel⟩, List.mem_of_getElem? (i := 769) (by decide +kernel), List.mem_of_getElem? (i := 980) (by decide +kernel), List.mem_of_getElem? (i := 981) (by decide +kernel)⟩
theorem lw_p39 : lw_okq (⟨"TilesGoAboutModel", "comesTile", "(II)Z"⟩, 26) := ⟨⟨by decide +kernel, by decide +kernel⟩, List.mem_of_getElem? (i := 769) (by decide +kernel), List.mem_of_getElem? (i := 984) (by decide +kernel), List.mem_of_getElem? (i := 985) (by decide +kernel)⟩
theorem lw_p40 : lw_okq (⟨"TilesGoAboutModel", "thoseOn", "(I)I"⟩, 26) := ⟨⟨by decide +kernel, by decide +kernel⟩, List.mem_of_getElem? (i := 769) (by decide +kernel), List.mem_of_getElem? (i := 1004) (by decide +kernel), List.mem_of_getElem? (i := 1005) (by decide +kernel)⟩
theorem lw_p41 : lw_okq (⟨"TilesGoAboutModel", "aboardNow", "()I"⟩, 26) := ⟨⟨by decide +kernel, by decide +kernel⟩, List.mem_of_getElem? (i := 769) (by decide +kernel), List.mem_of_getElem? (i := 1036) (by decide +kernel), List.mem_of_getElem? (i := 1037) (by decide +kernel)⟩
theorem lw_p42 : lw_okq (⟨"TilesGoAboutModel", "thinks", "()V"⟩, 26) := ⟨⟨by decide +kernel, by decide +kernel⟩, List.mem_of_getElem? (i := 769) (by decide +kernel), List.mem_of_getElem? (i := 1047) (by decide +kernel), List.mem_of_getElem? (i := 1048) (by decide +kernel)⟩
theorem lw_p43 : lw_okq (⟨"TilesGoAboutModel", "forgets", "()V"⟩, 26) := ⟨⟨by decide +kernel, by decide +kernel⟩, List.mem_of_getElem? (i := 769) (by decide +kernel), List.mem_of_getElem? (i := 1051) (by decide +kernel), List.mem_of_getElem? (i := 1052) (by decide +kernel)⟩
theorem lw_p44 : lw_okq (⟨"TilesGoAboutModel", "aboardIn", "(I)I"⟩, 26) := ⟨⟨by decide +kernel, by decide +kernel⟩, List.mem_of_getElem? (i := 769) (by decide +kernel), List.mem_of_getElem? (i := 1059) (by decide +kernel), List.mem_of_getElem? (i := 1060) (by decide +kernel)⟩
theorem lw_p45 : lw_okq (⟨"TilesGoAboutModel", "comesWhen", "(II)I"⟩, 26) := ⟨⟨by decide +kernel, by decide +kernel⟩, List.mem_of_getElem? (i := 769) (by decide +kernel), List.mem_of_getElem? (i := 1067) (by decide +kernel), List.mem_of_getElem? (i := 1068) (by decide +kernel)⟩
theorem lw_p46 : lw_okq (⟨"TilesGoAboutModel", "firstAboard", "()I"⟩, 26) := ⟨⟨by decide +kernel, by decide +kernel⟩, List.mem_of_getElem? (i := 769) (by decide +kernel), List.mem_of_getElem? (i := 1075) (by decide +kernel), List.mem_of_getElem? (i := 1076) (by decide +kernel)⟩
theorem lw_p47 : lw_okq (⟨"TilesGoAboutModel", "allAboard", "()I"⟩, 26) := ⟨⟨by decide +kernel, by decide +kernel⟩, List.mem_of_getElem? (i := 769) (by decide +kernel), List.mem_of_getElem? (i := 1079) (by decide +kernel), List.mem_of_getElem? (i := 1080) (by decide +kernel)⟩
def lw_privs_3 : List (MethodName × Nat) := [(⟨"TilesGoAboutModel", "isAboard", "(I)Z"⟩, 26), (⟨"TilesGoAboutModel", "wayOf", "(II)I"⟩, 26), (⟨"TilesGoAboutModel", "skaterWay", "(I)I"⟩, 26), (⟨"TilesGoAboutModel", "toShip", "(I)I"⟩, 26), (⟨"TilesGoAboutModel", "wifeWay", "(II)I"⟩, 26), (⟨"TilesGoAboutModel", "areOthersAboard", "(I)Z"⟩, 26), (⟨"TilesGoAboutModel", "manyOn", "(I)I"⟩, 26), (⟨"TilesGoAboutModel", "comesTile", "(II)Z"⟩, 26), (⟨"TilesGoAboutModel", "thoseOn", "(I)I"⟩, 26), (⟨"TilesGoAboutModel", "aboardNow", "()I"⟩, 26), (⟨"TilesGoAboutModel", "thinks", "()V"⟩, 26), (⟨"TilesGoAboutModel", "forgets", "()V"⟩, 26), (⟨"TilesGoAboutModel", "aboardIn", "(I)I"⟩, 26), (⟨"TilesGoAboutModel", "comesWhen", "(II)I"⟩, 26), (⟨"TilesGoAboutModel", "firstAboard", "()I"⟩, 26), (⟨"TilesGoAboutModel", "allAboard", "()I"⟩, 26)]
theorem lw_r3 : ∀ q ∈ lw_privs_3, lw_okq q := List.forall_mem_cons.mpr ⟨lw_p32, List.forall_mem_cons.mpr ⟨lw_p33, List.forall_mem_cons.mpr ⟨lw_p34, List.forall_mem_cons.mpr ⟨lw_p35, List.forall_mem_cons.mpr ⟨lw_p36, List.forall_mem_cons.mpr ⟨lw_p37, List.forall_mem_cons.mpr ⟨lw_p38, List.forall_mem_cons.mpr ⟨lw_p39, List.forall_mem_cons.mpr ⟨lw_p40, List.forall_mem_cons.mpr ⟨lw_p41, List.forall_mem_cons.mpr ⟨lw_p42, List.forall_mem_cons.mpr ⟨lw_p43, List.forall_mem_cons.mpr ⟨lw_p44, List.forall_mem_cons.mpr ⟨lw_p45, List.forall_mem_cons.mpr ⟨lw_p46, List.forall_mem_cons.mpr ⟨lw_p47, fun _ h => absurd h List.not_mem_nil⟩⟩⟩⟩⟩⟩⟩⟩⟩⟩⟩⟩⟩⟩⟩⟩
theorem lw_p48 : lw_okq (⟨"TilesGoAboutModel", "farFrom", "(II)I"⟩, 26) := ⟨⟨by decide +kernel, by decide +kernel⟩, List.mem_of_getElem? (i := 769) (by decide +kernel), List.mem_of_getElem? (i := 1095) (by decide +kernel), List.mem_of_getElem? (i := 1096) (by decide +kernel)⟩
theorem lw_p49 : lw_okq (⟨"TilesGoAboutModel", "spreadFrom", "(I)I"⟩, 26) := ⟨⟨by decide +kernel, by decide +kernel⟩, List.mem_of_getElem? (i := 769) (by decide +kernel), List.mem_of_getElem? (i := 1099) (by decide +kernel), List.mem_of_getElem? (i := 1100) (by decide +kernel)⟩
theorem lw_p50 : lw_okq (⟨"TilesGoAboutModel", "manyAboardIn", "(I)I"⟩, 26) := ⟨⟨by decide +kernel, by decide +kernel⟩, List.mem_of_getElem? (i := 769) (by decide +kernel), List.mem_of_getElem? (i := 1111) (by decide +kernel), List.mem_of_getElem? (i := 1112) (by decide +kernel)⟩
theorem lw_p51 : lw_okq (⟨"TilesGoAboutModel", "changes", "()V"⟩, 26) := ⟨⟨by decide +kernel, by decide +kernel⟩, List.mem_of_getElem? (i := 769) (by decide +kernel), List.mem_of_getElem? (i := 1123) (by decide +kernel), List.mem_of_getElem? (i := 1124) (by decide +kernel)⟩
theorem lw_p52 : lw_okq (⟨"TilesGoAboutModel", "changesBack", "()V"⟩, 26) := ⟨⟨by decide +kernel, by decide +kernel⟩, List.mem_of_getElem? (i := 769) (by decide +kernel), List.mem_of_getElem? (i := 1127) (by decide +kernel), List.mem_of_getElem? (i := 1128) (by decide +kernel)⟩
theorem lw_p53 : lw_okq (⟨"TilesGoAboutModel", "isEmptyBy", "(II)Z"⟩, 26) := ⟨⟨by decide +kernel, by decide +kernel⟩, List.mem_of_getElem? (i := 769) (by decide +kernel), List.mem_of_getElem? (i := 1135) (by decide +kernel), List.mem_of_getElem? (i := 1136) (by decide +kernel)⟩
theorem lw_p54 : lw_okq (⟨"TilesGoAboutModel", "isEmptyTo", "(I)Z"⟩, 26) := ⟨⟨by decide +kernel, by decide +kernel⟩, List.mem_of_getElem? (i := 769) (by decide +kernel), List.mem_of_getElem? (i := 1139) (by decide +kernel), List.mem_of_getElem? (i := 1140) (by decide +kernel)⟩
theorem lw_p55 : lw_okq (⟨"TilesGoAboutModel", "crowded", "()I"⟩, 26) := ⟨⟨by decide +kernel, by decide +kernel⟩, List.mem_of_getElem? (i := 769) (by decide +kernel), List.mem_of_getElem? (i := 1151) (by decide +kernel), List.mem_of_getElem? (i := 1152) (by decide +kernel)⟩
theorem lw_p56 : lw_okq (⟨"TilesGoAboutModel", "homesNow", "()I"⟩, 26) := ⟨⟨by decide +kernel, by decide +kernel⟩, List.mem_of_getElem? (i := 769) (by decide +kernel), List.mem_of_getElem? (i := 1155) (by decide +kernel), List.mem_of_getElem? (i := 1156) (by decide +kernel)⟩
theorem lw_p57 : lw_okq (⟨"TilesGoAboutModel", "lostHomes", "()I"⟩, 26) := ⟨⟨by decide +kernel, by decide +kernel⟩, List.mem_of_getElem? (i := 769) (by decide +kernel), List.mem_of_getElem? (i := 1159) (by decide +kernel), List.mem_of_getElem? (i := 1160) (by decide +kernel)⟩
theorem lw_p58 : lw_okq (⟨"TilesGoAboutModel", "pinnedNow", "()I"⟩, 26) := ⟨⟨by decide +kernel, by decide +kernel⟩, List.mem_of_getElem? (i := 769) (by decide +kernel), List.mem_of_getElem? (i := 1163) (by decide +kernel), List.mem_of_getElem? (i := 1164) (by decide +kernel)⟩
theorem lw_p59 : lw_okq (⟨"TilesGoAboutModel", "besideNow", "()I"⟩, 26) := ⟨⟨by decide +kernel, by decide +kernel⟩, List.mem_of_getElem? (i := 769) (by decide +kernel), List.mem_of_getElem? (i := 1167) (by decide +kernel), List.mem_of_getElem? (i := 1168) (by decide +kernel)⟩
theorem lw_p60 : lw_okq (⟨"TilesGoAboutModel", "emptyTiles", "()I"⟩, 26) := ⟨⟨by decide +kernel, by decide +kernel⟩, List.mem_of_getElem? (i := 769) (by decide +kernel), List.mem_of_getElem? (i := 1177) (by decide +kernel), List.mem_of_getElem? (i := 1178) (by decide +kernel)⟩
theorem lw_p61 : lw_okq (⟨"TilesGoAboutModel", "fromHome", "(I)I"⟩, 26) := ⟨⟨by decide +kernel, by decide +kernel⟩, List.mem_of_getElem? (i := 769) (by decide +kernel), List.mem_of_getElem? (i := 1185) (by decide +kernel), List.mem_of_getElem? (i := 1186) (by decide +kernel)⟩
theorem lw_p62 : lw_okq (⟨"TilesGoAboutModel", "aheadOf", "(I)I"⟩, 26) := ⟨⟨by decide +kernel, by decide +kernel⟩, List.mem_of_getElem? (i := 769) (by decide +kernel), List.mem_of_getElem? (i := 1193) (by decide +kernel), List.mem_of_getElem? (i := 1194) (by decide +kernel)⟩
theorem lw_p63 : lw_okq (⟨"TilesGoAboutModel", "findEnds", "(III)V"⟩, 26) := ⟨⟨by decide +kernel, by decide +kernel⟩, List.mem_of_getElem? (i := 769) (by decide +kernel), List.mem_of_getElem? (i := 1201) (by decide +kernel), List.mem_of_getElem? (i := 1202) (by decide +kernel)⟩
def lw_privs_4 : List (MethodName × Nat) := [(⟨"TilesGoAboutModel", "farFrom", "(II)I"⟩, 26), (⟨"TilesGoAboutModel", "spreadFrom", "(I)I"⟩, 26), (⟨"TilesGoAboutModel", "manyAboardIn", "(I)I"⟩, 26), (⟨"TilesGoAboutModel", "changes", "()V"⟩, 26), (⟨"TilesGoAboutModel", "changesBack", "()V"⟩, 26), (⟨"TilesGoAboutModel", "isEmptyBy", "(II)Z"⟩, 26), (⟨"TilesGoAboutModel", "isEmptyTo", "(I)Z"⟩, 26), (⟨"TilesGoAboutModel", "crowded", "()I"⟩, 26), (⟨"TilesGoAboutModel", "homesNow", "()I"⟩, 26), (⟨"TilesGoAboutModel", "lostHomes", "()I"⟩, 26), (⟨"TilesGoAboutModel", "pinnedNow", "()I"⟩, 26), (⟨"TilesGoAboutModel", "besideNow", "()I"⟩, 26), (⟨"TilesGoAboutModel", "emptyTiles", "()I"⟩, 26), (⟨"TilesGoAboutModel", "fromHome", "(I)I"⟩, 26), (⟨"TilesGoAboutModel", "aheadOf", "(I)I"⟩, 26), (⟨"TilesGoAboutModel", "findEnds", "(III)V"⟩, 26)]
theorem lw_r4 : ∀ q ∈ lw_privs_4, lw_okq q := List.forall_mem_cons.mpr ⟨lw_p48, List.forall_mem_cons.mpr ⟨lw_p49, List.forall_mem_cons.mpr ⟨lw_p50, List.forall_mem_cons.mpr ⟨lw_p51, List.forall_mem_cons.mpr ⟨lw_p52, List.forall_mem_cons.mpr ⟨lw_p53, List.forall_mem_cons.mpr ⟨lw_p54, List.forall_mem_cons.mpr ⟨lw_p55, List.forall_mem_cons.mpr ⟨lw_p56, List.forall_mem_cons.mpr ⟨lw_p57, List.forall_mem_cons.mpr ⟨lw_p58, List.forall_mem_cons.mpr ⟨lw_p59, List.forall_mem_cons.mpr ⟨lw_p60, List.forall_mem_cons.mpr ⟨lw_p61, List.forall_mem_cons.mpr ⟨lw_p62, List.forall_mem_cons.mpr ⟨lw_p63, fun _ h => absurd h List.not_mem_nil⟩⟩⟩⟩⟩⟩⟩⟩⟩⟩⟩⟩⟩⟩⟩⟩
theorem lw_p64 : lw_okq (⟨"TilesGoAboutModel", "endOf", "(I)I"⟩, 26) := ⟨⟨by decide +kernel, by decide +kernel⟩, List.mem_of_getElem? (i := 769) (by decide +kernel), List.mem_of_getElem? (i := 1205) (by decide +kernel), List.mem_of_getElem? (i := 1206) (by decide +kernel)⟩
theorem lw_p65 : lw_okq (⟨"TilesGoAboutModel", "lowestOf", "(I)J"⟩, 26) := ⟨⟨by decide +kernel, by decide +kernel⟩, List.mem_of_getElem? (i := 769) (by decide +kernel), List.mem_of_getElem? (i := 1213) (by decide +kernel), List.mem_of_getElem? (i := 1214) (by decide +kernel)⟩
theorem lw_p66 : lw_okq (⟨"TilesGoAboutModel", "goesByCoals", "(Z)V"⟩, 26) := ⟨⟨by decide +kernel, by decide +kernel⟩, List.mem_of_getElem? (i := 769) (by decide +kernel), List.mem_of_getElem? (i := 1218) (by decide +kernel), List.mem_of_getElem? (i := 1219) (by decide +kernel)⟩
theorem lw_p67 : lw_okq (⟨"TilesGoAboutModel", "bitsFor", "([III)I"⟩, 26) := ⟨⟨by decide +kernel, by decide +kernel⟩, List.mem_of_getElem? (i := 769) (by decide +kernel), List.mem_of_getElem? (i := 1236) (by decide +kernel), List.mem_of_getElem? (i := 1237) (by decide +kernel)⟩
theorem lw_p68 : lw_okq (⟨"TilesGoAboutModel", "isSo", "(I)Z"⟩, 26) := ⟨⟨by decide +kernel, by decide +kernel⟩, List.mem_of_getElem? (i := 769) (by decide +kernel), List.mem_of_getElem? (i := 1240) (by decide +kernel), List.mem_of_getElem? (i := 1241) (by decide +kernel)⟩
theorem lw_p69 : lw_okq (⟨"TilesGoAboutModel", "draw", "(I)I"⟩, 26) := ⟨⟨by decide +kernel, by decide +kernel⟩, List.mem_of_getElem? (i := 769) (by decide +kernel), List.mem_of_getElem? (i := 1260) (by decide +kernel), List.mem_of_getElem? (i := 1261) (by decide +kernel)⟩
def lw_privs_5 : List (MethodName × Nat) := [(⟨"TilesGoAboutModel", "endOf", "(I)I"⟩, 26), (⟨"TilesGoAboutModel", "lowestOf", "(I)J"⟩, 26), (⟨"TilesGoAboutModel", "goesByCoals", "(Z)V"⟩, 26), (⟨"TilesGoAboutModel", "bitsFor", "([III)I"⟩, 26), (⟨"TilesGoAboutModel", "isSo", "(I)Z"⟩, 26), (⟨"TilesGoAboutModel", "draw", "(I)I"⟩, 26)]
theorem lw_r5 : ∀ q ∈ lw_privs_5, lw_okq q := List.forall_mem_cons.mpr ⟨lw_p64, List.forall_mem_cons.mpr ⟨lw_p65, List.forall_mem_cons.mpr ⟨lw_p66, List.forall_mem_cons.mpr ⟨lw_p67, List.forall_mem_cons.mpr ⟨lw_p68, List.forall_mem_cons.mpr ⟨lw_p69, fun _ h => absurd h List.not_mem_nil⟩⟩⟩⟩⟩⟩
def lw_privs : List (MethodName × Nat) := lw_privs_1 ++ (lw_privs_2 ++ (lw_privs_3 ++ (lw_privs_4 ++ (lw_privs_5))))
def lw_tbl : List Cond := k2_sels lw_privs ++ tables_1
theorem lw_privs_ok : ∀ q ∈ lw_privs, lw_okq q := by
  show ∀ q ∈ lw_privs_1 ++ (lw_privs_2 ++ (lw_privs_3 ++ (lw_privs_4 ++ (lw_privs_5)))), lw_okq q
  exact List.forall_mem_append.mpr ⟨lw_r1, List.forall_mem_append.mpr ⟨lw_r2, List.forall_mem_append.mpr ⟨lw_r3, List.forall_mem_append.mpr ⟨lw_r4, lw_r5⟩⟩⟩⟩
end
section
def RX0 : String := "TilesGoAbout$Fisher"
def TX0 : u_T := fun k => match k with
  | _ => ("", "", "", false)
def tyX0 : Nat → FieldType := fun k => match k with
  | _ => .int
abbrev wsX00 : List Cond := u_ws RX0 TX0 0
theorem nmX0 : ∀ a, a < 0 → ∀ b, b < 0 → a ≠ b → (TX0 a).2.1 ≠ (TX0 b).2.1 := by decide +kernel
theorem tyX0_ok : ∀ k, k < 0 → parseFieldDescriptor (TX0 k).2.2.1 = some (tyX0 k) := by decide +kernel
abbrev cX0_init : ByteArray := prog_2_method_1_code
def yX0_init : MethodName := ⟨RX0, "<init>", "()V"⟩
abbrev cX0_wayFrom : ByteArray := prog_2_method_2_code
def yX0_wayFrom : MethodName := ⟨RX0, "wayFrom", "(IILTilesGoAbout$Hearth;)I"⟩
def RX1 : String := "TilesGoAbout$Hearth"
def TX1 : u_T := fun k => match k with
  | 0 => ("TilesGoAbout$Hearth", "cracked", "I", false)
  | 1 => ("TilesGoAbout$Hearth", "shipAt", "I", false)
  | 2 => ("TilesGoAbout$Hearth", "night", "I", false)
  | 3 => ("TilesGoAbout$Hearth", "many", "I", false)
  | 4 => ("TilesGoAbout$Hearth", "kinds", "[I", true)
  | 5 => ("TilesGoAbout$Hearth", "figures", "[I", true)
  | 6 => ("TilesGoAbout$Hearth", "homes", "[I", true)
  | 7 => ("TilesGoAbout$Hearth", "tiles", "[I", true)
  | 8 => ("TilesGoAbout$Hearth", "pinned", "[I", true)
  | 9 => ("TilesGoAbout$Hearth", "skater", "LTilesGoAbout$Skater;", true)
  | 10 => ("TilesGoAbout$Hearth", "hoop", "LTilesGoAbout$Hoop;", true)
  | 11 => ("TilesGoAbout$Hearth", "fisher", "LTilesGoAbout$Fisher;", true)
  | 12 => ("TilesGoAbout$Hearth", "sailor", "LTilesGoAbout$Sailor;", true)
  | 13 => ("TilesGoAbout$Hearth", "wife", "LTilesGoAbout$Wife;", true)
  | _ => ("TilesGoAbout$Hearth", "nobody", "LTilesGoAbout$Nobody;", true)
def tyX1 : Nat → FieldType := fun k => match k with
  | 0 => .int
  | 1 => .int
  | 2 => .int
  | 3 => .int
  | 4 => .array .int
  | 5 => .array .int
  | 6 => .array .int
  | 7 => .array .int
  | 8 => .array .int
  | 9 => .object "TilesGoAbout$Skater"
  | 10 => .object "TilesGoAbout$Hoop"
  | 11 => .object "TilesGoAbout$Fisher"
  | 12 => .object "TilesGoAbout$Sailor"
  | 13 => .object "TilesGoAbout$Wife"
  | _ => .object "TilesGoAbout$Nobody"
abbrev wsX10 : List Cond := u_ws RX1 TX1 15
theorem nmX1 : ∀ a, a < 15 → ∀ b, b < 15 → a ≠ b → (TX1 a).2.1 ≠ (TX1 b).2.1 := by decide +kernel
theorem tyX1_ok : ∀ k, k < 15 → parseFieldDescriptor (TX1 k).2.2.1 = some (tyX1 k) := by decide +kernel
abbrev cX1_init : ByteArray := prog_3_method_1_code
def yX1_init : MethodName := ⟨RX1, "<init>", "()V"⟩
abbrev cX1_copyFrom : ByteArray := prog_3_method_2_code
def yX1_copyFrom : MethodName := ⟨RX1, "copyFrom", "(LTilesGoAbout$Hearth;)V"⟩
abbrev cX1_has : ByteArray := prog_3_method_3_code
def yX1_has : MethodName := ⟨RX1, "has", "(I)Z"⟩
abbrev cX1_kindOf : ByteArray := prog_3_method_4_code
def yX1_kindOf : MethodName := ⟨RX1, "kindOf", "(I)I"⟩
abbrev cX1_figureOf : ByteArray := prog_3_method_5_code
def yX1_figureOf : MethodName := ⟨RX1, "figureOf", "(I)I"⟩
abbrev cX1_homeOf : ByteArray := prog_3_method_6_code
def yX1_homeOf : MethodName := ⟨RX1, "homeOf", "(I)I"⟩
abbrev cX1_tileOf : ByteArray := prog_3_method_7_code
def yX1_tileOf : MethodName := ⟨RX1, "tileOf", "(I)I"⟩
abbrev cX1_pinnedOf : ByteArray := prog_3_method_8_code
def yX1_pinnedOf : MethodName := ⟨RX1, "pinnedOf", "(I)I"⟩
abbrev cX1_isAboard : ByteArray := prog_3_method_9_code
def yX1_isAboard : MethodName := ⟨RX1, "isAboard", "(I)Z"⟩
abbrev cX1_isCracked : ByteArray := prog_3_method_10_code
def yX1_isCracked : MethodName := ⟨RX1, "isCracked", "(I)Z"⟩
abbrev cX1_comeIn : ByteArray := prog_3_method_11_code
def yX1_comeIn : MethodName := ⟨RX1, "comeIn", "(III)I"⟩
abbrev cX1_become : ByteArray := prog_3_method_12_code
def yX1_become : MethodName := ⟨RX1, "become", "(III)V"⟩
abbrev cX1_put : ByteArray := prog_3_method_13_code
def yX1_put : MethodName := ⟨RX1, "put", "(II)V"⟩
abbrev cX1_pinWhereHeIs : ByteArray := prog_3_method_14_code
def yX1_pinWhereHeIs : MethodName := ⟨RX1, "pinWhereHeIs", "(II)V"⟩
abbrev cX1_sendHome : ByteArray := prog_3_method_15_code
def yX1_sendHome : MethodName := ⟨RX1, "sendHome", "(II)V"⟩
abbrev cX1_turnCrack : ByteArray := prog_3_method_16_code
def yX1_turnCrack : MethodName := ⟨RX1, "turnCrack", "(I)V"⟩
abbrev cX1_passNights : ByteArray := prog_3_method_17_code
def yX1_passNights : MethodName := ⟨RX1, "passNights", "(I)V"⟩
abbrev cX1_passNight : ByteArray := prog_3_method_18_code
def yX1_passNight : MethodName := ⟨RX1, "passNight", "()Z"⟩
abbrev cX1_mayGo : ByteArray := prog_3_method_19_code
def yX1_mayGo : MethodName := ⟨RX1, "mayGo", "(II)Z"⟩
abbrev cX1_wayOf : ByteArray := prog_3_method_20_code
def yX1_wayOf : MethodName := ⟨RX1, "wayOf", "(I)I"⟩
abbrev cX1_goerOf : ByteArray := prog_3_method_21_code
def yX1_goerOf : MethodName := ⟨RX1, "goerOf", "(I)LTilesGoAbout$Skater;"⟩
abbrev cX1_othersAboard : ByteArray := prog_3_method_22_code
def yX1_othersAboard : MethodName := ⟨RX1, "othersAboard", "(I)Z"⟩
abbrev cX1_aboardOnes : ByteArray := prog_3_method_23_code
def yX1_aboardOnes : MethodName := ⟨RX1, "aboardOnes", "()I"⟩
abbrev cX1_aboardMany : ByteArray := prog_3_method_24_code
def yX1_aboardMany : MethodName := ⟨RX1, "aboardMany", "()I"⟩
abbrev cX1_onesAt : ByteArray := prog_3_method_25_code
def yX1_onesAt : MethodName := ⟨RX1, "onesAt", "(I)I"⟩
abbrev cX1_manyAt : ByteArray := prog_3_method_26_code
def yX1_manyAt : MethodName := ⟨RX1, "manyAt", "(I)I"⟩
abbrev cX1_fullestTile : ByteArray := prog_3_method_27_code
def yX1_fullestTile : MethodName := ⟨RX1, "fullestTile", "()I"⟩
abbrev cX1_emptyTiles : ByteArray := prog_3_method_28_code
def yX1_emptyTiles : MethodName := ⟨RX1, "emptyTiles", "()I"⟩
abbrev cX1_homeMany : ByteArray := prog_3_method_29_code
def yX1_homeMany : MethodName := ⟨RX1, "homeMany", "()I"⟩
abbrev cX1_lostMany : ByteArray := prog_3_method_30_code
def yX1_lostMany : MethodName := ⟨RX1, "lostMany", "()I"⟩
abbrev cX1_pinnedMany : ByteArray := prog_3_method_31_code
def yX1_pinnedMany : MethodName := ⟨RX1, "pinnedMany", "()I"⟩
abbrev cX1_besideMany : ByteArray := prog_3_method_32_code
def yX1_besideMany : MethodName := ⟨RX1, "besideMany", "()I"⟩
abbrev cX1_fromHome : ByteArray := prog_3_method_33_code
def yX1_fromHome : MethodName := ⟨RX1, "fromHome", "(I)I"⟩
abbrev cX1_farthestFromHome : ByteArray := prog_3_method_34_code
def yX1_farthestFromHome : MethodName := ⟨RX1, "farthestFromHome", "()I"⟩
abbrev cX1_aheadOf : ByteArray := prog_3_method_35_code
def yX1_aheadOf : MethodName := ⟨RX1, "aheadOf", "(I)I"⟩
def RX2 : String := "TilesGoAbout$Hoop"
def TX2 : u_T := fun k => match k with
  | _ => ("", "", "", false)
def tyX2 : Nat → FieldType := fun k => match k with
  | _ => .int
abbrev wsX20 : List Cond := u_ws RX2 TX2 0
theorem nmX2 : ∀ a, a < 0 → ∀ b, b < 0 → a ≠ b → (TX2 a).2.1 ≠ (TX2 b).2.1 := by decide +kernel
theorem tyX2_ok : ∀ k, k < 0 → parseFieldDescriptor (TX2 k).2.2.1 = some (tyX2 k) := by decide +kernel
abbrev cX2_init : ByteArray := prog_4_method_1_code
def yX2_init : MethodName := ⟨RX2, "<init>", "()V"⟩
abbrev cX2_wayFrom : ByteArray := prog_4_method_2_code
def yX2_wayFrom : MethodName := ⟨RX2, "wayFrom", "(IILTilesGoAbout$Hearth;)I"⟩
def RX3 : String := "TilesGoAbout$Letters"
def TX3 : u_T := fun k => match k with
  | 0 => ("TilesGoAbout$Letters", "all", "[I", true)
  | _ => ("TilesGoAbout$Letters", "many", "I", false)
def tyX3 : Nat → FieldType := fun k => match k with
  | 0 => .array .int
  | _ => .int
abbrev wsX30 : List Cond := u_ws RX3 TX3 2
theorem nmX3 : ∀ a, a < 2 → ∀ b, b < 2 → a ≠ b → (TX3 a).2.1 ≠ (TX3 b).2.1 := by decide +kernel
theorem tyX3_ok : ∀ k, k < 2 → parseFieldDescriptor (TX3 k).2.2.1 = some (tyX3 k) := by decide +kernel
abbrev cX3_init : ByteArray := prog_5_method_1_code
def yX3_init : MethodName := ⟨RX3, "<init>", "()V"⟩
abbrev cX3_add : ByteArray := prog_5_method_2_code
def yX3_add : MethodName := ⟨RX3, "add", "(I)I"⟩
abbrev cX3_tellTo : ByteArray := prog_5_method_3_code
def yX3_tellTo : MethodName := ⟨RX3, "tellTo", "(LTilesGoAbout$Hearth;LTilesGoAbout$Hearth;)I"⟩
abbrev cX3_placeOfFormFault : ByteArray := prog_5_method_4_code
def yX3_placeOfFormFault : MethodName := ⟨RX3, "placeOfFormFault", "()I"⟩
abbrev cX3_mayStand : ByteArray := prog_5_method_5_code
def yX3_mayStand : MethodName := ⟨RX3, "mayStand", "(III)Z"⟩
abbrev cX3_lengthOf : ByteArray := prog_5_method_6_code
def yX3_lengthOf : MethodName := ⟨RX3, "lengthOf", "(I)I"⟩
abbrev cX3_kindOfLetter : ByteArray := prog_5_method_7_code
def yX3_kindOfLetter : MethodName := ⟨RX3, "kindOfLetter", "(I)I"⟩
abbrev cX3_tellStatement : ByteArray := prog_5_method_8_code
def yX3_tellStatement : MethodName := ⟨RX3, "tellStatement", "(LTilesGoAbout$Hearth;I)Z"⟩
abbrev cX3_tellLittle : ByteArray := prog_5_method_9_code
def yX3_tellLittle : MethodName := ⟨RX3, "tellLittle", "(LTilesGoAbout$Hearth;III)Z"⟩
abbrev cX3_tellStands : ByteArray := prog_5_method_10_code
def yX3_tellStands : MethodName := ⟨RX3, "tellStands", "(LTilesGoAbout$Hearth;II)Z"⟩
abbrev cX3_tellCrack : ByteArray := prog_5_method_11_code
def yX3_tellCrack : MethodName := ⟨RX3, "tellCrack", "(LTilesGoAbout$Hearth;I)Z"⟩
abbrev cX3_tellShip : ByteArray := prog_5_method_12_code
def yX3_tellShip : MethodName := ⟨RX3, "tellShip", "(LTilesGoAbout$Hearth;I)Z"⟩
abbrev cX3_tellPin : ByteArray := prog_5_method_13_code
def yX3_tellPin : MethodName := ⟨RX3, "tellPin", "(LTilesGoAbout$Hearth;II)Z"⟩
abbrev cX3_tellNights : ByteArray := prog_5_method_14_code
def yX3_tellNights : MethodName := ⟨RX3, "tellNights", "(LTilesGoAbout$Hearth;I)Z"⟩
abbrev cX3_at : ByteArray := prog_5_method_15_code
def yX3_at : MethodName := ⟨RX3, "at", "(I)I"⟩
abbrev cX3_digit : ByteArray := prog_5_method_16_code
def yX3_digit : MethodName := ⟨RX3, "digit", "(I)I"⟩
abbrev cX3_number : ByteArray := prog_5_method_17_code
def yX3_number : MethodName := ⟨RX3, "number", "(I)I"⟩
def RX4 : String := "TilesGoAbout$Mind"
def TX4 : u_T := fun k => match k with
  | 0 => ("TilesGoAbout$Mind", "then", "LTilesGoAbout$Hearth;", true)
  | 1 => ("TilesGoAbout$Mind", "firstHas", "[I", true)
  | 2 => ("TilesGoAbout$Mind", "otherHas", "[I", true)
  | _ => ("TilesGoAbout$Mind", "seed", "I", false)
def tyX4 : Nat → FieldType := fun k => match k with
  | 0 => .object "TilesGoAbout$Hearth"
  | 1 => .array .int
  | 2 => .array .int
  | _ => .int
abbrev wsX40 : List Cond := u_ws RX4 TX4 4
theorem nmX4 : ∀ a, a < 4 → ∀ b, b < 4 → a ≠ b → (TX4 a).2.1 ≠ (TX4 b).2.1 := by decide +kernel
theorem tyX4_ok : ∀ k, k < 4 → parseFieldDescriptor (TX4 k).2.2.1 = some (tyX4 k) := by decide +kernel
abbrev cX4_init : ByteArray := prog_6_method_1_code
def yX4_init : MethodName := ⟨RX4, "<init>", "()V"⟩
abbrev cX4_think : ByteArray := prog_6_method_2_code
def yX4_think : MethodName := ⟨RX4, "think", "(LTilesGoAbout$Hearth;I)V"⟩
abbrev cX4_nextWay : ByteArray := prog_6_method_3_code
def yX4_nextWay : MethodName := ⟨RX4, "nextWay", "(LTilesGoAbout$Hearth;I)I"⟩
abbrev cX4_firstAt : ByteArray := prog_6_method_4_code
def yX4_firstAt : MethodName := ⟨RX4, "firstAt", "(LTilesGoAbout$Hearth;II)I"⟩
abbrev cX4_firstAboard : ByteArray := prog_6_method_5_code
def yX4_firstAboard : MethodName := ⟨RX4, "firstAboard", "(LTilesGoAbout$Hearth;)I"⟩
abbrev cX4_firstAllAboard : ByteArray := prog_6_method_6_code
def yX4_firstAllAboard : MethodName := ⟨RX4, "firstAllAboard", "(LTilesGoAbout$Hearth;)I"⟩
abbrev cX4_firstMeeting : ByteArray := prog_6_method_7_code
def yX4_firstMeeting : MethodName := ⟨RX4, "firstMeeting", "(LTilesGoAbout$Hearth;II)I"⟩
abbrev cX4_firstQuiet : ByteArray := prog_6_method_8_code
def yX4_firstQuiet : MethodName := ⟨RX4, "firstQuiet", "(LTilesGoAbout$Hearth;)I"⟩
abbrev cX4_aboardBehind : ByteArray := prog_6_method_9_code
def yX4_aboardBehind : MethodName := ⟨RX4, "aboardBehind", "(LTilesGoAbout$Hearth;I)I"⟩
abbrev cX4_aboardWithShip : ByteArray := prog_6_method_10_code
def yX4_aboardWithShip : MethodName := ⟨RX4, "aboardWithShip", "(LTilesGoAbout$Hearth;II)I"⟩
abbrev cX4_aboardWithTurnedCrack : ByteArray := prog_6_method_11_code
def yX4_aboardWithTurnedCrack : MethodName := ⟨RX4, "aboardWithTurnedCrack", "(LTilesGoAbout$Hearth;II)I"⟩
abbrev cX4_aboardWithPinned : ByteArray := prog_6_method_12_code
def yX4_aboardWithPinned : MethodName := ⟨RX4, "aboardWithPinned", "(LTilesGoAbout$Hearth;II)I"⟩
abbrev cX4_bestShip : ByteArray := prog_6_method_13_code
def yX4_bestShip : MethodName := ⟨RX4, "bestShip", "(LTilesGoAbout$Hearth;I)I"⟩
abbrev cX4_bestMended : ByteArray := prog_6_method_14_code
def yX4_bestMended : MethodName := ⟨RX4, "bestMended", "(LTilesGoAbout$Hearth;I)I"⟩
abbrev cX4_bestSpoilt : ByteArray := prog_6_method_15_code
def yX4_bestSpoilt : MethodName := ⟨RX4, "bestSpoilt", "(LTilesGoAbout$Hearth;I)I"⟩
abbrev cX4_bestPinned : ByteArray := prog_6_method_16_code
def yX4_bestPinned : MethodName := ⟨RX4, "bestPinned", "(LTilesGoAbout$Hearth;I)I"⟩
abbrev cX4_fewestPinned : ByteArray := prog_6_method_17_code
def yX4_fewestPinned : MethodName := ⟨RX4, "fewestPinned", "(LTilesGoAbout$Hearth;I)I"⟩
abbrev cX4_nobodyAboard : ByteArray := prog_6_method_18_code
def yX4_nobodyAboard : MethodName := ⟨RX4, "nobodyAboard", "(LTilesGoAbout$Hearth;II)Z"⟩
abbrev cX4_soonestAs : ByteArray := prog_6_method_19_code
def yX4_soonestAs : MethodName := ⟨RX4, "soonestAs", "(LTilesGoAbout$Hearth;II)I"⟩
abbrev cX4_soonestKind : ByteArray := prog_6_method_20_code
def yX4_soonestKind : MethodName := ⟨RX4, "soonestKind", "(LTilesGoAbout$Hearth;I)I"⟩
abbrev cX4_firstSettledPair : ByteArray := prog_6_method_21_code
def yX4_firstSettledPair : MethodName := ⟨RX4, "firstSettledPair", "(LTilesGoAbout$Hearth;III)I"⟩
abbrev cX4_worthOf : ByteArray := prog_6_method_22_code
def yX4_worthOf : MethodName := ⟨RX4, "worthOf", "(I)I"⟩
abbrev cX4_coalsAbove : ByteArray := prog_6_method_23_code
def yX4_coalsAbove : MethodName := ⟨RX4, "coalsAbove", "(LTilesGoAbout$Hearth;III)J"⟩
abbrev cX4_winters : ByteArray := prog_6_method_24_code
def yX4_winters : MethodName := ⟨RX4, "winters", "(LTilesGoAbout$Hearth;III)I"⟩
abbrev cX4_draw : ByteArray := prog_6_method_25_code
def yX4_draw : MethodName := ⟨RX4, "draw", "(I)I"⟩
def RX5 : String := "TilesGoAbout$Nobody"
def TX5 : u_T := fun k => match k with
  | _ => ("", "", "", false)
def tyX5 : Nat → FieldType := fun k => match k with
  | _ => .int
abbrev wsX50 : List Cond := u_ws RX5 TX5 0
theorem nmX5 : ∀ a, a < 0 → ∀ b, b < 0 → a ≠ b → (TX5 a).2.1 ≠ (TX5 b).2.1 := by decide +kernel
theorem tyX5_ok : ∀ k, k < 0 → parseFieldDescriptor (TX5 k).2.2.1 = some (tyX5 k) := by decide +kernel
abbrev cX5_init : ByteArray := prog_7_method_1_code
def yX5_init : MethodName := ⟨RX5, "<init>", "()V"⟩
abbrev cX5_wayFrom : ByteArray := prog_7_method_2_code
def yX5_wayFrom : MethodName := ⟨RX5, "wayFrom", "(IILTilesGoAbout$Hearth;)I"⟩
def RX6 : String := "TilesGoAbout$Roads"
def TX6 : u_T := fun k => match k with
  | 0 => ("TilesGoAbout$Roads", "steps", "[I", true)
  | _ => ("TilesGoAbout$Roads", "reached", "[I", true)
def tyX6 : Nat → FieldType := fun k => match k with
  | 0 => .array .int
  | _ => .array .int
abbrev wsX60 : List Cond := u_ws RX6 TX6 2
theorem nmX6 : ∀ a, a < 2 → ∀ b, b < 2 → a ≠ b → (TX6 a).2.1 ≠ (TX6 b).2.1 := by decide +kernel
theorem tyX6_ok : ∀ k, k < 2 → parseFieldDescriptor (TX6 k).2.2.1 = some (tyX6 k) := by decide +kernel
abbrev cX6_init : ByteArray := prog_8_method_1_code
def yX6_init : MethodName := ⟨RX6, "<init>", "()V"⟩
abbrev cX6_between : ByteArray := prog_8_method_2_code
def yX6_between : MethodName := ⟨RX6, "between", "(LTilesGoAbout$Hearth;II)I"⟩
def RX7 : String := "TilesGoAbout$Sailor"
def TX7 : u_T := fun k => match k with
  | _ => ("", "", "", false)
def tyX7 : Nat → FieldType := fun k => match k with
  | _ => .int
abbrev wsX70 : List Cond := u_ws RX7 TX7 0
theorem nmX7 : ∀ a, a < 0 → ∀ b, b < 0 → a ≠ b → (TX7 a).2.1 ≠ (TX7 b).2.1 := by decide +kernel
theorem tyX7_ok : ∀ k, k < 0 → parseFieldDescriptor (TX7 k).2.2.1 = some (tyX7 k) := by decide +kernel
abbrev cX7_init : ByteArray := prog_9_method_1_code
def yX7_init : MethodName := ⟨RX7, "<init>", "()V"⟩
abbrev cX7_wayFrom : ByteArray := prog_9_method_2_code
def yX7_wayFrom : MethodName := ⟨RX7, "wayFrom", "(IILTilesGoAbout$Hearth;)I"⟩
def RX8 : String := "TilesGoAbout$Skater"
def TX8 : u_T := fun k => match k with
  | _ => ("", "", "", false)
def tyX8 : Nat → FieldType := fun k => match k with
  | _ => .int
abbrev wsX80 : List Cond := u_ws RX8 TX8 0
theorem nmX8 : ∀ a, a < 0 → ∀ b, b < 0 → a ≠ b → (TX8 a).2.1 ≠ (TX8 b).2.1 := by decide +kernel
theorem tyX8_ok : ∀ k, k < 0 → parseFieldDescriptor (TX8 k).2.2.1 = some (tyX8 k) := by decide +kernel
abbrev cX8_init : ByteArray := prog_10_method_1_code
def yX8_init : MethodName := ⟨RX8, "<init>", "()V"⟩
abbrev cX8_wayFrom : ByteArray := prog_10_method_2_code
def yX8_wayFrom : MethodName := ⟨RX8, "wayFrom", "(IILTilesGoAbout$Hearth;)I"⟩
def RX9 : String := "TilesGoAbout$Wife"
def TX9 : u_T := fun k => match k with
  | _ => ("", "", "", false)
def tyX9 : Nat → FieldType := fun k => match k with
  | _ => .int
abbrev wsX90 : List Cond := u_ws RX9 TX9 0
theorem nmX9 : ∀ a, a < 0 → ∀ b, b < 0 → a ≠ b → (TX9 a).2.1 ≠ (TX9 b).2.1 := by decide +kernel
theorem tyX9_ok : ∀ k, k < 0 → parseFieldDescriptor (TX9 k).2.2.1 = some (tyX9 k) := by decide +kernel
abbrev cX9_init : ByteArray := prog_11_method_1_code
def yX9_init : MethodName := ⟨RX9, "<init>", "()V"⟩
abbrev cX9_wayFrom : ByteArray := prog_11_method_2_code
def yX9_wayFrom : MethodName := ⟨RX9, "wayFrom", "(IILTilesGoAbout$Hearth;)I"⟩
def RX10 : String := "TilesGoAbout"
def TX10 : u_T := fun k => match k with
  | 0 => ("TilesGoAbout", "now", "LTilesGoAbout$Hearth;", true)
  | 1 => ("TilesGoAbout", "picture", "LTilesGoAbout$Hearth;", true)
  | 2 => ("TilesGoAbout", "pictured", "Z", false)
  | 3 => ("TilesGoAbout", "mind", "LTilesGoAbout$Mind;", true)
  | 4 => ("TilesGoAbout", "roads", "LTilesGoAbout$Roads;", true)
  | 5 => ("TilesGoAbout", "letters", "LTilesGoAbout$Letters;", true)
  | 6 => ("TilesGoAbout", "told", "[I", true)
  | 7 => ("TilesGoAbout", "toldMany", "I", false)
  | _ => ("TilesGoAbout", "refusals", "[I", true)
def tyX10 : Nat → FieldType := fun k => match k with
  | 0 => .object "TilesGoAbout$Hearth"
  | 1 => .object "TilesGoAbout$Hearth"
  | 2 => .boolean
  | 3 => .object "TilesGoAbout$Mind"
  | 4 => .object "TilesGoAbout$Roads"
  | 5 => .object "TilesGoAbout$Letters"
  | 6 => .array .int
  | 7 => .int
  | _ => .array .int
abbrev wsX100 : List Cond := u_ws RX10 TX10 9
theorem nmX10 : ∀ a, a < 9 → ∀ b, b < 9 → a ≠ b → (TX10 a).2.1 ≠ (TX10 b).2.1 := by decide +kernel
theorem tyX10_ok : ∀ k, k < 9 → parseFieldDescriptor (TX10 k).2.2.1 = some (tyX10 k) := by decide +kernel
abbrev cX10_init : ByteArray := prog_1_method_1_code
def yX10_init : MethodName := ⟨RX10, "<init>", "()V"⟩
abbrev cX10_letter : ByteArray := prog_1_method_2_code
def yX10_letter : MethodName := ⟨RX10, "letter", "(I)I"⟩
abbrev cX10_chimney : ByteArray := prog_1_method_3_code
def yX10_chimney : MethodName := ⟨RX10, "chimney", "()I"⟩
abbrev cX10_little : ByteArray := prog_1_method_4_code
def yX10_little : MethodName := ⟨RX10, "little", "(II)I"⟩
abbrev cX10_tile : ByteArray := prog_1_method_5_code
def yX10_tile : MethodName := ⟨RX10, "tile", "(II)I"⟩
abbrev cX10_comesIn : ByteArray := prog_1_method_6_code
def yX10_comesIn : MethodName := ⟨RX10, "comesIn", "(III)I"⟩
abbrev cX10_stands : ByteArray := prog_1_method_7_code
def yX10_stands : MethodName := ⟨RX10, "stands", "(II)I"⟩
abbrev cX10_cracks : ByteArray := prog_1_method_8_code
def yX10_cracks : MethodName := ⟨RX10, "cracks", "(I)I"⟩
abbrev cX10_ship : ByteArray := prog_1_method_9_code
def yX10_ship : MethodName := ⟨RX10, "ship", "(I)I"⟩
abbrev cX10_pins : ByteArray := prog_1_method_10_code
def yX10_pins : MethodName := ⟨RX10, "pins", "(II)I"⟩
abbrev cX10_turn : ByteArray := prog_1_method_11_code
def yX10_turn : MethodName := ⟨RX10, "turn", "(III)I"⟩
abbrev cX10_nights : ByteArray := prog_1_method_12_code
def yX10_nights : MethodName := ⟨RX10, "nights", "(I)I"⟩
abbrev cX10_oneThen : ByteArray := prog_1_method_13_code
def yX10_oneThen : MethodName := ⟨RX10, "oneThen", "(III)I"⟩
abbrev cX10_aboard : ByteArray := prog_1_method_14_code
def yX10_aboard : MethodName := ⟨RX10, "aboard", "(I)I"⟩
abbrev cX10_comes : ByteArray := prog_1_method_15_code
def yX10_comes : MethodName := ⟨RX10, "comes", "(II)I"⟩
abbrev cX10_sails : ByteArray := prog_1_method_16_code
def yX10_sails : MethodName := ⟨RX10, "sails", "(I)I"⟩
abbrev cX10_meets : ByteArray := prog_1_method_17_code
def yX10_meets : MethodName := ⟨RX10, "meets", "(II)I"⟩
abbrev cX10_still : ByteArray := prog_1_method_18_code
def yX10_still : MethodName := ⟨RX10, "still", "()I"⟩
abbrev cX10_far : ByteArray := prog_1_method_19_code
def yX10_far : MethodName := ⟨RX10, "far", "(II)I"⟩
abbrev cX10_cutOff : ByteArray := prog_1_method_20_code
def yX10_cutOff : MethodName := ⟨RX10, "cutOff", "()I"⟩
abbrev cX10_shipBest : ByteArray := prog_1_method_21_code
def yX10_shipBest : MethodName := ⟨RX10, "shipBest", "(II)I"⟩
abbrev cX10_mend : ByteArray := prog_1_method_22_code
def yX10_mend : MethodName := ⟨RX10, "mend", "(II)I"⟩
abbrev cX10_pin : ByteArray := prog_1_method_23_code
def yX10_pin : MethodName := ⟨RX10, "pin", "(I)I"⟩
abbrev cX10_fewest : ByteArray := prog_1_method_24_code
def yX10_fewest : MethodName := ⟨RX10, "fewest", "(I)I"⟩
abbrev cX10_bestKind : ByteArray := prog_1_method_25_code
def yX10_bestKind : MethodName := ⟨RX10, "bestKind", "(II)I"⟩
abbrev cX10_crowd : ByteArray := prog_1_method_26_code
def yX10_crowd : MethodName := ⟨RX10, "crowd", "(I)I"⟩
abbrev cX10_farthest : ByteArray := prog_1_method_27_code
def yX10_farthest : MethodName := ⟨RX10, "farthest", "(I)I"⟩
abbrev cX10_order : ByteArray := prog_1_method_28_code
def yX10_order : MethodName := ⟨RX10, "order", "(I)I"⟩
abbrev cX10_two : ByteArray := prog_1_method_29_code
def yX10_two : MethodName := ⟨RX10, "two", "(III)I"⟩
abbrev cX10_coals : ByteArray := prog_1_method_30_code
def yX10_coals : MethodName := ⟨RX10, "coals", "(IIII)J"⟩
abbrev cX10_mean : ByteArray := prog_1_method_31_code
def yX10_mean : MethodName := ⟨RX10, "mean", "(I)J"⟩
abbrev cX10_whatIs : ByteArray := prog_1_method_32_code
def yX10_whatIs : MethodName := ⟨RX10, "whatIs", "(II)I"⟩
abbrev cX10_goesAsTold : ByteArray := prog_1_method_33_code
def yX10_goesAsTold : MethodName := ⟨RX10, "goesAsTold", "(III)Z"⟩
abbrev cX10_row : ByteArray := prog_1_method_34_code
def yX10_row : MethodName := ⟨RX10, "row", "(I)I"⟩
abbrev cX10_judge : ByteArray := prog_1_method_35_code
def yX10_judge : MethodName := ⟨RX10, "judge", "()I"⟩
abbrev cX10_clear : ByteArray := prog_1_method_36_code
def yX10_clear : MethodName := ⟨RX10, "clear", "()I"⟩
abbrev cX10_lots : ByteArray := prog_1_method_37_code
def yX10_lots : MethodName := ⟨RX10, "lots", "(III)I"⟩
abbrev cX10_image : ByteArray := prog_1_method_38_code
def yX10_image : MethodName := ⟨RX10, "image", "()I"⟩
abbrev cX10_on : ByteArray := prog_1_method_39_code
def yX10_on : MethodName := ⟨RX10, "on", "()I"⟩
abbrev cX10_count : ByteArray := prog_1_method_40_code
def yX10_count : MethodName := ⟨RX10, "count", "(I)I"⟩
abbrev cX10_refuse : ByteArray := prog_1_method_41_code
def yX10_refuse : MethodName := ⟨RX10, "refuse", "(I)I"⟩
abbrev cX10_refuseLong : ByteArray := prog_1_method_42_code
def yX10_refuseLong : MethodName := ⟨RX10, "refuseLong", "(I)J"⟩
abbrev cX10_belowOrRoom : ByteArray := prog_1_method_43_code
def yX10_belowOrRoom : MethodName := ⟨RX10, "belowOrRoom", "(I)I"⟩
abbrev cX10_isUpTo : ByteArray := prog_1_method_44_code
def yX10_isUpTo : MethodName := ⟨RX10, "isUpTo", "(II)Z"⟩
abbrev cX10_isTile : ByteArray := prog_1_method_45_code
def yX10_isTile : MethodName := ⟨RX10, "isTile", "(I)Z"⟩
abbrev cX10_besideOf : ByteArray := prog_1_method_46_code
def yX10_besideOf : MethodName := ⟨RX10, "besideOf", "(II)I"⟩
abbrev cX10_rowsAndColumns : ByteArray := prog_1_method_47_code
def yX10_rowsAndColumns : MethodName := ⟨RX10, "rowsAndColumns", "(II)I"⟩
abbrev cX10_power : ByteArray := prog_1_method_48_code
def yX10_power : MethodName := ⟨RX10, "power", "(II)J"⟩
abbrev cX10_partOf : ByteArray := prog_1_method_49_code
def yX10_partOf : MethodName := ⟨RX10, "partOf", "(JJI)J"⟩
abbrev cX10_commonDivisor : ByteArray := prog_1_method_50_code
def yX10_commonDivisor : MethodName := ⟨RX10, "commonDivisor", "(JJ)J"⟩
def RX11 : String := "TilesGoAboutModel"
def TX11 : u_T := fun k => match k with
  | 0 => ("TilesGoAboutModel", "refused", "[I", true)
  | 1 => ("TilesGoAboutModel", "kind", "[I", true)
  | 2 => ("TilesGoAboutModel", "figure", "[I", true)
  | 3 => ("TilesGoAboutModel", "home", "[I", true)
  | 4 => ("TilesGoAboutModel", "at", "[I", true)
  | 5 => ("TilesGoAboutModel", "pinned", "[I", true)
  | 6 => ("TilesGoAboutModel", "cracked", "I", false)
  | 7 => ("TilesGoAboutModel", "ship", "I", false)
  | 8 => ("TilesGoAboutModel", "ones", "I", false)
  | 9 => ("TilesGoAboutModel", "night", "I", false)
  | 10 => ("TilesGoAboutModel", "tape", "[I", true)
  | 11 => ("TilesGoAboutModel", "letter", "[I", true)
  | 12 => ("TilesGoAboutModel", "letterAt", "[I", true)
  | 13 => ("TilesGoAboutModel", "told", "[I", true)
  | 14 => ("TilesGoAboutModel", "taped", "I", false)
  | 15 => ("TilesGoAboutModel", "reading", "I", false)
  | 16 => ("TilesGoAboutModel", "statements", "I", false)
  | 17 => ("TilesGoAboutModel", "kept", "[I", true)
  | 18 => ("TilesGoAboutModel", "hasImage", "Z", false)
  | 19 => ("TilesGoAboutModel", "isKeeping", "Z", false)
  | 20 => ("TilesGoAboutModel", "cursor", "I", false)
  | 21 => ("TilesGoAboutModel", "moved", "I", false)
  | 22 => ("TilesGoAboutModel", "ends", "[I", true)
  | 23 => ("TilesGoAboutModel", "row", "[I", true)
  | 24 => ("TilesGoAboutModel", "rowMany", "I", false)
  | _ => ("TilesGoAboutModel", "lots", "I", false)
def tyX11 : Nat → FieldType := fun k => match k with
  | 0 => .array .int
  | 1 => .array .int
  | 2 => .array .int
  | 3 => .array .int
  | 4 => .array .int
  | 5 => .array .int
  | 6 => .int
  | 7 => .int
  | 8 => .int
  | 9 => .int
  | 10 => .array .int
  | 11 => .array .int
  | 12 => .array .int
  | 13 => .array .int
  | 14 => .int
  | 15 => .int
  | 16 => .int
  | 17 => .array .int
  | 18 => .boolean
  | 19 => .boolean
  | 20 => .int
  | 21 => .int
  | 22 => .array .int
  | 23 => .array .int
  | 24 => .int
  | _ => .int
abbrev wsX110 : List Cond := u_ws RX11 TX11 26
theorem nmX11 : ∀ a, a < 26 → ∀ b, b < 26 → a ≠ b → (TX11 a).2.1 ≠ (TX11 b).2.1 := by decide +kernel
theorem tyX11_ok : ∀ k, k < 26 → parseFieldDescriptor (TX11 k).2.2.1 = some (tyX11 k) := by decide +kernel
abbrev cX11_init : ByteArray := prog_13_method_1_code
def yX11_init : MethodName := ⟨RX11, "<init>", "()V"⟩
abbrev cX11_no : ByteArray := prog_13_method_2_code
def yX11_no : MethodName := ⟨RX11, "no", "(I)I"⟩
abbrev cX11_lowestOf : ByteArray := prog_13_method_3_code
def yX11_lowestOf : MethodName := ⟨RX11, "lowestOf", "(I)J"⟩
abbrev cX11_isIn : ByteArray := prog_13_method_4_code
def yX11_isIn : MethodName := ⟨RX11, "isIn", "(III)Z"⟩
abbrev cX11_bound : ByteArray := prog_13_method_5_code
def yX11_bound : MethodName := ⟨RX11, "bound", "(III)I"⟩
abbrev cX11_size : ByteArray := prog_13_method_6_code
def yX11_size : MethodName := ⟨RX11, "size", "(I)I"⟩
abbrev cX11_has : ByteArray := prog_13_method_7_code
def yX11_has : MethodName := ⟨RX11, "has", "(II)Z"⟩
abbrev cX11_bits : ByteArray := prog_13_method_8_code
def yX11_bits : MethodName := ⟨RX11, "bits", "(I)I"⟩
abbrev cX11_isTile : ByteArray := prog_13_method_9_code
def yX11_isTile : MethodName := ⟨RX11, "isTile", "(I)Z"⟩
abbrev cX11_isOne : ByteArray := prog_13_method_10_code
def yX11_isOne : MethodName := ⟨RX11, "isOne", "(I)Z"⟩
abbrev cX11_letter : ByteArray := prog_13_method_11_code
def yX11_letter : MethodName := ⟨RX11, "letter", "(I)I"⟩
abbrev cX11_letterNow : ByteArray := prog_13_method_12_code
def yX11_letterNow : MethodName := ⟨RX11, "letterNow", "()I"⟩
abbrev cX11_readsDigits : ByteArray := prog_13_method_13_code
def yX11_readsDigits : MethodName := ⟨RX11, "readsDigits", "(II)Z"⟩
abbrev cX11_kindOf : ByteArray := prog_13_method_14_code
def yX11_kindOf : MethodName := ⟨RX11, "kindOf", "(I)I"⟩
abbrev cX11_readsLittle : ByteArray := prog_13_method_15_code
def yX11_readsLittle : MethodName := ⟨RX11, "readsLittle", "(I)Z"⟩
abbrev cX11_readsAll : ByteArray := prog_13_method_16_code
def yX11_readsAll : MethodName := ⟨RX11, "readsAll", "(II)Z"⟩
abbrev cX11_statement : ByteArray := prog_13_method_17_code
def yX11_statement : MethodName := ⟨RX11, "statement", "()Z"⟩
abbrev cX11_comesLittle : ByteArray := prog_13_method_18_code
def yX11_comesLittle : MethodName := ⟨RX11, "comesLittle", "(I)Z"⟩
abbrev cX11_comesOf : ByteArray := prog_13_method_19_code
def yX11_comesOf : MethodName := ⟨RX11, "comesOf", "(III)Z"⟩
abbrev cX11_comesTile : ByteArray := prog_13_method_20_code
def yX11_comesTile : MethodName := ⟨RX11, "comesTile", "(II)Z"⟩
abbrev cX11_comesNights : ByteArray := prog_13_method_21_code
def yX11_comesNights : MethodName := ⟨RX11, "comesNights", "(I)Z"⟩
abbrev cX11_comesTold : ByteArray := prog_13_method_22_code
def yX11_comesTold : MethodName := ⟨RX11, "comesTold", "(I)Z"⟩
abbrev cX11_chimney : ByteArray := prog_13_method_23_code
def yX11_chimney : MethodName := ⟨RX11, "chimney", "()I"⟩
abbrev cX11_passes : ByteArray := prog_13_method_24_code
def yX11_passes : MethodName := ⟨RX11, "passes", "([I)V"⟩
abbrev cX11_passOne : ByteArray := prog_13_method_25_code
def yX11_passOne : MethodName := ⟨RX11, "passOne", "(I)I"⟩
abbrev cX11_passesAll : ByteArray := prog_13_method_26_code
def yX11_passesAll : MethodName := ⟨RX11, "passesAll", "(IZ)V"⟩
abbrev cX11_thinks : ByteArray := prog_13_method_27_code
def yX11_thinks : MethodName := ⟨RX11, "thinks", "()V"⟩
abbrev cX11_forgets : ByteArray := prog_13_method_28_code
def yX11_forgets : MethodName := ⟨RX11, "forgets", "()V"⟩
abbrev cX11_changes : ByteArray := prog_13_method_29_code
def yX11_changes : MethodName := ⟨RX11, "changes", "()V"⟩
abbrev cX11_changesBack : ByteArray := prog_13_method_30_code
def yX11_changesBack : MethodName := ⟨RX11, "changesBack", "()V"⟩
abbrev cX11_image : ByteArray := prog_13_method_31_code
def yX11_image : MethodName := ⟨RX11, "image", "()I"⟩
abbrev cX11_on : ByteArray := prog_13_method_32_code
def yX11_on : MethodName := ⟨RX11, "on", "()I"⟩
abbrev cX11_addsOne : ByteArray := prog_13_method_33_code
def yX11_addsOne : MethodName := ⟨RX11, "addsOne", "(III)V"⟩
abbrev cX11_pinsOne : ByteArray := prog_13_method_34_code
def yX11_pinsOne : MethodName := ⟨RX11, "pinsOne", "(II)V"⟩
abbrev cX11_beyond : ByteArray := prog_13_method_35_code
def yX11_beyond : MethodName := ⟨RX11, "beyond", "(II)I"⟩
abbrev cX11_apart : ByteArray := prog_13_method_36_code
def yX11_apart : MethodName := ⟨RX11, "apart", "(II)I"⟩
abbrev cX11_isAboard : ByteArray := prog_13_method_37_code
def yX11_isAboard : MethodName := ⟨RX11, "isAboard", "(I)Z"⟩
abbrev cX11_toShip : ByteArray := prog_13_method_38_code
def yX11_toShip : MethodName := ⟨RX11, "toShip", "(I)I"⟩
abbrev cX11_areOthersAboard : ByteArray := prog_13_method_39_code
def yX11_areOthersAboard : MethodName := ⟨RX11, "areOthersAboard", "(I)Z"⟩
abbrev cX11_skaterWay : ByteArray := prog_13_method_40_code
def yX11_skaterWay : MethodName := ⟨RX11, "skaterWay", "(I)I"⟩
abbrev cX11_wifeWay : ByteArray := prog_13_method_41_code
def yX11_wifeWay : MethodName := ⟨RX11, "wifeWay", "(II)I"⟩
abbrev cX11_wayOf : ByteArray := prog_13_method_42_code
def yX11_wayOf : MethodName := ⟨RX11, "wayOf", "(II)I"⟩
abbrev cX11_manyOn : ByteArray := prog_13_method_43_code
def yX11_manyOn : MethodName := ⟨RX11, "manyOn", "(I)I"⟩
abbrev cX11_goesOne : ByteArray := prog_13_method_44_code
def yX11_goesOne : MethodName := ⟨RX11, "goesOne", "(I)V"⟩
abbrev cX11_goesNight : ByteArray := prog_13_method_45_code
def yX11_goesNight : MethodName := ⟨RX11, "goesNight", "()V"⟩
abbrev cX11_goes : ByteArray := prog_13_method_46_code
def yX11_goes : MethodName := ⟨RX11, "goes", "(I)V"⟩
abbrev cX11_aboardNow : ByteArray := prog_13_method_47_code
def yX11_aboardNow : MethodName := ⟨RX11, "aboardNow", "()I"⟩
abbrev cX11_thoseOn : ByteArray := prog_13_method_48_code
def yX11_thoseOn : MethodName := ⟨RX11, "thoseOn", "(I)I"⟩
abbrev cX11_little : ByteArray := prog_13_method_49_code
def yX11_little : MethodName := ⟨RX11, "little", "(II)I"⟩
abbrev cX11_tile : ByteArray := prog_13_method_50_code
def yX11_tile : MethodName := ⟨RX11, "tile", "(II)I"⟩
abbrev cX11_comesIn : ByteArray := prog_13_method_51_code
def yX11_comesIn : MethodName := ⟨RX11, "comesIn", "(III)I"⟩
abbrev cX11_stands : ByteArray := prog_13_method_52_code
def yX11_stands : MethodName := ⟨RX11, "stands", "(II)I"⟩
abbrev cX11_cracks : ByteArray := prog_13_method_53_code
def yX11_cracks : MethodName := ⟨RX11, "cracks", "(I)I"⟩
abbrev cX11_ship : ByteArray := prog_13_method_54_code
def yX11_ship : MethodName := ⟨RX11, "ship", "(I)I"⟩
abbrev cX11_pins : ByteArray := prog_13_method_55_code
def yX11_pins : MethodName := ⟨RX11, "pins", "(II)I"⟩
abbrev cX11_turn : ByteArray := prog_13_method_56_code
def yX11_turn : MethodName := ⟨RX11, "turn", "(III)I"⟩
abbrev cX11_nights : ByteArray := prog_13_method_57_code
def yX11_nights : MethodName := ⟨RX11, "nights", "(I)I"⟩
abbrev cX11_oneThen : ByteArray := prog_13_method_58_code
def yX11_oneThen : MethodName := ⟨RX11, "oneThen", "(III)I"⟩
abbrev cX11_aboardIn : ByteArray := prog_13_method_59_code
def yX11_aboardIn : MethodName := ⟨RX11, "aboardIn", "(I)I"⟩
abbrev cX11_aboard : ByteArray := prog_13_method_60_code
def yX11_aboard : MethodName := ⟨RX11, "aboard", "(I)I"⟩
abbrev cX11_comesWhen : ByteArray := prog_13_method_61_code
def yX11_comesWhen : MethodName := ⟨RX11, "comesWhen", "(II)I"⟩
abbrev cX11_comes : ByteArray := prog_13_method_62_code
def yX11_comes : MethodName := ⟨RX11, "comes", "(II)I"⟩
abbrev cX11_firstAboard : ByteArray := prog_13_method_63_code
def yX11_firstAboard : MethodName := ⟨RX11, "firstAboard", "()I"⟩
abbrev cX11_allAboard : ByteArray := prog_13_method_64_code
def yX11_allAboard : MethodName := ⟨RX11, "allAboard", "()I"⟩
abbrev cX11_sails : ByteArray := prog_13_method_65_code
def yX11_sails : MethodName := ⟨RX11, "sails", "(I)I"⟩
abbrev cX11_meets : ByteArray := prog_13_method_66_code
def yX11_meets : MethodName := ⟨RX11, "meets", "(II)I"⟩
abbrev cX11_still : ByteArray := prog_13_method_67_code
def yX11_still : MethodName := ⟨RX11, "still", "()I"⟩
abbrev cX11_spreadFrom : ByteArray := prog_13_method_68_code
def yX11_spreadFrom : MethodName := ⟨RX11, "spreadFrom", "(I)I"⟩
abbrev cX11_farFrom : ByteArray := prog_13_method_69_code
def yX11_farFrom : MethodName := ⟨RX11, "farFrom", "(II)I"⟩
abbrev cX11_far : ByteArray := prog_13_method_70_code
def yX11_far : MethodName := ⟨RX11, "far", "(II)I"⟩
abbrev cX11_cutOff : ByteArray := prog_13_method_71_code
def yX11_cutOff : MethodName := ⟨RX11, "cutOff", "()I"⟩
abbrev cX11_manyAboardIn : ByteArray := prog_13_method_72_code
def yX11_manyAboardIn : MethodName := ⟨RX11, "manyAboardIn", "(I)I"⟩
abbrev cX11_shipBest : ByteArray := prog_13_method_73_code
def yX11_shipBest : MethodName := ⟨RX11, "shipBest", "(II)I"⟩
abbrev cX11_mend : ByteArray := prog_13_method_74_code
def yX11_mend : MethodName := ⟨RX11, "mend", "(II)I"⟩
abbrev cX11_pin : ByteArray := prog_13_method_75_code
def yX11_pin : MethodName := ⟨RX11, "pin", "(I)I"⟩
abbrev cX11_isEmptyTo : ByteArray := prog_13_method_76_code
def yX11_isEmptyTo : MethodName := ⟨RX11, "isEmptyTo", "(I)Z"⟩
abbrev cX11_isEmptyBy : ByteArray := prog_13_method_77_code
def yX11_isEmptyBy : MethodName := ⟨RX11, "isEmptyBy", "(II)Z"⟩
abbrev cX11_fewest : ByteArray := prog_13_method_78_code
def yX11_fewest : MethodName := ⟨RX11, "fewest", "(I)I"⟩
abbrev cX11_bestKind : ByteArray := prog_13_method_79_code
def yX11_bestKind : MethodName := ⟨RX11, "bestKind", "(II)I"⟩
abbrev cX11_crowded : ByteArray := prog_13_method_80_code
def yX11_crowded : MethodName := ⟨RX11, "crowded", "()I"⟩
abbrev cX11_homesNow : ByteArray := prog_13_method_81_code
def yX11_homesNow : MethodName := ⟨RX11, "homesNow", "()I"⟩
abbrev cX11_lostHomes : ByteArray := prog_13_method_82_code
def yX11_lostHomes : MethodName := ⟨RX11, "lostHomes", "()I"⟩
abbrev cX11_pinnedNow : ByteArray := prog_13_method_83_code
def yX11_pinnedNow : MethodName := ⟨RX11, "pinnedNow", "()I"⟩
abbrev cX11_besideNow : ByteArray := prog_13_method_84_code
def yX11_besideNow : MethodName := ⟨RX11, "besideNow", "()I"⟩
abbrev cX11_emptyTiles : ByteArray := prog_13_method_85_code
def yX11_emptyTiles : MethodName := ⟨RX11, "emptyTiles", "()I"⟩
abbrev cX11_crowd : ByteArray := prog_13_method_86_code
def yX11_crowd : MethodName := ⟨RX11, "crowd", "(I)I"⟩
abbrev cX11_fromHome : ByteArray := prog_13_method_87_code
def yX11_fromHome : MethodName := ⟨RX11, "fromHome", "(I)I"⟩
abbrev cX11_farthest : ByteArray := prog_13_method_88_code
def yX11_farthest : MethodName := ⟨RX11, "farthest", "(I)I"⟩
abbrev cX11_aheadOf : ByteArray := prog_13_method_89_code
def yX11_aheadOf : MethodName := ⟨RX11, "aheadOf", "(I)I"⟩
abbrev cX11_order : ByteArray := prog_13_method_90_code
def yX11_order : MethodName := ⟨RX11, "order", "(I)I"⟩
abbrev cX11_endOf : ByteArray := prog_13_method_91_code
def yX11_endOf : MethodName := ⟨RX11, "endOf", "(I)I"⟩
abbrev cX11_findEnds : ByteArray := prog_13_method_92_code
def yX11_findEnds : MethodName := ⟨RX11, "findEnds", "(III)V"⟩
abbrev cX11_two : ByteArray := prog_13_method_93_code
def yX11_two : MethodName := ⟨RX11, "two", "(III)I"⟩
abbrev cX11_divisor : ByteArray := prog_13_method_94_code
def yX11_divisor : MethodName := ⟨RX11, "divisor", "(JJ)J"⟩
abbrev cX11_partOf : ByteArray := prog_13_method_95_code
def yX11_partOf : MethodName := ⟨RX11, "partOf", "(JJI)J"⟩
abbrev cX11_goesByCoals : ByteArray := prog_13_method_96_code
def yX11_goesByCoals : MethodName := ⟨RX11, "goesByCoals", "(Z)V"⟩
abbrev cX11_coals : ByteArray := prog_13_method_97_code
def yX11_coals : MethodName := ⟨RX11, "coals", "(IIII)J"⟩
abbrev cX11_mean : ByteArray := prog_13_method_98_code
def yX11_mean : MethodName := ⟨RX11, "mean", "(I)J"⟩
abbrev cX11_isSo : ByteArray := prog_13_method_99_code
def yX11_isSo : MethodName := ⟨RX11, "isSo", "(I)Z"⟩
abbrev cX11_bitsFor : ByteArray := prog_13_method_100_code
def yX11_bitsFor : MethodName := ⟨RX11, "bitsFor", "([III)I"⟩
abbrev cX11_whatIs : ByteArray := prog_13_method_101_code
def yX11_whatIs : MethodName := ⟨RX11, "whatIs", "(II)I"⟩
abbrev cX11_row : ByteArray := prog_13_method_102_code
def yX11_row : MethodName := ⟨RX11, "row", "(I)I"⟩
abbrev cX11_judge : ByteArray := prog_13_method_103_code
def yX11_judge : MethodName := ⟨RX11, "judge", "()I"⟩
abbrev cX11_clear : ByteArray := prog_13_method_104_code
def yX11_clear : MethodName := ⟨RX11, "clear", "()I"⟩
abbrev cX11_draw : ByteArray := prog_13_method_105_code
def yX11_draw : MethodName := ⟨RX11, "draw", "(I)I"⟩
abbrev cX11_lots : ByteArray := prog_13_method_106_code
def yX11_lots : MethodName := ⟨RX11, "lots", "(III)I"⟩
abbrev cX11_count : ByteArray := prog_13_method_107_code
def yX11_count : MethodName := ⟨RX11, "count", "(I)I"⟩
def RJ6 : String := "java/lang/Integer"
abbrev cJ6_bitCount_0f7a4 : ByteArray := prog_14_method_49_code
def yJ6_bitCount_0f7a4 : MethodName := ⟨RJ6, "bitCount", "(I)I"⟩
def RJ9 : String := "java/lang/Math"
abbrev cJ9_abs_0f7a4 : ByteArray := prog_15_method_59_code
def yJ9_abs_0f7a4 : MethodName := ⟨RJ9, "abs", "(I)I"⟩
def RL : String := "TilesGoAboutLaw"
abbrev cL_law : ByteArray := code
def yL_law : MethodName := ⟨RL, "law", "([I)Z"⟩
abbrev vwCl : List vw_C := [(RX0, TX0, 0), (RX1, TX1, 15), (RX2, TX2, 0), (RX3, TX3, 2), (RX4, TX4, 4), (RX5, TX5, 0), (RX6, TX6, 2), (RX7, TX7, 0), (RX8, TX8, 0), (RX9, TX9, 0), (RX10, TX10, 9), (RX11, TX11, 26)]
end
section
/-! A small abstract machine over the kit: a world is two lists of cells (the class's, the reference's), a cell's number tells its address. -/
abbrev tg_Cl : Type := (Nat × List Value) ⊕ (Nat × (Nat → Int32))
abbrev tg_W : Type := List tg_Cl × List tg_Cl
/-- first address, the script's address, length and values, the table's address, the classes' numbers and places, the class of int[] -/
abbrev tg_G : Type := Nat × Nat × Nat × (Nat → Int32) × Nat × va_G × ClassId
def tg_ad (G : tg_G) (k : Nat) : Nat := bif Nat.blt k 64 then G.1 + k else bif Nat.beq k 1000 then G.2.1 else bif Nat.beq k 1001 then G.2.2.2.2.1 else G.1 + 47 + (k - 64)
def tg_v (G : tg_G) : Value → Value
  | .ref k => .ref (tg_ad G k)
  | v => v
def tg_c (G : tg_G) : tg_Cl → va_E
  | .inl o => .inr (o.1, o.2.map (tg_v G))
  | .inr a => .inl (G.2.2.2.2.2.2, a.1, .inl a.2)
def tg_l (G : tg_G) : Nat → List tg_Cl → va_W
  | _, [] => []
  | k, c :: r => (tg_ad G k, tg_c G c) :: tg_l G (k + 1) r
def tg_ws (G : tg_G) (w : tg_W) : va_W := tg_l G 0 w.1 ++ tg_l G 64 w.2
def tg_nth {α : Type} : List α → Nat → Option α
  | [], _ => none
  | c :: _, 0 => some c
  | _ :: r, k + 1 => tg_nth r k
def tg_setn {α : Type} : List α → Nat → α → List α
  | [], _, _ => []
  | _ :: r, 0, c => c :: r
  | x :: r, k + 1, c => x :: tg_setn r k c
def tg_lk (w : tg_W) (k : Nat) : Option tg_Cl := bif Nat.blt k 64 then tg_nth w.1 k else tg_nth w.2 (k - 64)
def tg_up (w : tg_W) (k : Nat) (c : tg_Cl) : tg_W := bif Nat.blt k 64 then (tg_setn w.1 k c, w.2) else (w.1, tg_setn w.2 (k - 64) c)
def tg_pc (w : tg_W) (k : Nat) : Nat := bif Nat.blt k 64 then k else w.1.length + (k - 64)
theorem tg_nth_eq {α : Type} (l : List α) (k : Nat) : tg_nth l k = l[k]? := by
  induction l generalizing k with
  | nil => simp [tg_nth]
  | cons c r ih => cases k with
    | zero => simp [tg_nth]
    | succ k => simp [tg_nth, ih]
theorem tg_setn_eq {α : Type} (l : List α) (k : Nat) (c : α) : tg_setn l k c = l.set k c := by
  induction l generalizing k with
  | nil => simp [tg_setn]
  | cons x r ih => cases k with
    | zero => simp [tg_setn]
    | succ k => simp [tg_setn, ih]
theorem tg_l_get (G : tg_G) (l : List tg_Cl) : ∀ (k j : Nat), (tg_l G k l)[j]? = (l[j]?).map (fun c => (tg_ad G (k + j), tg_c G c)) := by
  induction l with
  | nil => intro k j; simp [tg_l]
  | cons c r ih =>
    intro k j
    cases j with
    | zero => simp [tg_l]
    | succ j =>
      simp only [tg_l, List.getElem?_cons_succ, ih]
      rw [show k + 1 + j = k + (j + 1) by omega]
theorem tg_l_len (G : tg_G) (l : List tg_Cl) : ∀ k : Nat, (tg_l G k l).length = l.length := by
  induction l with
  | nil => intro k; rfl
  | cons c r ih => intro k; simp [tg_l, ih]
theorem tg_l_set (G : tg_G) (l : List tg_Cl) (c : tg_Cl) : ∀ (k j : Nat), tg_l G k (l.set j c) = (tg_l G k l).set j (tg_ad G (k + j), tg_c G c) := by
  induction l with
  | nil => intro k j; rfl
  | cons x r ih =>
    intro k j
    cases j with
    | zero => simp [tg_l]
    | succ j =>
      simp only [tg_l, List.set_cons_succ, ih]
      rw [show k + 1 + j = k + (j + 1) by omega]
theorem tg_lk_ws {G : tg_G} {w : tg_W} {k : Nat} {c : tg_Cl} (h : tg_lk w k = some c) : (tg_ws G w)[tg_pc w k]? = some (tg_ad G k, tg_c G c) := by
  unfold tg_lk at h
  unfold tg_ws tg_pc
  cases hb : Nat.blt k 64 with
  | true =>
    rw [hb] at h
    simp only [cond_true] at h ⊢
    rw [tg_nth_eq] at h
    have hl := (List.getElem?_eq_some_iff.mp h).1
    rw [List.getElem?_append_left (by rw [tg_l_len]; exact hl), tg_l_get, h]
    simp
  | false =>
    rw [hb] at h
    simp only [cond_false] at h ⊢
    rw [tg_nth_eq] at h
    have hk : 64 ≤ k := by
      rcases Nat.lt_or_ge k 64 with q | q
      · rw [show Nat.blt k 64 = true from (by simp only [Nat.blt_eq]; exact q)] at hb; cases hb
      · exact q
    rw [List.getElem?_append_right (by rw [tg_l_len]; omega), tg_l_len, tg_l_get, show w.1.length + (k - 64) - w.1.length = k - 64 by omega, h]
    simp only [Option.map_some]
    rw [show 64 + (k - 64) = k by omega]
theorem tg_up_ws {G : tg_G} {w : tg_W} {k : Nat} {c0 c : tg_Cl} (h : tg_lk w k = some c0) : tg_ws G (tg_up w k c) = (tg_ws G w).set (tg_pc w k) (tg_ad G k, tg_c G c) := by
  unfold tg_lk at h
  unfold tg_ws tg_pc tg_up
  cases hb : Nat.blt k 64 with
  | true =>
    rw [hb] at h
    simp only [cond_true] at h ⊢
    rw [tg_nth_eq] at h
    have hl := (List.getElem?_eq_some_iff.mp h).1
    rw [tg_setn_eq, tg_l_set, List.set_append_left _ _ (by rw [tg_l_len]; exact hl)]
    simp
  | false =>
    rw [hb] at h
    simp only [cond_false] at h ⊢
    rw [tg_nth_eq] at h
    have hk : 64 ≤ k := by
      rcases Nat.lt_or_ge k 64 with q | q
      · rw [show Nat.blt k 64 = true from (by simp only [Nat.blt_eq]; exact q)] at hb; cases hb
      · exact q
    rw [tg_setn_eq, tg_l_set, List.set_append_right _ _ (by rw [tg_l_len]; omega), tg_l_len, show w.1.length + (k - 64) - w.1.length = k - 64 by omega, show 64 + (k - 64) = k by omega]
theorem tg_up_len (w : tg_W) (k : Nat) (c : tg_Cl) : (tg_up w k c).1.length = w.1.length ∧ (tg_up w k c).2.length = w.2.length := by
  unfold tg_up
  cases Nat.blt k 64 <;> simp [tg_setn_eq]
theorem tg_ad_lo {G : tg_G} {k : Nat} (h : k < 64) : tg_ad G k = G.1 + k := by
  unfold tg_ad
  rw [show Nat.blt k 64 = true from (by simp only [Nat.blt_eq]; exact h)]
  rfl
theorem tg_ad_hi {G : tg_G} {k : Nat} (h : 64 ≤ k) (h2 : k < 1000) : tg_ad G k = G.1 + 47 + (k - 64) := by
  unfold tg_ad
  rw [show Nat.blt k 64 = false from (by
    cases hb : Nat.blt k 64 with
    | false => rfl
    | true => simp only [Nat.blt_eq] at hb; omega), show Nat.beq k 1000 = false from (by
    cases hb : Nat.beq k 1000 with
    | false => rfl
    | true => have := Nat.eq_of_beq_eq_true hb; omega), show Nat.beq k 1001 = false from (by
    cases hb : Nat.beq k 1001 with
    | false => rfl
    | true => have := Nat.eq_of_beq_eq_true hb; omega)]
  rfl
theorem tg_ws_in {G : tg_G} {w : tg_W} (h1 : w.1.length ≤ 47) (h2 : w.2.length ≤ 64) {i : Nat} {q : Nat × va_E} (h : (tg_ws G w)[i]? = some q) : (i < w.1.length ∧ q.1 = G.1 + i) ∨ (w.1.length ≤ i ∧ q.1 = G.1 + 47 + (i - w.1.length)) := by
  unfold tg_ws at h
  rcases Nat.lt_or_ge i w.1.length with hl | hl
  · rw [List.getElem?_append_left (by rw [tg_l_len]; exact hl), tg_l_get] at h
    obtain ⟨c, -, e⟩ := Option.map_eq_some_iff.mp h
    refine Or.inl ⟨hl, ?_⟩
    rw [← e]
    show tg_ad G (0 + i) = _
    rw [Nat.zero_add, tg_ad_lo (by omega)]
  · rw [List.getElem?_append_right (by rw [tg_l_len]; exact hl), tg_l_len, tg_l_get] at h
    obtain ⟨c, hc, e⟩ := Option.map_eq_some_iff.mp h
    have := (List.getElem?_eq_some_iff.mp hc).1
    refine Or.inr ⟨hl, ?_⟩
    rw [← e]
    show tg_ad G (64 + (i - w.1.length)) = _
    rw [tg_ad_hi (by omega) (by omega)]
    omega
theorem tg_D {G : tg_G} {w : tg_W} (h1 : w.1.length ≤ 47) (h2 : w.2.length ≤ 64) : va_D (fun q => G.1 ≤ q) (tg_ws G w) := by
  refine ⟨fun i j p q hi hj e => ?_, fun k q hk => ?_⟩
  · rcases tg_ws_in h1 h2 hi with ⟨a1, a2⟩ | ⟨a1, a2⟩ <;> rcases tg_ws_in h1 h2 hj with ⟨b1, b2⟩ | ⟨b1, b2⟩ <;> omega
  · rcases tg_ws_in h1 h2 hk with ⟨a1, a2⟩ | ⟨a1, a2⟩
    · show G.1 ≤ q.1; omega
    · show G.1 ≤ q.1; omega
/-- the heap holds the world -/
def tg_R (G : tg_G) (w : tg_W) (H : Heap) : Prop := va_P G.2.2.2.2.2.1 vwCl (tg_ws G w) H ∧ H.size = G.1 + w.1.length + w.2.length ∧ w.1.length ≤ 47 ∧ w.2.length ≤ 64 ∧ (w.2 = [] ∨ w.1.length = 47)
/-- words by their places -/
def tg_ch : Nat → List Jvm.Cond
  | 0 => k2_sels lw_privs
  | 1 => tables_1_1
  | 2 => tables_1_2
  | 3 => tables_1_3
  | 4 => tables_1_4
  | 5 => tables_1_5
  | _ => tables_1_6
theorem tg_ch_mem {w : Jvm.Cond} : ∀ {c : Nat}, w ∈ tg_ch c → w ∈ lw_tbl := by
  intro c h
  unfold lw_tbl tables_1
  match c, h with
  | 0, h => exact List.mem_append_left _ h
  | 1, h => exact List.mem_append_right _ (List.mem_append_left _ h)
  | 2, h => exact List.mem_append_right _ (List.mem_append_right _ (List.mem_append_left _ h))
  | 3, h => exact List.mem_append_right _ (List.mem_append_right _ (List.mem_append_right _ (List.mem_append_left _ h)))
  | 4, h => exact List.mem_append_right _ (List.mem_append_right _ (List.mem_append_right _ (List.mem_append_right _ (List.mem_append_left _ h))))
  | 5, h => exact List.mem_append_right _ (List.mem_append_right _ (List.mem_append_right _ (List.mem_append_right _ (List.mem_append_right _ (List.mem_append_left _ h)))))
  | _ + 6, h => exact List.mem_append_right _ (List.mem_append_right _ (List.mem_append_right _ (List.mem_append_right _ (List.mem_append_right _ (List.mem_append_right _ h)))))
def tg_GW : List Jvm.Cond := lw_tbl.filter goodWord
def tg_is (c i : Nat) (w : Jvm.Cond) : Bool := goodWord w && decide ((tg_ch c)[i]? = some w)
theorem tg_is_mem {c i : Nat} {w : Jvm.Cond} (h : tg_is c i w = true) : w ∈ tg_GW := by
  simp only [tg_is, Bool.and_eq_true, decide_eq_true_eq] at h
  exact List.mem_filter.mpr ⟨tg_ch_mem (List.mem_of_getElem? h.2), h.1⟩
def tg_nst : Jvm.Cond → Bool
  | .methodLinkNest .. => true
  | _ => false
def tg_NW : List Jvm.Cond := lw_tbl.filter tg_nst
def tg_isN (c i : Nat) (w : Jvm.Cond) : Bool := tg_nst w && decide ((tg_ch c)[i]? = some w)
theorem tg_isN_mem {c i : Nat} {w : Jvm.Cond} (h : tg_isN c i w = true) : w ∈ tg_NW := by
  simp only [tg_isN, Bool.and_eq_true, decide_eq_true_eq] at h
  exact List.mem_filter.mpr ⟨tg_ch_mem (List.mem_of_getElem? h.2), h.1⟩
/-- what stays: the classes, the script, the table of letters, the links between nest mates -/
def tg_kl : Nat → Value := fun j => .int (match j with | 0 => 107 | 1 => 104 | 2 => 102 | 3 => 115 | 4 => 119 | _ => 110)
def tg_fix (G : tg_G) (U : State) : Prop :=
  va_K G.2.2.2.2.2.1 vwCl [(G.2.2.2.2.2.2, .int)] U ∧ va_X G.2.1 G.2.2.1 G.2.2.2.1 U U.heap ∧ G.2.1 < G.1 ∧ va_Z "TilesGoAbout$Letters" "KIND_LETTERS" "[C" (.ref G.2.2.2.2.1) (fun q => G.1 ≤ q) U U.heap ∧ va_T .char G.2.2.2.2.1 6 tg_kl (fun q => G.1 ≤ q) U U.heap ∧ ∀ w ∈ tg_NW, va_Nw w U
abbrev tg_Er : Type := Instr × Nat × List Nat × MethodName × Value × List (Int32 × Nat)
abbrev tg_E : Type := Nat × tg_Er
abbrev tg_M : Type := MethodName × ByteArray × Nat × Option FieldType × (Nat × Nat) × List (Nat × List tg_E)
def tg_fR : List tg_E → Nat → Option tg_Er
  | [], _ => none
  | q :: r, pc => bif Nat.beq q.1 pc then some q.2 else tg_fR r pc
def tg_f : List (Nat × List tg_E) → Nat → Option tg_Er
  | [], _ => none
  | q :: r, pc => bif Nat.blt pc q.1 then tg_fR q.2 pc else tg_f r pc
theorem tg_fR_mem {l : List tg_E} {pc : Nat} {e : tg_Er} (h : tg_fR l pc = some e) : (pc, e) ∈ l := by
  induction l with
  | nil => cases h
  | cons q r ih =>
    unfold tg_fR at h
    cases hb : Nat.beq q.1 pc with
    | true =>
      rw [hb] at h
      have e1 := Nat.eq_of_beq_eq_true hb
      have e2 : q.2 = e := Option.some.inj h
      subst e1; subst e2
      exact List.mem_cons_self
    | false =>
      rw [hb] at h
      exact List.mem_cons_of_mem _ (ih h)
theorem tg_f_mem {l : List (Nat × List tg_E)} {pc : Nat} {e : tg_Er} (h : tg_f l pc = some e) : ∃ q ∈ l, (pc, e) ∈ q.2 := by
  induction l with
  | nil => cases h
  | cons q r ih =>
    unfold tg_f at h
    cases hb : Nat.blt pc q.1 with
    | true =>
      rw [hb] at h
      exact ⟨q, List.mem_cons_self, tg_fR_mem h⟩
    | false =>
      rw [hb] at h
      obtain ⟨q', h1, h2⟩ := ih h
      exact ⟨q', List.mem_cons_of_mem _ h1, h2⟩
end
section
/-! what each instruction's row must say; the judgement; straight steps -/
def tg_len : Instr → Nat
  | .bipush _ => 2
  | .sipush _ => 3
  | .ldc _ => 2
  | .ldc_w _ => 3
  | .ldc2_w _ => 3
  | .iload _ => 2
  | .aload _ => 2
  | .lload _ => 2
  | .istore _ => 2
  | .astore _ => 2
  | .lstore _ => 2
  | .iinc _ _ => 3
  | .getfield _ => 3
  | .putfield _ => 3
  | .getstatic _ => 3
  | .goto _ => 3
  | .ifCond _ _ => 3
  | .if_icmp _ _ => 3
  | .invokevirtual _ => 3
  | .invokestatic _ => 3
  | .invokespecial _ => 3
  | .new _ => 3
  | .newarray _ => 2
  | _ => 1
def tg_sw : Instr → Bool
  | .tableswitch .. => true
  | .lookupswitch .. => true
  | _ => false
def tg_gd : List Nat → Nat → Nat
  | [], _ => 0
  | a :: _, 0 => a
  | _ :: r, k + 1 => tg_gd r k
def tg_cls (ci : Nat) : vw_C := (vwCl[ci]?).getD ("", fun _ => ("", "", "", false), 0)
def tg_nMH (y : MethodName) : Bool := decide (y.cls ≠ "java/lang/invoke/MethodHandle" ∧ y.cls ≠ "java/lang/invoke/VarHandle")
def tg_ar (y : MethodName) (n : Nat) : Bool := decide ((parseMethodDescriptor y.desc).map (fun d => d.parameters.length) = some n)
def tg_okc (own : String) (idx : Nat) (ins : Instr) (f : List Nat) (y : MethodName) : Bool :=
  match tg_gd f 0 with
  | 0 => (match ins with | .invokevirtual _ => true | _ => false) && tg_nMH y && tg_ar y (tg_gd f 1) && decide (((vwCl[tg_gd f 2]?).map fun q => q.1) = some y.cls) && tg_is (tg_gd f 3) (tg_gd f 4) (.methodLink own idx y) && tg_is (tg_gd f 5) (tg_gd f 6) (.instanceMethod y) && tg_is (tg_gd f 7) (tg_gd f 8) (.selects y.cls y y) && tg_is (tg_gd f 9) (tg_gd f 10) (.initialized y.cls)
  | 1 => (match ins with | .invokestatic _ => true | _ => false) && tg_nMH y && tg_ar y (tg_gd f 1) && tg_is (tg_gd f 3) (tg_gd f 4) (.methodLink own idx y) && tg_is (tg_gd f 5) (tg_gd f 6) (.static y) && tg_is (tg_gd f 9) (tg_gd f 10) (.initialized y.cls)
  | 2 => (match ins with | .invokespecial _ => true | _ => false) && tg_nMH y && tg_ar y (tg_gd f 1) && decide (y.name = "<init>") && tg_is (tg_gd f 3) (tg_gd f 4) (.methodLink own idx y) && tg_is (tg_gd f 5) (tg_gd f 6) (.instanceMethod y) && tg_is (tg_gd f 9) (tg_gd f 10) (.initialized y.cls)
  | 3 => (match ins with | .invokespecial _ => true | _ => false) && tg_ar y (tg_gd f 1) && decide (y.name ≠ "<init>") && tg_is (tg_gd f 3) (tg_gd f 4) (.methodLink own idx y) && tg_is (tg_gd f 5) (tg_gd f 6) (.instanceMethod y) && tg_is (tg_gd f 7) (tg_gd f 8) (.superclass own y.cls) && tg_is (tg_gd f 9) (tg_gd f 10) (.initialized y.cls) && tg_is (tg_gd f 11) (tg_gd f 12) (.sameMethod y.cls y.cls y.name y.desc)
  | 4 => (match ins with | .invokestatic _ => true | _ => false) && tg_nMH y && tg_ar y (tg_gd f 1) && tg_isN (tg_gd f 3) (tg_gd f 4) (.methodLinkNest own idx y "TilesGoAbout") && tg_is (tg_gd f 5) (tg_gd f 6) (.static y) && tg_is (tg_gd f 9) (tg_gd f 10) (.initialized y.cls)
  | 5 => (match ins with | .invokevirtual _ => true | _ => false) && tg_ar y (tg_gd f 1) && tg_is (tg_gd f 3) (tg_gd f 4) (.methodLink own idx y)
  | _ => (match ins with | .invokespecial _ => true | _ => false) && decide (y = Lib.objectInit) && tg_is (tg_gd f 3) (tg_gd f 4) (.methodLink own idx y) && tg_is (tg_gd f 5) (tg_gd f 6) (.instanceMethod y) && tg_is (tg_gd f 9) (tg_gd f 10) (.code Lib.objectInit ⟨#[0xb1]⟩ 1 none)
def tg_okI (own mn : String) (mx pc : Nat) (ins : Instr) (f : List Nat) (y : MethodName) (v : Value) (cs : List (Int32 × Nat)) : Bool :=
  match ins with
  | .iconst n => decide (v = .int (Int32.ofInt n))
  | .bipush n => decide (v = .int (Int8.ofInt n).toInt32)
  | .sipush n => decide (v = .int (Int16.ofInt n).toInt32)
  | .lconst n => decide (v = .long (Int64.ofNat (n : Nat)))
  | .ldc idx => (match v with | .int x => tg_is (tg_gd f 0) (tg_gd f 1) (.constant own idx x) | _ => false)
  | .ldc_w idx => (match v with | .int x => tg_is (tg_gd f 0) (tg_gd f 1) (.constant own idx x) | _ => false)
  | .ldc2_w idx => (match v with | .long x => tg_is (tg_gd f 0) (tg_gd f 1) (.constantLong own idx x) | _ => false)
  | .iload_n k => decide ((k : Nat) = tg_gd f 0)
  | .aload_n k => decide ((k : Nat) = tg_gd f 0)
  | .lload_n k => decide ((k : Nat) = tg_gd f 0)
  | .iload k => decide (k = tg_gd f 0)
  | .aload k => decide (k = tg_gd f 0)
  | .lload k => decide (k = tg_gd f 0)
  | .istore_n k => decide ((k : Nat) = tg_gd f 0 ∧ tg_gd f 0 < mx)
  | .astore_n k => decide ((k : Nat) = tg_gd f 0 ∧ tg_gd f 0 < mx)
  | .lstore_n k => decide ((k : Nat) = tg_gd f 0 ∧ tg_gd f 0 + 1 < mx)
  | .istore k => decide (k = tg_gd f 0 ∧ tg_gd f 0 < mx)
  | .astore k => decide (k = tg_gd f 0 ∧ tg_gd f 0 < mx)
  | .lstore k => decide (k = tg_gd f 0 ∧ tg_gd f 0 + 1 < mx)
  | .iinc k n => decide (k = tg_gd f 0 ∧ tg_gd f 0 < mx ∧ v = .int (Int32.ofInt n))
  | .goto o => decide ((pc : Int) + o = (tg_gd f 0 : Nat))
  | .ifCond _ o => decide ((pc : Int) + o = (tg_gd f 0 : Nat))
  | .if_icmp _ o => decide ((pc : Int) + o = (tg_gd f 0 : Nat))
  | .getfield idx => decide (tg_gd f 0 < 12 ∧ tg_gd f 1 < (tg_cls (tg_gd f 0)).2.2) && tg_is (tg_gd f 2) (tg_gd f 3) (.fieldLink own idx ((tg_cls (tg_gd f 0)).2.1 (tg_gd f 1)).1 ((tg_cls (tg_gd f 0)).2.1 (tg_gd f 1)).2.1 ((tg_cls (tg_gd f 0)).2.1 (tg_gd f 1)).2.2.1)
  | .putfield idx => decide (tg_gd f 0 < 12 ∧ tg_gd f 1 < (tg_cls (tg_gd f 0)).2.2) && tg_is (tg_gd f 2) (tg_gd f 3) (.fieldLink own idx ((tg_cls (tg_gd f 0)).2.1 (tg_gd f 1)).1 ((tg_cls (tg_gd f 0)).2.1 (tg_gd f 1)).2.1 ((tg_cls (tg_gd f 0)).2.1 (tg_gd f 1)).2.2.1) && (match tg_gd f 4 with
    | 0 => decide (parseFieldDescriptor ((tg_cls (tg_gd f 0)).2.1 (tg_gd f 1)).2.2.1 = some .int ∧ ((tg_cls (tg_gd f 0)).2.1 (tg_gd f 1)).2.2.2 = false)
    | 1 => decide (parseFieldDescriptor ((tg_cls (tg_gd f 0)).2.1 (tg_gd f 1)).2.2.1 = some .boolean ∧ ((tg_cls (tg_gd f 0)).2.1 (tg_gd f 1)).2.2.2 = false)
    | _ => (match parseFieldDescriptor ((tg_cls (tg_gd f 0)).2.1 (tg_gd f 1)).2.2.1 with | some (.object _) => true | some (.array _) => true | _ => false) && decide (((tg_cls (tg_gd f 0)).2.1 (tg_gd f 1)).2.2.2 = true ∧ mn = "<init>" ∧ ((tg_cls (tg_gd f 0)).2.1 (tg_gd f 1)).1 = own))
  | .getstatic idx => decide (own = "TilesGoAbout$Letters") && tg_is (tg_gd f 0) (tg_gd f 1) (.fieldLink own idx "TilesGoAbout$Letters" "KIND_LETTERS" "[C")
  | .new idx => decide (tg_gd f 0 < 12) && tg_is (tg_gd f 1) (tg_gd f 2) (.classLink own idx (tg_cls (tg_gd f 0)).1) && tg_is (tg_gd f 3) (tg_gd f 4) (.instantiable (tg_cls (tg_gd f 0)).1 (tg_cls (tg_gd f 0)).2.2) && tg_is (tg_gd f 5) (tg_gd f 6) (.initialized (tg_cls (tg_gd f 0)).1)
  | .newarray t => decide (t = .int) && tg_is (tg_gd f 0) (tg_gd f 1) (.arrayClass .int)
  | .invokevirtual idx => tg_okc own idx ins f y
  | .invokestatic idx => tg_okc own idx ins f y
  | .invokespecial idx => tg_okc own idx ins f y
  | .tableswitch d lo hi os => decide ((pc : Int) + d = (tg_gd f 0 : Nat)) && decide (hi + 1 - lo = (cs.length : Int) ∧ cs.length = os.size ∧ cs.map (fun q => q.1.toInt) = (List.range cs.length).map (fun j : Nat => lo + (j : Int)) ∧ os.toList.map (fun o => (pc : Int) + o) = cs.map (fun q => (q.2 : Int)))
  | .lookupswitch d ps => decide ((pc : Int) + d = (tg_gd f 0 : Nat)) && (ps.toList.zip (ps.toList.drop 1)).all (fun (a, next) => a.1 < next.1) && decide (ps.toList.map (fun q => (q.1, (pc : Int) + q.2)) = cs.map (fun q => (q.1.toInt, (q.2 : Int))))
  | _ => true
def tg_okE (m : tg_M) (q : tg_E) : Bool :=
  decide (decode m.2.1 q.1 = .ok (q.2.1, q.2.2.1 - q.1)) && (tg_sw q.2.1 || Nat.beq q.2.2.1 (q.1 + tg_len q.2.1)) && tg_okI m.1.cls m.1.name m.2.2.1 q.1 q.2.1 q.2.2.2.1 q.2.2.2.2.1 q.2.2.2.2.2.1 q.2.2.2.2.2.2
def tg_ok (m : tg_M) : Bool :=
  tg_is m.2.2.2.2.1.1 m.2.2.2.2.1.2 (.code m.1 m.2.1 m.2.2.1 m.2.2.2.1) && plainName m.1.cls && decide (m.2.2.1 ≤ 21) && m.2.2.2.2.2.all (fun ch => ch.2.all (tg_okE m))
def tg_wd (m : tg_M) : List Jvm.Cond := Jvm.Cond.code m.1 m.2.1 m.2.2.1 m.2.2.2.1 :: tg_GW
theorem tg_ok_code {m : tg_M} (h : tg_ok m = true) : Jvm.Cond.code m.1 m.2.1 m.2.2.1 m.2.2.2.1 ∈ tg_GW := by
  simp only [tg_ok, Bool.and_eq_true] at h
  exact tg_is_mem h.1.1.1
theorem tg_ok_mx {m : tg_M} (h : tg_ok m = true) : m.2.2.1 ≤ 21 := by
  simp only [tg_ok, Bool.and_eq_true, decide_eq_true_eq] at h
  exact h.1.2
theorem tg_ok_plain {m : tg_M} (h : tg_ok m = true) : plainName m.1.cls = true := by
  simp only [tg_ok, Bool.and_eq_true] at h
  exact h.1.1.2
theorem tg_ok_E {m : tg_M} (h : tg_ok m = true) {pc : Nat} {e : tg_Er} (he : tg_f m.2.2.2.2.2 pc = some e) : tg_okE m (pc, e) = true := by
  simp only [tg_ok, Bool.and_eq_true] at h
  obtain ⟨q, h1, h2⟩ := tg_f_mem he
  exact List.all_eq_true.mp (List.all_eq_true.mp h.2 q h1) (pc, e) h2
theorem tg_dec {m : tg_M} (h : tg_ok m = true) {pc : Nat} {ins : Instr} {nx : Nat} {f : List Nat} {y : MethodName} {v : Value} {cs : List (Int32 × Nat)} (he : tg_f m.2.2.2.2.2 pc = some (ins, nx, f, y, v, cs)) :
    decode m.2.1 pc = .ok (ins, nx - pc) ∧ (tg_sw ins = true ∨ nx = pc + tg_len ins) ∧ tg_okI m.1.cls m.1.name m.2.2.1 pc ins f y v cs = true := by
  have h1 := tg_ok_E h he
  simp only [tg_okE, Bool.and_eq_true, decide_eq_true_eq, Bool.or_eq_true] at h1
  refine ⟨h1.1.1, ?_, h1.2⟩
  rcases h1.1.2 with q | q
  · exact Or.inl q
  · exact Or.inr (Nat.eq_of_beq_eq_true q)
/-- the machine at a method's body -/
def tg_Ctx (G : tg_G) (lv : Nat) (m : tg_M) (mc ms : Nat) (p : Program) (R : Room) (s : State) (mi : MethodId) (args : Array Value) (meth : Method) (c : Code) : Prop :=
  tg_ok m = true ∧ p.tables.exec = Jvm.exec ∧ c.code = m.2.1 ∧ c.maxLocals = m.2.2.1 ∧ meth.sig.returnType = m.2.2.2.1 ∧ meth.locks = false ∧ meth.name = m.1.name ∧ s.vm.findClass m.1.cls = some mi.cls ∧ (∀ w ∈ tg_wd m, w.before args s = true) ∧ tg_fix G s ∧ G.1 ≤ s.heap.size ∧ (lv ≤ R.frames ∧ 40 * lv ≤ R.locals ∧ mc ≤ R.cells ∧ ms ≤ R.slots)
def tg_Qc (G : tg_G) (Q : Option Value → tg_W → Prop) : Array Value → State → Outcome → State → Prop := fun _ st oc t =>
  (∃ (r : Option Value) (w : tg_W), oc = .returned (r.map (tg_v G)) ∧ Q r w ∧ tg_R G w t.heap) ∧ va_F (fun q => G.1 ≤ q) st t
def tg_ml (G : tg_G) (L : List (Nat × Value)) : List (Nat × Value) := L.map fun q => (q.1, tg_v G q.2)
def tg_V (G : tg_G) (lv : Nat) (m : tg_M) (kc ks mc ms : Nat) (Q : Option Value → tg_W → Prop) (pc : Nat) (L : List (Nat × Value)) (st : List Value) (w : tg_W) : Prop :=
  ∀ (p : Program) (l : Launch) (en : Env) (R : Room) (s : State) (mi : MethodId) (args : Array Value) (below : List Frame) (meth : Method) (c : Code) (H : Heap) (locs : List Loc) (ls : Array Slot),
    tg_Ctx G lv m mc ms p R s mi args meth c → va_S (fun q => G.1 ≤ q) s.heap H locs → tg_R G w H → lv_has ls m.2.2.1 (tg_ml G L) →
    W p l en R s mi args below meth c H locs kc ks (MQ below (tg_Qc G Q) args s mc ms (fun q => G.1 ≤ q)) (F0 mi pc ls (st.map (tg_v G)))
def tg_get : List (Nat × Value) → Nat → Option Value
  | [], _ => none
  | q :: r, k => bif Nat.beq q.1 k then some q.2 else tg_get r k
theorem tg_get_mem {L : List (Nat × Value)} {k : Nat} {u : Value} (h : tg_get L k = some u) : (k, u) ∈ L := by
  induction L with
  | nil => cases h
  | cons q r ih =>
    unfold tg_get at h
    cases hb : Nat.beq q.1 k with
    | true =>
      rw [hb] at h
      have e1 := Nat.eq_of_beq_eq_true hb
      have e2 : q.2 = u := Option.some.inj h
      subst e1; subst e2
      exact List.mem_cons_self
    | false =>
      rw [hb] at h
      exact List.mem_cons_of_mem _ (ih h)
theorem tg_get_ls {G : tg_G} {ls : Array Slot} {n : Nat} {L : List (Nat × Value)} (hl : lv_has ls n (tg_ml G L)) {k : Nat} {u : Value} (h : tg_get L k = some u) : ls[k]? = some (.val (tg_v G u)) :=
  hl.2.2 (k, tg_v G u) (List.mem_map.mpr ⟨(k, u), tg_get_mem h, rfl⟩)
def tg_ins (i : Nat) (v : Value) : List (Nat × Value) → List (Nat × Value)
  | [] => [(i, v)]
  | q :: r => bif Nat.blt q.1 i then q :: tg_ins i v r else (i, v) :: q :: r
theorem tg_ins_mem {i : Nat} {v : Value} {L : List (Nat × Value)} {q : Nat × Value} (h : q ∈ tg_ins i v L) : q = (i, v) ∨ q ∈ L := by
  induction L with
  | nil => exact Or.inl (List.mem_singleton.mp h)
  | cons a r ih =>
    unfold tg_ins at h
    cases hb : Nat.blt a.1 i with
    | true =>
      rw [hb] at h
      rcases List.mem_cons.mp h with rfl | h
      · exact Or.inr List.mem_cons_self
      · exact (ih h).imp id (List.mem_cons_of_mem _)
    | false =>
      rw [hb] at h
      rcases List.mem_cons.mp h with rfl | h
      · exact Or.inl rfl
      · exact Or.inr h
/-- a value of one slot is put in; of two slots -/
def tg_set1 : List (Nat × Value) → Nat → List (Nat × Value)
  | [], _ => []
  | q :: r, i => bif Nat.beq q.1 i then tg_set1 r i else bif (Nat.beq (q.1 + 1) i && Nat.beq q.2.category 2) then tg_set1 r i else q :: tg_set1 r i
def tg_set (L : List (Nat × Value)) (i : Nat) (v : Value) : List (Nat × Value) := tg_ins i v (tg_set1 L i)
def tg_set2 (L : List (Nat × Value)) (i : Nat) (v : Value) : List (Nat × Value) := tg_ins i v (tg_set1 (tg_set1 L (i + 1)) i)
theorem tg_set1_mem {L : List (Nat × Value)} {i : Nat} {q : Nat × Value} (h : q ∈ tg_set1 L i) : q ∈ L ∧ q.1 ≠ i ∧ ¬ (q.1 + 1 = i ∧ q.2.category = 2) := by
  induction L with
  | nil => cases h
  | cons a r ih =>
    unfold tg_set1 at h
    cases hb : Nat.beq a.1 i with
    | true =>
      rw [hb] at h
      have h2 := ih h
      exact ⟨List.mem_cons_of_mem _ h2.1, h2.2⟩
    | false =>
      rw [hb] at h
      cases hc : (Nat.beq (a.1 + 1) i && Nat.beq a.2.category 2) with
      | true =>
        rw [hc] at h
        have h2 := ih h
        exact ⟨List.mem_cons_of_mem _ h2.1, h2.2⟩
      | false =>
        rw [hc] at h
        rcases List.mem_cons.mp h with rfl | h
        · refine ⟨List.mem_cons_self, fun e => ?_, fun e => ?_⟩
          · rw [show Nat.beq q.1 i = true from by rw [e]; exact Nat.beq_refl i] at hb
            cases hb
          · rw [e.1, e.2, Nat.beq_refl, Nat.beq_refl] at hc
            cases hc
        · have h2 := ih h
          exact ⟨List.mem_cons_of_mem _ h2.1, h2.2⟩
theorem tg_vcat (G : tg_G) (v : Value) : (tg_v G v).category = v.category := by cases v <;> rfl
theorem tg_has_sub {ls : Array Slot} {n : Nat} {l l' : List (Nat × Value)} (h : lv_has ls n l) (hs : ∀ q ∈ l', q ∈ l) : lv_has ls n l' := ⟨h.1, h.2.1, fun q hq => h.2.2 q (hs q hq)⟩
theorem tg_set_sub (G : tg_G) (L : List (Nat × Value)) (i : Nat) (v : Value) : ∀ q ∈ tg_ml G (tg_set L i v), q ∈ (i, tg_v G v) :: (tg_ml G L).filter (fun q => !(q.1 == i) && !(q.1 + 1 == i && q.2.category == 2)) := by
  intro q hq
  obtain ⟨a, ha, rfl⟩ := List.mem_map.mp hq
  rcases tg_ins_mem ha with rfl | ha
  · exact List.mem_cons_self
  · obtain ⟨h1, h2, h3⟩ := tg_set1_mem ha
    refine List.mem_cons_of_mem _ (List.mem_filter.mpr ⟨List.mem_map.mpr ⟨a, h1, rfl⟩, ?_⟩)
    simp only [tg_vcat]
    simp only [Bool.and_eq_true, Bool.not_eq_true', beq_eq_false_iff_ne, ne_eq, Bool.and_eq_false_iff]
    refine ⟨h2, ?_⟩
    by_cases e : a.1 + 1 = i
    · exact Or.inr (fun z => h3 ⟨e, z⟩)
    · exact Or.inl e
theorem tg_set2_sub (G : tg_G) (L : List (Nat × Value)) (i : Nat) (v : Value) : ∀ q ∈ tg_ml G (tg_set2 L i v), q ∈ (i, tg_v G v) :: (tg_ml G L).filter (fun q => !(q.1 == i) && (!(q.1 == i + 1) && !(q.1 + 1 == i && q.2.category == 2))) := by
  intro q hq
  obtain ⟨a, ha, rfl⟩ := List.mem_map.mp hq
  rcases tg_ins_mem ha with rfl | ha
  · exact List.mem_cons_self
  · obtain ⟨h0, h2, h3⟩ := tg_set1_mem ha
    obtain ⟨h1, h4, -⟩ := tg_set1_mem h0
    refine List.mem_cons_of_mem _ (List.mem_filter.mpr ⟨List.mem_map.mpr ⟨a, h1, rfl⟩, ?_⟩)
    simp only [tg_vcat]
    simp only [Bool.and_eq_true, Bool.not_eq_true', beq_eq_false_iff_ne, ne_eq, Bool.and_eq_false_iff]
    refine ⟨h2, h4, ?_⟩
    by_cases e : a.1 + 1 = i
    · exact Or.inr (fun z => h3 ⟨e, z⟩)
    · exact Or.inl e
/-- a straight step: the next place, locals, stack, world -/
abbrev tg_S : Type := Nat × List (Nat × Value) × List Value × tg_W
def tg_ex (ins : Instr) (nx : Nat) (f : List Nat) (v : Value) (L : List (Nat × Value)) (st : List Value) (w : tg_W) : Option tg_S :=
  match ins with
  | .iconst _ => some (nx, L, v :: st, w)
  | .bipush _ => some (nx, L, v :: st, w)
  | .sipush _ => some (nx, L, v :: st, w)
  | .lconst _ => some (nx, L, v :: st, w)
  | .ldc _ => some (nx, L, v :: st, w)
  | .ldc_w _ => some (nx, L, v :: st, w)
  | .ldc2_w _ => some (nx, L, v :: st, w)
  | .iload_n _ => match tg_get L (tg_gd f 0) with
    | some (.int x) => some (nx, L, .int x :: st, w)
    | _ => none
  | .iload _ => match tg_get L (tg_gd f 0) with
    | some (.int x) => some (nx, L, .int x :: st, w)
    | _ => none
  | .aload_n _ => match tg_get L (tg_gd f 0) with
    | some (.ref x) => some (nx, L, .ref x :: st, w)
    | _ => none
  | .aload _ => match tg_get L (tg_gd f 0) with
    | some (.ref x) => some (nx, L, .ref x :: st, w)
    | _ => none
  | .lload_n _ => match tg_get L (tg_gd f 0) with
    | some (.long x) => some (nx, L, .long x :: st, w)
    | _ => none
  | .lload _ => match tg_get L (tg_gd f 0) with
    | some (.long x) => some (nx, L, .long x :: st, w)
    | _ => none
  | .istore_n _ => match st with
    | .int x :: r => some (nx, tg_set L (tg_gd f 0) (.int x), r, w)
    | _ => none
  | .istore _ => match st with
    | .int x :: r => some (nx, tg_set L (tg_gd f 0) (.int x), r, w)
    | _ => none
  | .astore_n _ => match st with
    | .ref x :: r => some (nx, tg_set L (tg_gd f 0) (.ref x), r, w)
    | _ => none
  | .astore _ => match st with
    | .ref x :: r => some (nx, tg_set L (tg_gd f 0) (.ref x), r, w)
    | _ => none
  | .lstore_n _ => match st with
    | .long x :: r => some (nx, tg_set2 L (tg_gd f 0) (.long x), r, w)
    | _ => none
  | .lstore _ => match st with
    | .long x :: r => some (nx, tg_set2 L (tg_gd f 0) (.long x), r, w)
    | _ => none
  | .iinc _ _ => match v with
    | .int d => match tg_get L (tg_gd f 0) with
      | some (.int x) => some (nx, tg_set L (tg_gd f 0) (.int (x + d)), st, w)
      | _ => none
    | _ => none
  | .iadd => match st with
    | .int y :: .int x :: r => some (nx, L, .int (x + y) :: r, w)
    | _ => none
  | .isub => match st with
    | .int y :: .int x :: r => some (nx, L, .int (x - y) :: r, w)
    | _ => none
  | .imul => match st with
    | .int y :: .int x :: r => some (nx, L, .int (x * y) :: r, w)
    | _ => none
  | .iand => match st with
    | .int y :: .int x :: r => some (nx, L, .int (x &&& y) :: r, w)
    | _ => none
  | .ior => match st with
    | .int y :: .int x :: r => some (nx, L, .int (x ||| y) :: r, w)
    | _ => none
  | .ixor => match st with
    | .int y :: .int x :: r => some (nx, L, .int (x ^^^ y) :: r, w)
    | _ => none
  | .ishl => match st with
    | .int y :: .int x :: r => some (nx, L, .int (x <<< (y &&& 31)) :: r, w)
    | _ => none
  | .ishr => match st with
    | .int y :: .int x :: r => some (nx, L, .int (x >>> (y &&& 31)) :: r, w)
    | _ => none
  | .iushr => match st with
    | .int y :: .int x :: r => some (nx, L, .int ((x.toUInt32 >>> (y.toUInt32 &&& Int32.toUInt32 31)).toInt32) :: r, w)
    | _ => none
  | .ladd => match st with
    | .long y :: .long x :: r => some (nx, L, .long (x + y) :: r, w)
    | _ => none
  | .lsub => match st with
    | .long y :: .long x :: r => some (nx, L, .long (x - y) :: r, w)
    | _ => none
  | .lmul => match st with
    | .long y :: .long x :: r => some (nx, L, .long (x * y) :: r, w)
    | _ => none
  | .lcmp => match st with
    | .long y :: .long x :: r => some (nx, L, .int (lg_cmp x y) :: r, w)
    | _ => none
  | .ineg => match st with
    | .int x :: r => some (nx, L, .int (-x) :: r, w)
    | _ => none
  | .i2l => match st with
    | .int x :: r => some (nx, L, .long x.toInt64 :: r, w)
    | _ => none
  | .dup => match st with
    | .int x :: r => some (nx, L, .int x :: .int x :: r, w)
    | .ref x :: r => some (nx, L, .ref x :: .ref x :: r, w)
    | _ => none
  | .dup2 => match st with
    | .int y :: .int x :: r => some (nx, L, .int y :: .int x :: .int y :: .int x :: r, w)
    | .int y :: .ref x :: r => some (nx, L, .int y :: .ref x :: .int y :: .ref x :: r, w)
    | _ => none
  | .pop => match st with
    | .int _ :: r => some (nx, L, r, w)
    | _ => none
  | .goto _ => some (tg_gd f 0, L, st, w)
  | .idiv => match st with
    | .int y :: .int x :: r => bif decide (y = 0) then none else some (nx, L, .int (x / y) :: r, w)
    | _ => none
  | .irem => match st with
    | .int y :: .int x :: r => bif decide (y = 0) then none else some (nx, L, .int (x % y) :: r, w)
    | _ => none
  | .arraylength => match st with
    | .ref a :: r => match tg_lk w a with
      | some (.inr q) => some (nx, L, .int (nI q.1) :: r, w)
      | _ => none
    | _ => none
  | .putfield _ => match st with
    | .int x :: .ref a :: r => match tg_lk w a with
      | some (.inl o) => bif (Nat.beq o.1 (tg_gd f 0) && Nat.blt (tg_gd f 1) o.2.length && Nat.beq (tg_gd f 4) 0) then some (nx, L, r, tg_up w a (.inl (o.1, tg_setn o.2 (tg_gd f 1) (.int x)))) else none
      | _ => none
    | .ref x :: .ref a :: r => match tg_lk w a with
      | some (.inl o) => bif (Nat.beq o.1 (tg_gd f 0) && Nat.blt (tg_gd f 1) o.2.length && Nat.beq (tg_gd f 4) 2) then some (nx, L, r, tg_up w a (.inl (o.1, tg_setn o.2 (tg_gd f 1) (.ref x)))) else none
      | _ => none
    | _ => none
  | .getfield _ => match st with
    | .ref a :: r => match tg_lk w a with
      | some (.inl o) => bif Nat.beq o.1 (tg_gd f 0) then match tg_nth o.2 (tg_gd f 1) with
          | some u => some (nx, L, u :: r, w)
          | none => none
        else none
      | _ => none
    | _ => none
  | _ => none
end
section
/-! the straight steps hold of the machine -/
theorem tg_lays : ∀ ci, ci < 12 → ∀ w ∈ u_ws (tg_cls ci).1 (tg_cls ci).2.1 (tg_cls ci).2.2, w ∈ tg_GW := by
  have h : ∀ ci, ci < 12 → (u_ws (tg_cls ci).1 (tg_cls ci).2.1 (tg_cls ci).2.2).all (fun w => decide (w ∈ lw_tbl) && goodWord w) = true := by decide +kernel
  intro ci hc w hw
  have h1 := List.all_eq_true.mp (h ci hc) w hw
  simp only [Bool.and_eq_true, decide_eq_true_eq] at h1
  exact List.mem_filter.mpr h1
def tg_ty (ci : Nat) : Nat → FieldType := fun k => (parseFieldDescriptor ((tg_cls ci).2.1 k).2.2.1).getD .int
theorem tg_tyok : ∀ ci, ci < 12 → ∀ k, k < (tg_cls ci).2.2 → parseFieldDescriptor ((tg_cls ci).2.1 k).2.2.1 = some (tg_ty ci k) := by decide +kernel
theorem tg_nm : ∀ ci, ci < 12 → ∀ a, a < (tg_cls ci).2.2 → ∀ b, b < (tg_cls ci).2.2 → a ≠ b → ((tg_cls ci).2.1 a).2.1 ≠ ((tg_cls ci).2.1 b).2.1 := by decide +kernel
theorem tg_clsok : ∀ ci, ci < 12 → vwCl[ci]? = some (tg_cls ci) := by
  intro ci hc
  unfold tg_cls
  have : ci < vwCl.length := hc
  rw [List.getElem?_eq_getElem this]; rfl
theorem tg_wdG {m : tg_M} {w : Jvm.Cond} (h : w ∈ tg_GW) : w ∈ tg_wd m := List.mem_cons_of_mem _ h
theorem tg_some {α β : Type} {a b : α} {c d : β} (h : some (a, c) = some (b, d)) : a = b ∧ c = d := by cases h; exact ⟨rfl, rfl⟩
theorem tg_len1 {b : ByteArray} {pc nx : Nat} {ins : Instr} {n : Nat} (hd : decode b pc = .ok (ins, nx - pc)) (hn : tg_sw ins = true ∨ nx = pc + n) (hs : tg_sw ins = false) : decode b pc = .ok (ins, n) ∧ nx = pc + n := by
  rcases hn with q | q
  · rw [hs] at q; cases q
  · subst q; rw [Nat.add_sub_cancel_left] at hd; exact ⟨hd, rfl⟩
theorem tg_map2 {G : tg_G} {ls : Array Slot} {n : Nat} {L : List (Nat × Value)} (h : lv_has ls n (tg_ml G L)) {i : Nat} {u : Value} (hg : tg_get L i = some u) : ∃ k : Nat, (tg_ml G L)[k]? = some (i, tg_v G u) :=
  List.getElem?_of_mem (List.mem_map.mpr ⟨(i, u), tg_get_mem hg, rfl⟩)

theorem tg_rem (x y : Int32) : x - x / y * y = x % y := by
  apply Int32.toInt_inj.mp
  rw [Int32.toInt_sub, Int32.toInt_mul, Int32.toInt_div]
  rw [Int.bmod_mul_bmod, Int.sub_bmod_bmod]
  have h : x.toInt - x.toInt.tdiv y.toInt * y.toInt = (x % y).toInt := by
    rw [Int32.toInt_mod, Int.tmod_def, Int.mul_comm]
  rw [h]
  exact Int32.toInt_bmod_size _
theorem tg_lrem (x y : Int64) : x - x / y * y = x % y := by
  apply Int64.toInt_inj.mp
  rw [Int64.toInt_sub, Int64.toInt_mul, Int64.toInt_div]
  rw [Int.bmod_mul_bmod, Int.sub_bmod_bmod]
  have h : x.toInt - x.toInt.tdiv y.toInt * y.toInt = (x % y).toInt := by
    rw [Int64.toInt_mod, Int.tmod_def, Int.mul_comm]
  rw [h]
  exact Int64.toInt_bmod_size _
theorem tg_R_up {G : tg_G} {w : tg_W} {a : Nat} {c0 c : tg_Cl} {H H1 : Heap} (hR : tg_R G w H) (h : tg_lk w a = some c0) (hP : va_P G.2.2.2.2.2.1 vwCl ((tg_ws G w).set (tg_pc w a) (tg_ad G a, tg_c G c)) H1) (hz : H1.size = H.size) : tg_R G (tg_up w a c) H1 := by
  obtain ⟨h1, h2⟩ := tg_up_len w a c
  obtain ⟨-, r2, r3, r4, r5⟩ := hR
  refine ⟨by rw [tg_up_ws h]; exact hP, by rw [hz, r2, h1, h2], by rw [h1]; exact r3, by rw [h2]; exact r4, ?_⟩
  rcases r5 with q | q
  · exact Or.inl (List.eq_nil_of_length_eq_zero (by rw [h2, q]; rfl))
  · exact Or.inr (by rw [h1]; exact q)
section TGP
variable {p : Program} {l : Launch} {e : Env} {R : Room} {s : State} {mi : MethodId} {args : Array Value} {below : List Frame} {meth : Method} {c : Code} {H H0 : Heap} {locs : List Loc} {cells slots : Nat} {Qf : State → Prop}
variable {cc : ByteArray} {pc : Nat} {ls : Array Slot} {rest : List Value} {G : tg_G} {w : tg_W} {a : Nat} {tys : List (ClassId × FieldType)}
theorem tg_obj (o : Nat × List Value) (k : Nat) (u : Value) (ci : Nat) (he : ci = o.1) : tg_c G (.inl (ci, tg_setn o.2 k u)) = .inr (o.1, (o.2.map (tg_v G)).set k (tg_v G u)) := by
  subst he
  show Sum.inr (o.1, (tg_setn o.2 k u).map (tg_v G)) = _
  rw [tg_setn_eq, List.map_set]
theorem tg_wput (hexec : p.tables.exec = Jvm.exec) (hb : c.code = cc) {own : String} {index : Nat} {m : tg_M} (hts : ∀ w ∈ tg_wd m, w.before args s = true) (hown : s.vm.findClass own = some mi.cls) (hK : va_K G.2.2.2.2.2.1 vwCl tys s) (hR : tg_R G w H) (hS0 : va_S (fun q => G.1 ≤ q) H0 H locs) {o : Nat × List Value} (ho : tg_lk w a = some (.inl o)) (hci : o.1 < 12) (k : Nat) (hk : k < (tg_cls o.1).2.2) (hlink : (Jvm.Cond.fieldLink own index ((tg_cls o.1).2.1 k).1 ((tg_cls o.1).2.1 k).2.1 ((tg_cls o.1).2.1 k).2.2.1).before args s = true) (hfin : ((tg_cls o.1).2.1 k).2.2.2 = false) {ty : FieldType} {u : Value} (hd : parseFieldDescriptor ((tg_cls o.1).2.1 k).2.2.1 = some ty) (hn : narrow ty (tg_v G u) = tg_v G u) (hfit : fits ty (tg_v G u) = true) (hl : k < o.2.length)
    (hdg : decode cc pc = .ok (.putfield index, 3)) (kk : ∀ (H1 : Heap) (locs1 : List Loc), va_S (fun q => G.1 ≤ q) H0 H1 locs1 → tg_R G (tg_up w a (.inl (o.1, tg_setn o.2 k u))) H1 → W p l e R s mi args below meth c H1 locs1 cells slots Qf (F0 mi (pc + 3) ls rest)) : W p l e R s mi args below meth c H locs cells slots Qf (F0 mi pc ls (tg_v G u :: .ref (tg_ad G a) :: rest)) := by
  have hin : ∀ w ∈ u_ws (tg_cls o.1).1 (tg_cls o.1).2.1 (tg_cls o.1).2.2, w ∈ tg_wd m := fun w hw => tg_wdG (tg_lays o.1 hci w hw)
  have hc := tg_clsok o.1 hci
  have he := tg_lk_ws (G := G) ho
  have hD : va_D (fun q => G.1 ≤ q) (tg_ws G w) := tg_D hR.2.2.1 hR.2.2.2.1
  have hap := va_apart (own := own) hts hin (tg_ty o.1) (tg_tyok o.1 hci) (tg_nm o.1 hci) hK hc
  obtain ⟨r, h1, cell, q1, q2, q3, q4⟩ := hR.1 _ _ he
  have hr : r = tg_cls o.1 := Option.some.inj (h1.symm.trans hc)
  subst hr
  obtain ⟨hS, hfc, kC, hkC, hkind⟩ := hK.1 o.1 _ hc
  obtain ⟨cf, kf, fi, f, hi, hsl⟩ := hS k hk
  have hlay := hts _ (hin _ (u_in_lay hk))
  unfold u_lay at hlay
  rw [if_neg (by rw [hfin]; decide)] at hlay
  have hst := (u_facts hfc hkC (u_lays hts hin hk) hi).1
  have h6 := u_store hfc hkC hkind hlay hi hd hn hfit
  refine W.putK hexec hb (f := f) ⟨hown, hlink, ⟨_, _, _, hi⟩, hst⟩ (by rw [q2]; exact h6) q1 q3 (by rw [hsl]; exact k2_hasslot (q4 k hk)) rfl rfl hdg fun H' e1 e2 e3 => ?_
  rw [hsl] at e1 ⊢
  refine kk H' _ (hS0.put e2 e3 (hD.2 _ _ he)) (tg_R_up hR ho ?_ e2)
  rw [tg_obj o k u o.1 rfl]
  exact hR.1.set hD he ⟨_, hc, t_OB.to (V := updV (vp_V (o.2.map (tg_v G))) k (tg_v G u)) ⟨_, e1, q2, q3, t_set q4 hap hk (tg_v G u)⟩ (fun j _ => vp_updV_set (by rw [List.length_map]; exact hl) (tg_v G u) j)⟩ e3
theorem tg_wputF (hexec : p.tables.exec = Jvm.exec) (hb : c.code = cc) {own : String} {index : Nat} {m : tg_M} (hts : ∀ w ∈ tg_wd m, w.before args s = true) (hown : s.vm.findClass own = some mi.cls) (hK : va_K G.2.2.2.2.2.1 vwCl tys s) (hR : tg_R G w H) (hS0 : va_S (fun q => G.1 ≤ q) H0 H locs) {o : Nat × List Value} (ho : tg_lk w a = some (.inl o)) (hci : o.1 < 12) (k : Nat) (hk : k < (tg_cls o.1).2.2) (hlink : (Jvm.Cond.fieldLink own index ((tg_cls o.1).2.1 k).1 ((tg_cls o.1).2.1 k).2.1 ((tg_cls o.1).2.1 k).2.2.1).before args s = true) (hfin : ((tg_cls o.1).2.1 k).2.2.2 = true) (hin2 : meth.name = "<init>") (hdecl : ((tg_cls o.1).2.1 k).1 = own) {ty : FieldType} {u : Value} (hd : parseFieldDescriptor ((tg_cls o.1).2.1 k).2.2.1 = some ty) (hn : narrow ty (tg_v G u) = tg_v G u) (hfit : fits ty (tg_v G u) = true) (hl : k < o.2.length)
    (hdg : decode cc pc = .ok (.putfield index, 3)) (kk : ∀ (H1 : Heap) (locs1 : List Loc), va_S (fun q => G.1 ≤ q) H0 H1 locs1 → tg_R G (tg_up w a (.inl (o.1, tg_setn o.2 k u))) H1 → W p l e R s mi args below meth c H1 locs1 cells slots Qf (F0 mi (pc + 3) ls rest)) : W p l e R s mi args below meth c H locs cells slots Qf (F0 mi pc ls (tg_v G u :: .ref (tg_ad G a) :: rest)) := by
  have hin : ∀ w ∈ u_ws (tg_cls o.1).1 (tg_cls o.1).2.1 (tg_cls o.1).2.2, w ∈ tg_wd m := fun w hw => tg_wdG (tg_lays o.1 hci w hw)
  have hc := tg_clsok o.1 hci
  have he := tg_lk_ws (G := G) ho
  have hD : va_D (fun q => G.1 ≤ q) (tg_ws G w) := tg_D hR.2.2.1 hR.2.2.2.1
  have hap := va_apart (own := own) hts hin (tg_ty o.1) (tg_tyok o.1 hci) (tg_nm o.1 hci) hK hc
  obtain ⟨r, h1, cell, q1, q2, q3, q4⟩ := hR.1 _ _ he
  have hr : r = tg_cls o.1 := Option.some.inj (h1.symm.trans hc)
  subst hr
  obtain ⟨hS, hfc, kC, hkC, hkind⟩ := hK.1 o.1 _ hc
  obtain ⟨cf, kf, fi, f, hi, hsl⟩ := hS k hk
  have hlay := hts _ (hin _ (u_in_lay hk))
  unfold u_lay at hlay
  rw [if_pos hfin] at hlay
  have hst := (u_facts hfc hkC (u_lays hts hin hk) hi).1
  have hcf : mi.cls = cf := by
    obtain ⟨_, _, c', _, _, _, -, -, hf', -, -, -, hown2, -⟩ := Cond.laysFinal_spec hlay
    have e1 : c' = cf := by have := hi.symm.trans hf'; simp at this; exact this.1.symm
    rw [hdecl] at hown2
    rw [← e1]; exact Option.some.inj (hown.symm.trans hown2)
  have h6 := u_fits hfc hkC hkind (Or.inr hlay) hi hd hn hfit
  refine W.putFinK hexec hb hown hlink hi hst hcf hin2 (by rw [q2]; exact h6) q1 q3 (by rw [hsl]; exact k2_hasslot (q4 k hk)) rfl rfl hdg fun H' e1 e2 e3 => ?_
  rw [hsl] at e1 ⊢
  refine kk H' _ (hS0.put e2 e3 (hD.2 _ _ he)) (tg_R_up hR ho ?_ e2)
  rw [tg_obj o k u o.1 rfl]
  exact hR.1.set hD he ⟨_, hc, t_OB.to (V := updV (vp_V (o.2.map (tg_v G))) k (tg_v G u)) ⟨_, e1, q2, q3, t_set q4 hap hk (tg_v G u)⟩ (fun j _ => vp_updV_set (by rw [List.length_map]; exact hl) (tg_v G u) j)⟩ e3
end TGP

set_option maxHeartbeats 4000000 in
set_option maxRecDepth 100000 in
theorem tg_step {G : tg_G} {lv : Nat} {m : tg_M} {kc ks mc ms : Nat} {Q : Option Value → tg_W → Prop} {pc : Nat} {L : List (Nat × Value)} {st : List Value} {w : tg_W} {ins : Instr} {nx : Nat} {f : List Nat} {y : MethodName} {v : Value} {cs : List (Int32 × Nat)} {pc' : Nat} {L' : List (Nat × Value)} {st' : List Value} {w' : tg_W}
    (he : tg_f m.2.2.2.2.2 pc = some (ins, nx, f, y, v, cs)) (h : tg_ex ins nx f v L st w = some (pc', L', st', w')) (k : tg_V G lv m kc ks mc ms Q pc' L' st' w') : tg_V G lv m kc ks mc ms Q pc L st w := by
  intro p l en R s mi args below meth c H locs ls C hS hR hl
  obtain ⟨hok, hx, hb, hmx, hr, hlk, hnm, hown, hts, hfix, hbase, hroom⟩ := id C
  obtain ⟨hd, hn, hI⟩ := tg_dec hok he
  have K := fun (ls' : Array Slot) (hl' : lv_has ls' m.2.2.1 (tg_ml G L')) => k p l en R s mi args below meth c H locs ls' C
  cases ins with
  | iconst n =>
    obtain ⟨hd1, hn1⟩ := tg_len1 hd hn rfl
    subst hn1
    cases h
    have hv := of_decide_eq_true hI
    subst hv
    exact lv_iconst hx hb hd1 rfl (K ls hl hS hR hl)
  | bipush n =>
    obtain ⟨hd1, hn1⟩ := tg_len1 hd hn rfl
    subst hn1
    cases h
    have hv := of_decide_eq_true hI
    subst hv
    exact lv_bipush hx hb hd1 rfl (K ls hl hS hR hl)
  | sipush n =>
    obtain ⟨hd1, hn1⟩ := tg_len1 hd hn rfl
    subst hn1
    cases h
    have hv := of_decide_eq_true hI
    subst hv
    exact lv_sipush hx hb hd1 rfl (K ls hl hS hR hl)
  | lconst n =>
    obtain ⟨hd1, hn1⟩ := tg_len1 hd hn rfl
    subst hn1
    cases h
    have hv := of_decide_eq_true hI
    subst hv
    exact lv_lconst hx hb hd1 rfl (K ls hl hS hR hl)
  | ldc idx =>
    obtain ⟨hd1, hn1⟩ := tg_len1 hd hn rfl
    subst hn1
    cases h
    cases v with
    | int x => exact lv_ldc hx hb hown (hts _ (tg_wdG (tg_is_mem hI))) hd1 (K ls hl hS hR hl)
    | _ => cases hI
  | ldc_w idx =>
    obtain ⟨hd1, hn1⟩ := tg_len1 hd hn rfl
    subst hn1
    cases h
    cases v with
    | int x => exact lv_ldcw hx hb hown (hts _ (tg_wdG (tg_is_mem hI))) hd1 (K ls hl hS hR hl)
    | _ => cases hI
  | ldc2_w idx =>
    obtain ⟨hd1, hn1⟩ := tg_len1 hd hn rfl
    subst hn1
    cases h
    cases v with
    | long x => exact lv_ldc2 hx hb hown (hts _ (tg_wdG (tg_is_mem hI))) hd1 (K ls hl hS hR hl)
    | _ => cases hI
  | iload_n j =>
    obtain ⟨hd1, hn1⟩ := tg_len1 hd hn rfl
    subst hn1
    have hk := of_decide_eq_true hI
    dsimp only [tg_ex] at h
    cases hg : tg_get L (tg_gd f 0) with
    | none => rw [hg] at h; cases h
    | some u =>
      rw [hg] at h
      cases u with
      | int x =>
        cases h
        exact lv_iload_n hx hb hd1 hk (tg_get_ls hl hg) (K ls hl hS hR hl)
      | _ => cases h
  | aload_n j =>
    obtain ⟨hd1, hn1⟩ := tg_len1 hd hn rfl
    subst hn1
    have hk := of_decide_eq_true hI
    dsimp only [tg_ex] at h
    cases hg : tg_get L (tg_gd f 0) with
    | none => rw [hg] at h; cases h
    | some u =>
      rw [hg] at h
      cases u with
      | ref x =>
        cases h
        exact lv_aload_n hx hb hd1 hk (tg_get_ls hl hg) (K ls hl hS hR hl)
      | _ => cases h
  | lload_n j =>
    obtain ⟨hd1, hn1⟩ := tg_len1 hd hn rfl
    subst hn1
    have hk := of_decide_eq_true hI
    dsimp only [tg_ex] at h
    cases hg : tg_get L (tg_gd f 0) with
    | none => rw [hg] at h; cases h
    | some u =>
      rw [hg] at h
      cases u with
      | long x =>
        cases h
        exact lv_lload_n hx hb hd1 hk (tg_get_ls hl hg) (K ls hl hS hR hl)
      | _ => cases h
  | iload j =>
    obtain ⟨hd1, hn1⟩ := tg_len1 hd hn rfl
    subst hn1
    have hk := of_decide_eq_true hI
    dsimp only [tg_ex] at h
    cases hg : tg_get L (tg_gd f 0) with
    | none => rw [hg] at h; cases h
    | some u =>
      rw [hg] at h
      cases u with
      | int x =>
        cases h
        subst hk
        exact lv_iload hx hb hd1 (tg_get_ls hl hg) (K ls hl hS hR hl)
      | _ => cases h
  | aload j =>
    obtain ⟨hd1, hn1⟩ := tg_len1 hd hn rfl
    subst hn1
    have hk := of_decide_eq_true hI
    dsimp only [tg_ex] at h
    cases hg : tg_get L (tg_gd f 0) with
    | none => rw [hg] at h; cases h
    | some u =>
      rw [hg] at h
      cases u with
      | ref x =>
        cases h
        subst hk
        exact lv_aload hx hb hd1 (tg_get_ls hl hg) (K ls hl hS hR hl)
      | _ => cases h
  | lload j =>
    obtain ⟨hd1, hn1⟩ := tg_len1 hd hn rfl
    subst hn1
    have hk := of_decide_eq_true hI
    dsimp only [tg_ex] at h
    cases hg : tg_get L (tg_gd f 0) with
    | none => rw [hg] at h; cases h
    | some u =>
      rw [hg] at h
      cases u with
      | long x =>
        cases h
        subst hk
        exact lv_lload hx hb hd1 (tg_get_ls hl hg) (K ls hl hS hR hl)
      | _ => cases h
  | istore_n j =>
    obtain ⟨hd1, hn1⟩ := tg_len1 hd hn rfl
    subst hn1
    have hk := of_decide_eq_true hI
    dsimp only [tg_ex] at h
    split at h
    · rename_i x r
      cases h
      exact lv_istore_n hx hb hd1 hk.1 hl hk.2 rfl (fun ls2 hl2 => K ls2 (tg_has_sub hl2 (tg_set_sub G L _ _)) hS hR (tg_has_sub hl2 (tg_set_sub G L _ _)))
    · cases h
  | astore_n j =>
    obtain ⟨hd1, hn1⟩ := tg_len1 hd hn rfl
    subst hn1
    have hk := of_decide_eq_true hI
    dsimp only [tg_ex] at h
    split at h
    · rename_i x r
      cases h
      exact lv_astore_n hx hb hd1 hk.1 hl hk.2 rfl (fun ls2 hl2 => K ls2 (tg_has_sub hl2 (tg_set_sub G L _ _)) hS hR (tg_has_sub hl2 (tg_set_sub G L _ _)))
    · cases h
  | istore j =>
    obtain ⟨hd1, hn1⟩ := tg_len1 hd hn rfl
    subst hn1
    have hk := of_decide_eq_true hI
    dsimp only [tg_ex] at h
    split at h
    · rename_i x r
      cases h
      obtain ⟨hk1, hk2⟩ := hk
      subst hk1
      exact lv_istore hx hb hd1 hl hk2 rfl (fun ls2 hl2 => K ls2 (tg_has_sub hl2 (tg_set_sub G L _ _)) hS hR (tg_has_sub hl2 (tg_set_sub G L _ _)))
    · cases h
  | astore j =>
    obtain ⟨hd1, hn1⟩ := tg_len1 hd hn rfl
    subst hn1
    have hk := of_decide_eq_true hI
    dsimp only [tg_ex] at h
    split at h
    · rename_i x r
      cases h
      obtain ⟨hk1, hk2⟩ := hk
      subst hk1
      exact lv_astore hx hb hd1 hl hk2 rfl (fun ls2 hl2 => K ls2 (tg_has_sub hl2 (tg_set_sub G L _ _)) hS hR (tg_has_sub hl2 (tg_set_sub G L _ _)))
    · cases h
  | lstore_n j =>
    obtain ⟨hd1, hn1⟩ := tg_len1 hd hn rfl
    subst hn1
    have hk := of_decide_eq_true hI
    dsimp only [tg_ex] at h
    split at h
    · rename_i x r
      cases h
      exact lv_lstore_n hx hb hd1 hk.1 hl hk.2 rfl (fun ls2 hl2 => K ls2 (tg_has_sub hl2 (tg_set2_sub G L _ _)) hS hR (tg_has_sub hl2 (tg_set2_sub G L _ _)))
    · cases h
  | lstore j =>
    obtain ⟨hd1, hn1⟩ := tg_len1 hd hn rfl
    subst hn1
    have hk := of_decide_eq_true hI
    dsimp only [tg_ex] at h
    split at h
    · rename_i x r
      cases h
      obtain ⟨hk1, hk2⟩ := hk
      subst hk1
      exact lv_lstore hx hb hd1 hl hk2 rfl (fun ls2 hl2 => K ls2 (tg_has_sub hl2 (tg_set2_sub G L _ _)) hS hR (tg_has_sub hl2 (tg_set2_sub G L _ _)))
    · cases h
  | iinc j n =>
    obtain ⟨hd1, hn1⟩ := tg_len1 hd hn rfl
    subst hn1
    obtain ⟨hk1, hk2, hk3⟩ := of_decide_eq_true hI
    subst hk1; subst hk3
    dsimp only [tg_ex] at h
    cases hg : tg_get L (tg_gd f 0) with
    | none => rw [hg] at h; cases h
    | some u =>
      rw [hg] at h
      cases u with
      | int x =>
        cases h
        obtain ⟨z, hz⟩ := tg_map2 hl hg
        exact lv_iinc hx hb hd1 hl hz rfl hk2 rfl (fun ls2 hl2 => K ls2 (tg_has_sub hl2 (tg_set_sub G L _ _)) hS hR (tg_has_sub hl2 (tg_set_sub G L _ _)))
      | _ => cases h
  | iadd =>
    obtain ⟨hd1, hn1⟩ := tg_len1 hd hn rfl
    subst hn1
    dsimp only [tg_ex] at h
    split at h
    · cases h
      exact lv_iadd hx hb hd1 (K ls hl hS hR hl)
    · cases h
  | isub =>
    obtain ⟨hd1, hn1⟩ := tg_len1 hd hn rfl
    subst hn1
    dsimp only [tg_ex] at h
    split at h
    · cases h
      exact lv_isub hx hb hd1 (K ls hl hS hR hl)
    · cases h
  | imul =>
    obtain ⟨hd1, hn1⟩ := tg_len1 hd hn rfl
    subst hn1
    dsimp only [tg_ex] at h
    split at h
    · cases h
      exact lv_imul hx hb hd1 (K ls hl hS hR hl)
    · cases h
  | iand =>
    obtain ⟨hd1, hn1⟩ := tg_len1 hd hn rfl
    subst hn1
    dsimp only [tg_ex] at h
    split at h
    · cases h
      exact lv_iand hx hb hd1 (K ls hl hS hR hl)
    · cases h
  | ior =>
    obtain ⟨hd1, hn1⟩ := tg_len1 hd hn rfl
    subst hn1
    dsimp only [tg_ex] at h
    split at h
    · cases h
      exact lv_ior hx hb hd1 (K ls hl hS hR hl)
    · cases h
  | ixor =>
    obtain ⟨hd1, hn1⟩ := tg_len1 hd hn rfl
    subst hn1
    dsimp only [tg_ex] at h
    split at h
    · cases h
      exact lv_ixor hx hb hd1 (K ls hl hS hR hl)
    · cases h
  | ishl =>
    obtain ⟨hd1, hn1⟩ := tg_len1 hd hn rfl
    subst hn1
    dsimp only [tg_ex] at h
    split at h
    · cases h
      exact lv_ishl hx hb hd1 (K ls hl hS hR hl)
    · cases h
  | ishr =>
    obtain ⟨hd1, hn1⟩ := tg_len1 hd hn rfl
    subst hn1
    dsimp only [tg_ex] at h
    split at h
    · cases h
      exact lv_ishr hx hb hd1 (K ls hl hS hR hl)
    · cases h
  | iushr =>
    obtain ⟨hd1, hn1⟩ := tg_len1 hd hn rfl
    subst hn1
    dsimp only [tg_ex] at h
    split at h
    · cases h
      exact lv_iushr hx hb hd1 rfl (K ls hl hS hR hl)
    · cases h
  | ladd =>
    obtain ⟨hd1, hn1⟩ := tg_len1 hd hn rfl
    subst hn1
    dsimp only [tg_ex] at h
    split at h
    · cases h
      exact lv_ladd hx hb hd1 (K ls hl hS hR hl)
    · cases h
  | lsub =>
    obtain ⟨hd1, hn1⟩ := tg_len1 hd hn rfl
    subst hn1
    dsimp only [tg_ex] at h
    split at h
    · cases h
      exact lv_lsub hx hb hd1 (K ls hl hS hR hl)
    · cases h
  | lmul =>
    obtain ⟨hd1, hn1⟩ := tg_len1 hd hn rfl
    subst hn1
    dsimp only [tg_ex] at h
    split at h
    · cases h
      exact lv_lmul hx hb hd1 (K ls hl hS hR hl)
    · cases h
  | lcmp =>
    obtain ⟨hd1, hn1⟩ := tg_len1 hd hn rfl
    subst hn1
    dsimp only [tg_ex] at h
    split at h
    · cases h
      exact W.lcmp hx hb hd1 (K ls hl hS hR hl)
    · cases h
  | ineg =>
    obtain ⟨hd1, hn1⟩ := tg_len1 hd hn rfl
    subst hn1
    dsimp only [tg_ex] at h
    split at h
    · cases h
      exact lv_ineg hx hb hd1 (K ls hl hS hR hl)
    · cases h
  | i2l =>
    obtain ⟨hd1, hn1⟩ := tg_len1 hd hn rfl
    subst hn1
    dsimp only [tg_ex] at h
    split at h
    · cases h
      exact lv_i2l hx hb hd1 rfl (K ls hl hS hR hl)
    · cases h
  | dup =>
    obtain ⟨hd1, hn1⟩ := tg_len1 hd hn rfl
    subst hn1
    dsimp only [tg_ex] at h
    split at h
    · cases h
      exact lv_dup hx hb hd1 rfl (K ls hl hS hR hl)
    · cases h
      exact lv_dup hx hb hd1 rfl (K ls hl hS hR hl)
    · cases h
  | dup2 =>
    obtain ⟨hd1, hn1⟩ := tg_len1 hd hn rfl
    subst hn1
    dsimp only [tg_ex] at h
    split at h
    · cases h
      exact lv_dup2_11 hx hb hd1 rfl rfl (K ls hl hS hR hl)
    · cases h
      exact lv_dup2_11 hx hb hd1 rfl rfl (K ls hl hS hR hl)
    · cases h
  | pop =>
    obtain ⟨hd1, hn1⟩ := tg_len1 hd hn rfl
    subst hn1
    dsimp only [tg_ex] at h
    split at h
    · cases h
      exact lv_pop hx hb hd1 rfl (K ls hl hS hR hl)
    · cases h
  | goto o =>
    obtain ⟨hd1, hn1⟩ := tg_len1 hd hn rfl
    subst hn1
    have hk := of_decide_eq_true hI
    cases h
    exact lv_goto hx hb hd1 hk (K ls hl hS hR hl)
  | getfield idx =>
    obtain ⟨hd1, hn1⟩ := tg_len1 hd hn rfl
    subst hn1
    simp only [tg_okI, Bool.and_eq_true, decide_eq_true_eq] at hI
    obtain ⟨⟨hci, hkN⟩, hw⟩ := hI
    dsimp only [tg_ex] at h
    split at h
    · rename_i a r
      split at h
      · rename_i o ho
        cases hb2 : Nat.beq o.1 (tg_gd f 0) with
        | false => rw [hb2] at h; cases h
        | true =>
          rw [hb2] at h
          simp only [cond_true] at h
          cases hu : tg_nth o.2 (tg_gd f 1) with
          | none => rw [hu] at h; cases h
          | some u =>
            rw [hu] at h
            cases h
            have e0 := Nat.eq_of_beq_eq_true hb2
            have hg := tg_lk_ws (G := G) ho
            rw [tg_nth_eq] at hu
            refine va_get (C := (tg_cls o.1).1) (T := (tg_cls o.1).2.1) (N := (tg_cls o.1).2.2) (fs := o.2.map (tg_v G)) (v := tg_v G u) hx hb hts (fun w hw => tg_wdG (tg_lays o.1 (by rw [e0]; exact hci) w hw)) hown hfix.1 hR.1 (tg_pc w a) hg (tg_clsok o.1 (by rw [e0]; exact hci)) (tg_gd f 1) (by rw [e0]; exact hkN) (by rw [e0]; exact hts _ (tg_wdG (tg_is_mem hw))) (fun x hx => hx) (by rw [List.getElem?_map, hu]; rfl) hd1 (K ls hl hS hR hl)
      · cases h
    · cases h
  | idiv =>
    obtain ⟨hd1, hn1⟩ := tg_len1 hd hn rfl
    subst hn1
    dsimp only [tg_ex] at h
    split at h
    · rename_i y x r
      cases hz : decide (y = 0) with
      | true => rw [hz] at h; cases h
      | false =>
        rw [hz] at h
        cases h
        exact lv_idiv hx hb hd1 (of_decide_eq_false hz) (K ls hl hS hR hl)
    · cases h
  | irem =>
    obtain ⟨hd1, hn1⟩ := tg_len1 hd hn rfl
    subst hn1
    dsimp only [tg_ex] at h
    split at h
    · rename_i y x r
      cases hz : decide (y = 0) with
      | true => rw [hz] at h; cases h
      | false =>
        rw [hz] at h
        cases h
        exact lv_irem hx hb hd1 (of_decide_eq_false hz) (by rw [tg_rem]; exact K ls hl hS hR hl)
    · cases h
  | arraylength =>
    obtain ⟨hd1, hn1⟩ := tg_len1 hd hn rfl
    subst hn1
    dsimp only [tg_ex] at h
    split at h
    · rename_i a r
      split at h
      · rename_i q hq
        cases h
        exact va_alen hx hb hfix.1 hR.1 (tg_pc w a) 0 (tg_lk_ws (G := G) hq) rfl rfl hd1 (K ls hl hS hR hl)
      · cases h
    · cases h
  | putfield idx =>
    obtain ⟨hd1, hn1⟩ := tg_len1 hd hn rfl
    subst hn1
    simp only [tg_okI, Bool.and_eq_true, decide_eq_true_eq] at hI
    obtain ⟨⟨⟨hci, hkN⟩, hw⟩, hfl⟩ := hI
    dsimp only [tg_ex] at h
    split at h
    · rename_i x a r
      split at h
      · rename_i o ho
        cases hb2 : (Nat.beq o.1 (tg_gd f 0) && Nat.blt (tg_gd f 1) o.2.length && Nat.beq (tg_gd f 4) 0) with
        | false => rw [hb2] at h; cases h
        | true =>
          rw [hb2] at h
          simp only [cond_true] at h
          cases h
          simp only [Bool.and_eq_true] at hb2
          have e0 := Nat.eq_of_beq_eq_true hb2.1.1
          have e4 := Nat.eq_of_beq_eq_true hb2.2
          rw [e4] at hfl
          have hfl := of_decide_eq_true hfl
          have hlen : tg_gd f 1 < o.2.length := by have := hb2.1.2; simp only [Nat.blt_eq] at this; exact this
          exact tg_wput (u := .int x) hx hb hts hown hfix.1 hR hS ho (by rw [e0]; exact hci) (tg_gd f 1) (by rw [e0]; exact hkN) (by rw [e0]; exact hts _ (tg_wdG (tg_is_mem hw))) (by rw [e0]; exact hfl.2) (by rw [e0]; exact hfl.1) rfl rfl hlen hd1 (fun H1 locs1 hS1 hR1 => k p l en R s mi args below meth c H1 locs1 ls C hS1 hR1 hl)
      · cases h
    · rename_i x a r
      split at h
      · rename_i o ho
        cases hb2 : (Nat.beq o.1 (tg_gd f 0) && Nat.blt (tg_gd f 1) o.2.length && Nat.beq (tg_gd f 4) 2) with
        | false => rw [hb2] at h; cases h
        | true =>
          rw [hb2] at h
          simp only [cond_true] at h
          cases h
          simp only [Bool.and_eq_true] at hb2
          have e0 := Nat.eq_of_beq_eq_true hb2.1.1
          have e4 := Nat.eq_of_beq_eq_true hb2.2
          rw [e4] at hfl
          simp only [Bool.and_eq_true, decide_eq_true_eq] at hfl
          obtain ⟨hty, hfin, hmn, hdecl⟩ := hfl
          have hlen : tg_gd f 1 < o.2.length := by have := hb2.1.2; simp only [Nat.blt_eq] at this; exact this
          obtain ⟨ty, hpar, hnar, hfit⟩ : ∃ ty, parseFieldDescriptor ((tg_cls (tg_gd f 0)).2.1 (tg_gd f 1)).2.2.1 = some ty ∧ narrow ty (.ref (tg_ad G x)) = .ref (tg_ad G x) ∧ fits ty (.ref (tg_ad G x)) = true := by
            split at hty
            · rename_i z hz; exact ⟨_, hz, rfl, rfl⟩
            · rename_i z hz; exact ⟨_, hz, rfl, rfl⟩
            · cases hty
          exact tg_wputF (u := .ref x) hx hb hts hown hfix.1 hR hS ho (by rw [e0]; exact hci) (tg_gd f 1) (by rw [e0]; exact hkN) (by rw [e0]; exact hts _ (tg_wdG (tg_is_mem hw))) (by rw [e0]; exact hfin) (hnm.trans hmn) (by rw [e0]; exact hdecl) (by rw [e0]; exact hpar) hnar hfit hlen hd1 (fun H1 locs1 hS1 hR1 => k p l en R s mi args below meth c H1 locs1 ls C hS1 hR1 hl)
      · cases h
    · cases h
  | _ => cases h
end
section
/-! several straight steps; branches; divisions; rows; returns -/
def tg_run (R : List (Nat × List tg_E)) : Nat → Nat → List (Nat × Value) → List Value → tg_W → Option tg_S
  | 0, pc, L, st, w => some (pc, L, st, w)
  | n + 1, pc, L, st, w => match tg_f R pc with
    | some (ins, nx, f, _, v, _) => match tg_ex ins nx f v L st w with
      | some (pc', L', st', w') => tg_run R n pc' L' st' w'
      | none => none
    | none => none
theorem tg_steps {G : tg_G} {lv : Nat} {m : tg_M} {kc ks mc ms : Nat} {Q : Option Value → tg_W → Prop} (n : Nat) : ∀ {pc : Nat} {L : List (Nat × Value)} {st : List Value} {w : tg_W} {pc' : Nat} {L' : List (Nat × Value)} {st' : List Value} {w' : tg_W} (_ : tg_run m.2.2.2.2.2 n pc L st w = some (pc', L', st', w')) (_ : tg_V G lv m kc ks mc ms Q pc' L' st' w'), tg_V G lv m kc ks mc ms Q pc L st w := by
  induction n with
  | zero =>
    intro pc L st w pc' L' st' w' h k
    cases h
    exact k
  | succ n ih =>
    intro pc L st w pc' L' st' w' h k
    unfold tg_run at h
    split at h
    · rename_i ins nx f y v cs he
      split at h
      · rename_i pc1 L1 st1 w1 hx
        exact tg_step he hx (ih h k)
      · cases h
    · cases h
theorem tg_wk {G : tg_G} {lv : Nat} {m : tg_M} {kc ks mc ms : Nat} {Q : Option Value → tg_W → Prop} {pc : Nat} {L : List (Nat × Value)} {st : List Value} {w : tg_W} {Q' : Option Value → tg_W → Prop} (h : tg_V G lv m kc ks mc ms Q' pc L st w) (hQ : ∀ r w', Q' r w' → Q r w') : tg_V G lv m kc ks mc ms Q pc L st w := by
  intro p l en R s mi args below meth c H locs ls C hS hR hl T hT X
  obtain ⟨t, a, o, b1, b2, ⟨⟨r, w', c1, c2, c3⟩, c4⟩, b4⟩ := h p l en R s mi args below meth c H locs ls C hS hR hl T hT X
  exact ⟨t, a, o, b1, b2, ⟨⟨r, w', c1, hQ r w' c2, c3⟩, c4⟩, b4⟩
theorem tg_eqW {G : tg_G} {lv : Nat} {m : tg_M} {kc ks mc ms : Nat} {Q : Option Value → tg_W → Prop} {pc : Nat} {L : List (Nat × Value)} {st : List Value} {w : tg_W} {w2 : tg_W} (e : w = w2) (h : tg_V G lv m kc ks mc ms Q pc L st w2) : tg_V G lv m kc ks mc ms Q pc L st w := e ▸ h
theorem tg_eqS {G : tg_G} {lv : Nat} {m : tg_M} {kc ks mc ms : Nat} {Q : Option Value → tg_W → Prop} {pc : Nat} {L : List (Nat × Value)} {st : List Value} {w : tg_W} {L2 : List (Nat × Value)} {st2 : List Value} {w2 : tg_W} (e1 : L = L2) (e2 : st = st2) (e : w = w2) (h : tg_V G lv m kc ks mc ms Q pc L2 st2 w2) : tg_V G lv m kc ks mc ms Q pc L st w := by
  subst e1; subst e2; subst e; exact h
/-- fewer locals -/
theorem tg_sub {G : tg_G} {lv : Nat} {m : tg_M} {kc ks mc ms : Nat} {Q : Option Value → tg_W → Prop} {pc : Nat} {L : List (Nat × Value)} {st : List Value} {w : tg_W} {L2 : List (Nat × Value)} (hs : ∀ k u, tg_get L2 k = some u → tg_get L k = some u) (h0 : ∀ q ∈ L2, tg_get L2 q.1 = some q.2) (h : tg_V G lv m kc ks mc ms Q pc L2 st w) : tg_V G lv m kc ks mc ms Q pc L st w := by
  intro p l en R s mi args below meth c H locs ls C hS hR hl
  refine h p l en R s mi args below meth c H locs ls C hS hR (tg_has_sub hl fun q hq => ?_)
  obtain ⟨a, ha, rfl⟩ := List.mem_map.mp hq
  exact List.mem_map.mpr ⟨a, tg_get_mem (hs _ _ (h0 a ha)), rfl⟩
/-- an induction from above -/
theorem tg_down {φ : Nat → Prop} {n : Nat} (hn : φ n) (hs : ∀ i, i < n → φ (i + 1) → φ i) : ∀ i, i ≤ n → φ i := by
  intro i hi
  obtain ⟨d, hd⟩ := Nat.exists_eq_add_of_le hi
  induction d generalizing i with
  | zero => rw [hd] at hn; exact hn
  | succ d ih => exact hs i (by omega) (ih (i + 1) (by omega) (by omega))
theorem tg_ifeq {G : tg_G} {lv : Nat} {m : tg_M} {kc ks mc ms : Nat} {Q : Option Value → tg_W → Prop} {pc : Nat} {L : List (Nat × Value)} {st : List Value} {w : tg_W} {o : Int} {x : Int32} {nx : Nat} {f : List Nat} {y : MethodName} {v : Value} {cs : List (Int32 × Nat)} {tgt : Nat} (he : tg_f m.2.2.2.2.2 pc = some (.ifCond .eq o, nx, f, y, v, cs)) (ht : tg_gd f 0 = tgt) (kt : x = 0 → tg_V G lv m kc ks mc ms Q tgt L st w) (kf : ¬ x = 0 → tg_V G lv m kc ks mc ms Q nx L st w) : tg_V G lv m kc ks mc ms Q pc L (.int x :: st) w := by
  intro p l en R s mi args below meth c H locs ls C hS hR hl
  obtain ⟨hok, hx, hb, hmx, hr, hlk, hnm, hown, hts, hfix, hbase, hroom⟩ := id C
  obtain ⟨hd, hn, hI⟩ := tg_dec hok he
  obtain ⟨hd1, hn1⟩ := tg_len1 hd hn rfl
  subst hn1
  subst ht
  exact lv_if_eq hx hb hd1 (of_decide_eq_true hI) (fun z => kt z p l en R s mi args below meth c H locs ls C hS hR hl) (fun z => kf z p l en R s mi args below meth c H locs ls C hS hR hl)
theorem tg_iceq {G : tg_G} {lv : Nat} {m : tg_M} {kc ks mc ms : Nat} {Q : Option Value → tg_W → Prop} {pc : Nat} {L : List (Nat × Value)} {st : List Value} {w : tg_W} {o : Int} {x z : Int32} {nx : Nat} {f : List Nat} {y : MethodName} {v : Value} {cs : List (Int32 × Nat)} {tgt : Nat} (he : tg_f m.2.2.2.2.2 pc = some (.if_icmp .eq o, nx, f, y, v, cs)) (ht : tg_gd f 0 = tgt) (kt : x = z → tg_V G lv m kc ks mc ms Q tgt L st w) (kf : ¬ x = z → tg_V G lv m kc ks mc ms Q nx L st w) : tg_V G lv m kc ks mc ms Q pc L (.int z :: .int x :: st) w := by
  intro p l en R s mi args below meth c H locs ls C hS hR hl
  obtain ⟨hok, hx, hb, hmx, hr, hlk, hnm, hown, hts, hfix, hbase, hroom⟩ := id C
  obtain ⟨hd, hn, hI⟩ := tg_dec hok he
  obtain ⟨hd1, hn1⟩ := tg_len1 hd hn rfl
  subst hn1
  subst ht
  exact lv_icmp_eq hx hb hd1 (of_decide_eq_true hI) (fun z => kt z p l en R s mi args below meth c H locs ls C hS hR hl) (fun z => kf z p l en R s mi args below meth c H locs ls C hS hR hl)
theorem tg_ifne {G : tg_G} {lv : Nat} {m : tg_M} {kc ks mc ms : Nat} {Q : Option Value → tg_W → Prop} {pc : Nat} {L : List (Nat × Value)} {st : List Value} {w : tg_W} {o : Int} {x : Int32} {nx : Nat} {f : List Nat} {y : MethodName} {v : Value} {cs : List (Int32 × Nat)} {tgt : Nat} (he : tg_f m.2.2.2.2.2 pc = some (.ifCond .ne o, nx, f, y, v, cs)) (ht : tg_gd f 0 = tgt) (kt : ¬ x = 0 → tg_V G lv m kc ks mc ms Q tgt L st w) (kf : x = 0 → tg_V G lv m kc ks mc ms Q nx L st w) : tg_V G lv m kc ks mc ms Q pc L (.int x :: st) w := by
  intro p l en R s mi args below meth c H locs ls C hS hR hl
  obtain ⟨hok, hx, hb, hmx, hr, hlk, hnm, hown, hts, hfix, hbase, hroom⟩ := id C
  obtain ⟨hd, hn, hI⟩ := tg_dec hok he
  obtain ⟨hd1, hn1⟩ := tg_len1 hd hn rfl
  subst hn1
  subst ht
  exact lv_if_ne hx hb hd1 (of_decide_eq_true hI) (fun z => kt z p l en R s mi args below meth c H locs ls C hS hR hl) (fun z => kf z p l en R s mi args below meth c H locs ls C hS hR hl)
theorem tg_icne {G : tg_G} {lv : Nat} {m : tg_M} {kc ks mc ms : Nat} {Q : Option Value → tg_W → Prop} {pc : Nat} {L : List (Nat × Value)} {st : List Value} {w : tg_W} {o : Int} {x z : Int32} {nx : Nat} {f : List Nat} {y : MethodName} {v : Value} {cs : List (Int32 × Nat)} {tgt : Nat} (he : tg_f m.2.2.2.2.2 pc = some (.if_icmp .ne o, nx, f, y, v, cs)) (ht : tg_gd f 0 = tgt) (kt : ¬ x = z → tg_V G lv m kc ks mc ms Q tgt L st w) (kf : x = z → tg_V G lv m kc ks mc ms Q nx L st w) : tg_V G lv m kc ks mc ms Q pc L (.int z :: .int x :: st) w := by
  intro p l en R s mi args below meth c H locs ls C hS hR hl
  obtain ⟨hok, hx, hb, hmx, hr, hlk, hnm, hown, hts, hfix, hbase, hroom⟩ := id C
  obtain ⟨hd, hn, hI⟩ := tg_dec hok he
  obtain ⟨hd1, hn1⟩ := tg_len1 hd hn rfl
  subst hn1
  subst ht
  exact lv_icmp_ne hx hb hd1 (of_decide_eq_true hI) (fun z => kt z p l en R s mi args below meth c H locs ls C hS hR hl) (fun z => kf z p l en R s mi args below meth c H locs ls C hS hR hl)
theorem tg_iflt {G : tg_G} {lv : Nat} {m : tg_M} {kc ks mc ms : Nat} {Q : Option Value → tg_W → Prop} {pc : Nat} {L : List (Nat × Value)} {st : List Value} {w : tg_W} {o : Int} {x : Int32} {nx : Nat} {f : List Nat} {y : MethodName} {v : Value} {cs : List (Int32 × Nat)} {tgt : Nat} (he : tg_f m.2.2.2.2.2 pc = some (.ifCond .lt o, nx, f, y, v, cs)) (ht : tg_gd f 0 = tgt) (kt : x < 0 → tg_V G lv m kc ks mc ms Q tgt L st w) (kf : ¬ x < 0 → tg_V G lv m kc ks mc ms Q nx L st w) : tg_V G lv m kc ks mc ms Q pc L (.int x :: st) w := by
  intro p l en R s mi args below meth c H locs ls C hS hR hl
  obtain ⟨hok, hx, hb, hmx, hr, hlk, hnm, hown, hts, hfix, hbase, hroom⟩ := id C
  obtain ⟨hd, hn, hI⟩ := tg_dec hok he
  obtain ⟨hd1, hn1⟩ := tg_len1 hd hn rfl
  subst hn1
  subst ht
  exact lv_if_lt hx hb hd1 (of_decide_eq_true hI) (fun z => kt z p l en R s mi args below meth c H locs ls C hS hR hl) (fun z => kf z p l en R s mi args below meth c H locs ls C hS hR hl)
theorem tg_iclt {G : tg_G} {lv : Nat} {m : tg_M} {kc ks mc ms : Nat} {Q : Option Value → tg_W → Prop} {pc : Nat} {L : List (Nat × Value)} {st : List Value} {w : tg_W} {o : Int} {x z : Int32} {nx : Nat} {f : List Nat} {y : MethodName} {v : Value} {cs : List (Int32 × Nat)} {tgt : Nat} (he : tg_f m.2.2.2.2.2 pc = some (.if_icmp .lt o, nx, f, y, v, cs)) (ht : tg_gd f 0 = tgt) (kt : x < z → tg_V G lv m kc ks mc ms Q tgt L st w) (kf : ¬ x < z → tg_V G lv m kc ks mc ms Q nx L st w) : tg_V G lv m kc ks mc ms Q pc L (.int z :: .int x :: st) w := by
  intro p l en R s mi args below meth c H locs ls C hS hR hl
  obtain ⟨hok, hx, hb, hmx, hr, hlk, hnm, hown, hts, hfix, hbase, hroom⟩ := id C
  obtain ⟨hd, hn, hI⟩ := tg_dec hok he
  obtain ⟨hd1, hn1⟩ := tg_len1 hd hn rfl
  subst hn1
  subst ht
  exact lv_icmp_lt hx hb hd1 (of_decide_eq_true hI) (fun z => kt z p l en R s mi args below meth c H locs ls C hS hR hl) (fun z => kf z p l en R s mi args below meth c H locs ls C hS hR hl)
theorem tg_ifge {G : tg_G} {lv : Nat} {m : tg_M} {kc ks mc ms : Nat} {Q : Option Value → tg_W → Prop} {pc : Nat} {L : List (Nat × Value)} {st : List Value} {w : tg_W} {o : Int} {x : Int32} {nx : Nat} {f : List Nat} {y : MethodName} {v : Value} {cs : List (Int32 × Nat)} {tgt : Nat} (he : tg_f m.2.2.2.2.2 pc = some (.ifCond .ge o, nx, f, y, v, cs)) (ht : tg_gd f 0 = tgt) (kt : 0 ≤ x → tg_V G lv m kc ks mc ms Q tgt L st w) (kf : ¬ 0 ≤ x → tg_V G lv m kc ks mc ms Q nx L st w) : tg_V G lv m kc ks mc ms Q pc L (.int x :: st) w := by
  intro p l en R s mi args below meth c H locs ls C hS hR hl
  obtain ⟨hok, hx, hb, hmx, hr, hlk, hnm, hown, hts, hfix, hbase, hroom⟩ := id C
  obtain ⟨hd, hn, hI⟩ := tg_dec hok he
  obtain ⟨hd1, hn1⟩ := tg_len1 hd hn rfl
  subst hn1
  subst ht
  exact lv_if_ge hx hb hd1 (of_decide_eq_true hI) (fun z => kt z p l en R s mi args below meth c H locs ls C hS hR hl) (fun z => kf z p l en R s mi args below meth c H locs ls C hS hR hl)
theorem tg_icge {G : tg_G} {lv : Nat} {m : tg_M} {kc ks mc ms : Nat} {Q : Option Value → tg_W → Prop} {pc : Nat} {L : List (Nat × Value)} {st : List Value} {w : tg_W} {o : Int} {x z : Int32} {nx : Nat} {f : List Nat} {y : MethodName} {v : Value} {cs : List (Int32 × Nat)} {tgt : Nat} (he : tg_f m.2.2.2.2.2 pc = some (.if_icmp .ge o, nx, f, y, v, cs)) (ht : tg_gd f 0 = tgt) (kt : z ≤ x → tg_V G lv m kc ks mc ms Q tgt L st w) (kf : ¬ z ≤ x → tg_V G lv m kc ks mc ms Q nx L st w) : tg_V G lv m kc ks mc ms Q pc L (.int z :: .int x :: st) w := by
  intro p l en R s mi args below meth c H locs ls C hS hR hl
  obtain ⟨hok, hx, hb, hmx, hr, hlk, hnm, hown, hts, hfix, hbase, hroom⟩ := id C
  obtain ⟨hd, hn, hI⟩ := tg_dec hok he
  obtain ⟨hd1, hn1⟩ := tg_len1 hd hn rfl
  subst hn1
  subst ht
  exact lv_icmp_ge hx hb hd1 (of_decide_eq_true hI) (fun z => kt z p l en R s mi args below meth c H locs ls C hS hR hl) (fun z => kf z p l en R s mi args below meth c H locs ls C hS hR hl)
theorem tg_ifgt {G : tg_G} {lv : Nat} {m : tg_M} {kc ks mc ms : Nat} {Q : Option Value → tg_W → Prop} {pc : Nat} {L : List (Nat × Value)} {st : List Value} {w : tg_W} {o : Int} {x : Int32} {nx : Nat} {f : List Nat} {y : MethodName} {v : Value} {cs : List (Int32 × Nat)} {tgt : Nat} (he : tg_f m.2.2.2.2.2 pc = some (.ifCond .gt o, nx, f, y, v, cs)) (ht : tg_gd f 0 = tgt) (kt : 0 < x → tg_V G lv m kc ks mc ms Q tgt L st w) (kf : ¬ 0 < x → tg_V G lv m kc ks mc ms Q nx L st w) : tg_V G lv m kc ks mc ms Q pc L (.int x :: st) w := by
  intro p l en R s mi args below meth c H locs ls C hS hR hl
  obtain ⟨hok, hx, hb, hmx, hr, hlk, hnm, hown, hts, hfix, hbase, hroom⟩ := id C
  obtain ⟨hd, hn, hI⟩ := tg_dec hok he
  obtain ⟨hd1, hn1⟩ := tg_len1 hd hn rfl
  subst hn1
  subst ht
  exact lv_if_gt hx hb hd1 (of_decide_eq_true hI) (fun z => kt z p l en R s mi args below meth c H locs ls C hS hR hl) (fun z => kf z p l en R s mi args below meth c H locs ls C hS hR hl)
theorem tg_icgt {G : tg_G} {lv : Nat} {m : tg_M} {kc ks mc ms : Nat} {Q : Option Value → tg_W → Prop} {pc : Nat} {L : List (Nat × Value)} {st : List Value} {w : tg_W} {o : Int} {x z : Int32} {nx : Nat} {f : List Nat} {y : MethodName} {v : Value} {cs : List (Int32 × Nat)} {tgt : Nat} (he : tg_f m.2.2.2.2.2 pc = some (.if_icmp .gt o, nx, f, y, v, cs)) (ht : tg_gd f 0 = tgt) (kt : z < x → tg_V G lv m kc ks mc ms Q tgt L st w) (kf : ¬ z < x → tg_V G lv m kc ks mc ms Q nx L st w) : tg_V G lv m kc ks mc ms Q pc L (.int z :: .int x :: st) w := by
  intro p l en R s mi args below meth c H locs ls C hS hR hl
  obtain ⟨hok, hx, hb, hmx, hr, hlk, hnm, hown, hts, hfix, hbase, hroom⟩ := id C
  obtain ⟨hd, hn, hI⟩ := tg_dec hok he
  obtain ⟨hd1, hn1⟩ := tg_len1 hd hn rfl
  subst hn1
  subst ht
  exact lv_icmp_gt hx hb hd1 (of_decide_eq_true hI) (fun z => kt z p l en R s mi args below meth c H locs ls C hS hR hl) (fun z => kf z p l en R s mi args below meth c H locs ls C hS hR hl)
theorem tg_ifle {G : tg_G} {lv : Nat} {m : tg_M} {kc ks mc ms : Nat} {Q : Option Value → tg_W → Prop} {pc : Nat} {L : List (Nat × Value)} {st : List Value} {w : tg_W} {o : Int} {x : Int32} {nx : Nat} {f : List Nat} {y : MethodName} {v : Value} {cs : List (Int32 × Nat)} {tgt : Nat} (he : tg_f m.2.2.2.2.2 pc = some (.ifCond .le o, nx, f, y, v, cs)) (ht : tg_gd f 0 = tgt) (kt : x ≤ 0 → tg_V G lv m kc ks mc ms Q tgt L st w) (kf : ¬ x ≤ 0 → tg_V G lv m kc ks mc ms Q nx L st w) : tg_V G lv m kc ks mc ms Q pc L (.int x :: st) w := by
  intro p l en R s mi args below meth c H locs ls C hS hR hl
  obtain ⟨hok, hx, hb, hmx, hr, hlk, hnm, hown, hts, hfix, hbase, hroom⟩ := id C
  obtain ⟨hd, hn, hI⟩ := tg_dec hok he
  obtain ⟨hd1, hn1⟩ := tg_len1 hd hn rfl
  subst hn1
  subst ht
  exact lv_if_le hx hb hd1 (of_decide_eq_true hI) (fun z => kt z p l en R s mi args below meth c H locs ls C hS hR hl) (fun z => kf z p l en R s mi args below meth c H locs ls C hS hR hl)
theorem tg_icle {G : tg_G} {lv : Nat} {m : tg_M} {kc ks mc ms : Nat} {Q : Option Value → tg_W → Prop} {pc : Nat} {L : List (Nat × Value)} {st : List Value} {w : tg_W} {o : Int} {x z : Int32} {nx : Nat} {f : List Nat} {y : MethodName} {v : Value} {cs : List (Int32 × Nat)} {tgt : Nat} (he : tg_f m.2.2.2.2.2 pc = some (.if_icmp .le o, nx, f, y, v, cs)) (ht : tg_gd f 0 = tgt) (kt : x ≤ z → tg_V G lv m kc ks mc ms Q tgt L st w) (kf : ¬ x ≤ z → tg_V G lv m kc ks mc ms Q nx L st w) : tg_V G lv m kc ks mc ms Q pc L (.int z :: .int x :: st) w := by
  intro p l en R s mi args below meth c H locs ls C hS hR hl
  obtain ⟨hok, hx, hb, hmx, hr, hlk, hnm, hown, hts, hfix, hbase, hroom⟩ := id C
  obtain ⟨hd, hn, hI⟩ := tg_dec hok he
  obtain ⟨hd1, hn1⟩ := tg_len1 hd hn rfl
  subst hn1
  subst ht
  exact lv_icmp_le hx hb hd1 (of_decide_eq_true hI) (fun z => kt z p l en R s mi args below meth c H locs ls C hS hR hl) (fun z => kf z p l en R s mi args below meth c H locs ls C hS hR hl)
def tg_b (b : Bool) : Int32 := bif b then 1 else 0
theorem tg_b1 (b : Bool) : tg_b b = 0 ∨ tg_b b = 1 := by cases b <;> simp [tg_b]
theorem tg_ifbeq {G : tg_G} {lv : Nat} {m : tg_M} {kc ks mc ms : Nat} {Q : Option Value → tg_W → Prop} {pc : Nat} {L : List (Nat × Value)} {st : List Value} {w : tg_W} {o : Int} {x : Bool} {nx : Nat} {f : List Nat} {y : MethodName} {v : Value} {cs : List (Int32 × Nat)} {tgt : Nat} (he : tg_f m.2.2.2.2.2 pc = some (.ifCond .eq o, nx, f, y, v, cs)) (ht : tg_gd f 0 = tgt) (kt : x = false → tg_V G lv m kc ks mc ms Q tgt L st w) (kf : x = true → tg_V G lv m kc ks mc ms Q nx L st w) : tg_V G lv m kc ks mc ms Q pc L (.int (tg_b x) :: st) w := by
  refine tg_ifeq he ht (fun z => kt ?_) (fun z => kf ?_) <;> cases x <;> revert z <;> decide
theorem tg_ifbne {G : tg_G} {lv : Nat} {m : tg_M} {kc ks mc ms : Nat} {Q : Option Value → tg_W → Prop} {pc : Nat} {L : List (Nat × Value)} {st : List Value} {w : tg_W} {o : Int} {x : Bool} {nx : Nat} {f : List Nat} {y : MethodName} {v : Value} {cs : List (Int32 × Nat)} {tgt : Nat} (he : tg_f m.2.2.2.2.2 pc = some (.ifCond .ne o, nx, f, y, v, cs)) (ht : tg_gd f 0 = tgt) (kt : x = true → tg_V G lv m kc ks mc ms Q tgt L st w) (kf : x = false → tg_V G lv m kc ks mc ms Q nx L st w) : tg_V G lv m kc ks mc ms Q pc L (.int (tg_b x) :: st) w := by
  refine tg_ifne he ht (fun z => kt ?_) (fun z => kf ?_) <;> cases x <;> revert z <;> decide
theorem tg_idiv {G : tg_G} {lv : Nat} {m : tg_M} {kc ks mc ms : Nat} {Q : Option Value → tg_W → Prop} {pc : Nat} {L : List (Nat × Value)} {st : List Value} {w : tg_W} {x z : Int32} {nx : Nat} {f : List Nat} {y : MethodName} {v : Value} {cs : List (Int32 × Nat)} (he : tg_f m.2.2.2.2.2 pc = some (.idiv, nx, f, y, v, cs)) (hz : ¬ z = 0) (k : tg_V G lv m kc ks mc ms Q nx L (.int (x / z) :: st) w) : tg_V G lv m kc ks mc ms Q pc L (.int z :: .int x :: st) w := by
  intro p l en R s mi args below meth c H locs ls C hS hR hl
  obtain ⟨hok, hx, hb, hmx, hr, hlk, hnm, hown, hts, hfix, hbase, hroom⟩ := id C
  obtain ⟨hd, hn, hI⟩ := tg_dec hok he
  obtain ⟨hd1, hn1⟩ := tg_len1 hd hn rfl
  subst hn1
  exact lv_idiv hx hb hd1 hz (k p l en R s mi args below meth c H locs ls C hS hR hl)
theorem tg_irem {G : tg_G} {lv : Nat} {m : tg_M} {kc ks mc ms : Nat} {Q : Option Value → tg_W → Prop} {pc : Nat} {L : List (Nat × Value)} {st : List Value} {w : tg_W} {x z : Int32} {nx : Nat} {f : List Nat} {y : MethodName} {v : Value} {cs : List (Int32 × Nat)} (he : tg_f m.2.2.2.2.2 pc = some (.irem, nx, f, y, v, cs)) (hz : ¬ z = 0) (k : tg_V G lv m kc ks mc ms Q nx L (.int (x % z) :: st) w) : tg_V G lv m kc ks mc ms Q pc L (.int z :: .int x :: st) w := by
  intro p l en R s mi args below meth c H locs ls C hS hR hl
  obtain ⟨hok, hx, hb, hmx, hr, hlk, hnm, hown, hts, hfix, hbase, hroom⟩ := id C
  obtain ⟨hd, hn, hI⟩ := tg_dec hok he
  obtain ⟨hd1, hn1⟩ := tg_len1 hd hn rfl
  subst hn1
  exact lv_irem hx hb hd1 hz (by rw [tg_rem]; exact k p l en R s mi args below meth c H locs ls C hS hR hl)
theorem tg_ldivv {G : tg_G} {lv : Nat} {m : tg_M} {kc ks mc ms : Nat} {Q : Option Value → tg_W → Prop} {pc : Nat} {L : List (Nat × Value)} {st : List Value} {w : tg_W} {x z : Int64} {nx : Nat} {f : List Nat} {y : MethodName} {v : Value} {cs : List (Int32 × Nat)} (he : tg_f m.2.2.2.2.2 pc = some (.ldiv, nx, f, y, v, cs)) (hz : ¬ z = 0) (k : tg_V G lv m kc ks mc ms Q nx L (.long (x / z) :: st) w) : tg_V G lv m kc ks mc ms Q pc L (.long z :: .long x :: st) w := by
  intro p l en R s mi args below meth c H locs ls C hS hR hl
  obtain ⟨hok, hx, hb, hmx, hr, hlk, hnm, hown, hts, hfix, hbase, hroom⟩ := id C
  obtain ⟨hd, hn, hI⟩ := tg_dec hok he
  obtain ⟨hd1, hn1⟩ := tg_len1 hd hn rfl
  subst hn1
  exact lv_ldiv hx hb hd1 hz (k p l en R s mi args below meth c H locs ls C hS hR hl)
theorem tg_lremv {G : tg_G} {lv : Nat} {m : tg_M} {kc ks mc ms : Nat} {Q : Option Value → tg_W → Prop} {pc : Nat} {L : List (Nat × Value)} {st : List Value} {w : tg_W} {x z : Int64} {nx : Nat} {f : List Nat} {y : MethodName} {v : Value} {cs : List (Int32 × Nat)} (he : tg_f m.2.2.2.2.2 pc = some (.lrem, nx, f, y, v, cs)) (hz : ¬ z = 0) (k : tg_V G lv m kc ks mc ms Q nx L (.long (x % z) :: st) w) : tg_V G lv m kc ks mc ms Q pc L (.long z :: .long x :: st) w := by
  intro p l en R s mi args below meth c H locs ls C hS hR hl
  obtain ⟨hok, hx, hb, hmx, hr, hlk, hnm, hown, hts, hfix, hbase, hroom⟩ := id C
  obtain ⟨hd, hn, hI⟩ := tg_dec hok he
  obtain ⟨hd1, hn1⟩ := tg_len1 hd hn rfl
  subst hn1
  exact lv_lrem hx hb hd1 hz (by rw [tg_lrem]; exact k p l en R s mi args below meth c H locs ls C hS hR hl)
def tg_u (g : Nat → Int32) (k : Nat) (x : Int32) : Nat → Int32 := fun j => bif Nat.beq j k then x else g j
theorem tg_u_eq (g : Nat → Int32) (k : Nat) (x : Int32) (j : Nat) : tg_u g k x j = if j = k then x else g j := by
  unfold tg_u
  by_cases h : j = k
  · rw [if_pos h, h, Nat.beq_refl]; rfl
  · rw [if_neg h]
    cases hb : Nat.beq j k with
    | true => exact absurd (Nat.eq_of_beq_eq_true hb) h
    | false => rfl
theorem tg_iald {G : tg_G} {lv : Nat} {m : tg_M} {kc ks mc ms : Nat} {Q : Option Value → tg_W → Prop} {pc : Nat} {L : List (Nat × Value)} {st : List Value} {w : tg_W} {a n : Nat} {g : Nat → Int32} {i : Int32} {nx : Nat} {f : List Nat} {y : MethodName} {v : Value} {cs : List (Int32 × Nat)} (he : tg_f m.2.2.2.2.2 pc = some (.iaload, nx, f, y, v, cs)) (ha : tg_lk w a = some (.inr (n, g))) (hi : vp_in i n) (k : tg_V G lv m kc ks mc ms Q nx L (.int (g i.toNatClampNeg) :: st) w) : tg_V G lv m kc ks mc ms Q pc L (.int i :: .ref a :: st) w := by
  intro p l en R s mi args below meth c H locs ls C hS hR hl
  obtain ⟨hok, hx, hb, hmx, hr, hlk, hnm, hown, hts, hfix, hbase, hroom⟩ := id C
  obtain ⟨hd, hn, hI⟩ := tg_dec hok he
  obtain ⟨hd1, hn1⟩ := tg_len1 hd hn rfl
  subst hn1
  exact va_iald hx hb hfix.1 hR.1 (tg_pc w a) 0 (tg_lk_ws (G := G) ha) rfl hi hd1 (k p l en R s mi args below meth c H locs ls C hS hR hl)
theorem tg_ialdN {G : tg_G} {lv : Nat} {m : tg_M} {kc ks mc ms : Nat} {Q : Option Value → tg_W → Prop} {pc : Nat} {L : List (Nat × Value)} {st : List Value} {w : tg_W} {a n : Nat} {g : Nat → Int32} {i : Int32} {nx : Nat} {f : List Nat} {y : MethodName} {v : Value} {cs : List (Int32 × Nat)} (he : tg_f m.2.2.2.2.2 pc = some (.iaload, nx, f, y, v, cs)) (ha : tg_lk w a = some (.inr (n, g))) (j : Nat) (hj : i = nI j) (hjn : j < n) (hn : n < 2 ^ 31) (k : tg_V G lv m kc ks mc ms Q nx L (.int (g j) :: st) w) : tg_V G lv m kc ks mc ms Q pc L (.int i :: .ref a :: st) w := by
  subst hj
  have hc : (nI j).toNatClampNeg = j := nI_clamp (by omega)
  exact tg_iald he ha (nI_in hjn hn) (by rw [hc]; exact k)
theorem tg_iast {G : tg_G} {lv : Nat} {m : tg_M} {kc ks mc ms : Nat} {Q : Option Value → tg_W → Prop} {pc : Nat} {L : List (Nat × Value)} {st : List Value} {w : tg_W} {a n : Nat} {g : Nat → Int32} {i x : Int32} {nx : Nat} {f : List Nat} {y : MethodName} {v : Value} {cs : List (Int32 × Nat)} (he : tg_f m.2.2.2.2.2 pc = some (.iastore, nx, f, y, v, cs)) (ha : tg_lk w a = some (.inr (n, g))) (hi : vp_in i n) (k : tg_V G lv m kc ks mc ms Q nx L st (tg_up w a (.inr (n, tg_u g i.toNatClampNeg x)))) : tg_V G lv m kc ks mc ms Q pc L (.int x :: .int i :: .ref a :: st) w := by
  intro p l en R s mi args below meth c H locs ls C hS hR hl
  obtain ⟨hok, hx, hb, hmx, hr, hlk, hnm, hown, hts, hfix, hbase, hroom⟩ := id C
  obtain ⟨hd, hn, hI⟩ := tg_dec hok he
  obtain ⟨hd1, hn1⟩ := tg_len1 hd hn rfl
  subst hn1
  have hD : va_D (fun q => G.1 ≤ q) (tg_ws G w) := tg_D hR.2.2.1 hR.2.2.2.1
  have hg := tg_lk_ws (G := G) ha
  refine W.iast hx hb (hR.1 (tg_pc w a) _ hg) ((hfix.1.2 0 _ rfl).1 n (fun j => .int (g j))) (fun q => by cases q) (by show ¬ (i < 0 ∨ (arrV _ _ _).slots.size ≤ _); rw [arrV_size]; exact hi) rfl rfl hd1 fun H1 e z oq => ?_
  refine k p l en R s mi args below meth c H1 _ ls C (hS.put z oq (hD.2 _ _ hg)) (tg_R_up hR ha (hR.1.set hD hg ?_ oq) z) hl
  show H1[tg_ad G a]? = some (vp_cell _ _)
  rw [e]
  show some ((arrV _ n fun j => .int (g j)).setSlot _ _) = some (arrV _ n fun j => .int (tg_u g i.toNatClampNeg x j))
  rw [arrV_store]
  congr 2
  funext q
  rw [tg_u_eq]
  by_cases hq : q = i.toNatClampNeg
  · subst hq
    simp [updV]
  · simp [updV, hq]
theorem tg_iastN {G : tg_G} {lv : Nat} {m : tg_M} {kc ks mc ms : Nat} {Q : Option Value → tg_W → Prop} {pc : Nat} {L : List (Nat × Value)} {st : List Value} {w : tg_W} {a n : Nat} {g : Nat → Int32} {i x : Int32} {nx : Nat} {f : List Nat} {y : MethodName} {v : Value} {cs : List (Int32 × Nat)} (he : tg_f m.2.2.2.2.2 pc = some (.iastore, nx, f, y, v, cs)) (ha : tg_lk w a = some (.inr (n, g))) (j : Nat) (hj : i = nI j) (hjn : j < n) (hn : n < 2 ^ 31) (k : tg_V G lv m kc ks mc ms Q nx L st (tg_up w a (.inr (n, tg_u g j x)))) : tg_V G lv m kc ks mc ms Q pc L (.int x :: .int i :: .ref a :: st) w := by
  subst hj
  have hc : (nI j).toNatClampNeg = j := nI_clamp (by omega)
  exact tg_iast he ha (nI_in hjn hn) (by rw [hc]; exact k)
theorem tg_putz {G : tg_G} {lv : Nat} {m : tg_M} {kc ks mc ms : Nat} {Q : Option Value → tg_W → Prop} {pc : Nat} {L : List (Nat × Value)} {st : List Value} {w : tg_W} {a : Nat} {o : Nat × List Value} {x : Int32} {idx : Nat} {nx : Nat} {f : List Nat} {y : MethodName} {v : Value} {cs : List (Int32 × Nat)} (he : tg_f m.2.2.2.2.2 pc = some (.putfield idx, nx, f, y, v, cs)) (ha : tg_lk w a = some (.inl o)) (hx01 : x = 0 ∨ x = 1) (hs : (Nat.beq o.1 (tg_gd f 0) && Nat.blt (tg_gd f 1) o.2.length && Nat.beq (tg_gd f 4) 1) = true) (k : tg_V G lv m kc ks mc ms Q nx L st (tg_up w a (.inl (o.1, tg_setn o.2 (tg_gd f 1) (.int x))))) : tg_V G lv m kc ks mc ms Q pc L (.int x :: .ref a :: st) w := by
  intro p l en R s mi args below meth c H locs ls C hS hR hl
  obtain ⟨hok, hx, hb, hmx, hr, hlk, hnm, hown, hts, hfix, hbase, hroom⟩ := id C
  obtain ⟨hd, hn, hI⟩ := tg_dec hok he
  obtain ⟨hd1, hn1⟩ := tg_len1 hd hn rfl
  subst hn1
  simp only [tg_okI, Bool.and_eq_true, decide_eq_true_eq] at hI
  obtain ⟨⟨⟨hci, hkN⟩, hw⟩, hfl⟩ := hI
  simp only [Bool.and_eq_true] at hs
  have e0 := Nat.eq_of_beq_eq_true hs.1.1
  have e4 := Nat.eq_of_beq_eq_true hs.2
  rw [e4] at hfl
  have hfl := of_decide_eq_true hfl
  have hlen : tg_gd f 1 < o.2.length := by have := hs.1.2; simp only [Nat.blt_eq] at this; exact this
  exact tg_wput (u := .int x) hx hb hts hown hfix.1 hR hS ha (by rw [e0]; exact hci) (tg_gd f 1) (by rw [e0]; exact hkN) (by rw [e0]; exact hts _ (tg_wdG (tg_is_mem hw))) (by rw [e0]; exact hfl.2) (by rw [e0]; exact hfl.1) (by rcases hx01 with rfl | rfl <;> rfl) (by rcases hx01 with rfl | rfl <;> rfl) hlen hd1 (fun H1 locs1 hS1 hR1 => k p l en R s mi args below meth c H1 locs1 ls C hS1 hR1 hl)
theorem tg_iret {G : tg_G} {lv : Nat} {m : tg_M} {kc ks mc ms : Nat} {Q : Option Value → tg_W → Prop} {pc : Nat} {L : List (Nat × Value)} {st : List Value} {w : tg_W} {x : Int32} {nx : Nat} {f : List Nat} {y : MethodName} {v : Value} {cs : List (Int32 × Nat)} (he : tg_f m.2.2.2.2.2 pc = some (.ireturn, nx, f, y, v, cs)) (hrt : m.2.2.2.1 = some .int) (hk : kc ≤ mc ∧ ks ≤ ms) (hQ : Q (some (.int x)) w) : tg_V G lv m kc ks mc ms Q pc L [.int x] w := by
  intro p l en R s mi args below meth c H locs ls C hS hR hl
  obtain ⟨hok, hx, hb, hmx, hr, hlk, hnm, hown, hts, hfix, hbase, hroom⟩ := id C
  obtain ⟨hd, hn, hI⟩ := tg_dec hok he
  obtain ⟨hd1, hn1⟩ := tg_len1 hd hn rfl
  subst hn1
  exact W.widen hk.1 hk.2 (W.iret hx hb (hr.trans hrt) (fun t ht hW => ⟨⟨some (.int x), w, rfl, hQ, by rw [ht]; exact hR⟩, hS.F ht⟩) hS.2.2 hd1 hlk)
theorem tg_zret {G : tg_G} {lv : Nat} {m : tg_M} {kc ks mc ms : Nat} {Q : Option Value → tg_W → Prop} {pc : Nat} {L : List (Nat × Value)} {st : List Value} {w : tg_W} {x : Int32} {nx : Nat} {f : List Nat} {y : MethodName} {v : Value} {cs : List (Int32 × Nat)} (he : tg_f m.2.2.2.2.2 pc = some (.ireturn, nx, f, y, v, cs)) (hrt : m.2.2.2.1 = some .boolean) (hk : kc ≤ mc ∧ ks ≤ ms) (hx01 : x = 0 ∨ x = 1) (hQ : Q (some (.int x)) w) : tg_V G lv m kc ks mc ms Q pc L [.int x] w := by
  intro p l en R s mi args below meth c H locs ls C hS hR hl
  obtain ⟨hok, hx, hb, hmx, hr, hlk, hnm, hown, hts, hfix, hbase, hroom⟩ := id C
  obtain ⟨hd, hn, hI⟩ := tg_dec hok he
  obtain ⟨hd1, hn1⟩ := tg_len1 hd hn rfl
  subst hn1
  exact W.widen hk.1 hk.2 (W.zret (ty := .boolean) hx hb (hr.trans hrt) (by rcases hx01 with rfl | rfl <;> rfl) (fun t ht hW => ⟨⟨some (.int x), w, rfl, hQ, by rw [ht]; exact hR⟩, hS.F ht⟩) hS.2.2 hd1 hlk)
theorem tg_lret {G : tg_G} {lv : Nat} {m : tg_M} {kc ks mc ms : Nat} {Q : Option Value → tg_W → Prop} {pc : Nat} {L : List (Nat × Value)} {st : List Value} {w : tg_W} {x : Int64} {nx : Nat} {f : List Nat} {y : MethodName} {v : Value} {cs : List (Int32 × Nat)} (he : tg_f m.2.2.2.2.2 pc = some (.lreturn, nx, f, y, v, cs)) (hrt : m.2.2.2.1 = some .long) (hk : kc ≤ mc ∧ ks ≤ ms) (hQ : Q (some (.long x)) w) : tg_V G lv m kc ks mc ms Q pc L [.long x] w := by
  intro p l en R s mi args below meth c H locs ls C hS hR hl
  obtain ⟨hok, hx, hb, hmx, hr, hlk, hnm, hown, hts, hfix, hbase, hroom⟩ := id C
  obtain ⟨hd, hn, hI⟩ := tg_dec hok he
  obtain ⟨hd1, hn1⟩ := tg_len1 hd hn rfl
  subst hn1
  exact W.widen hk.1 hk.2 (W.lret hx hb (hr.trans hrt) (fun t ht hW => ⟨⟨some (.long x), w, rfl, hQ, by rw [ht]; exact hR⟩, hS.F ht⟩) hS.2.2 hd1 hlk)
theorem tg_vret {G : tg_G} {lv : Nat} {m : tg_M} {kc ks mc ms : Nat} {Q : Option Value → tg_W → Prop} {pc : Nat} {L : List (Nat × Value)} {st : List Value} {w : tg_W} {nx : Nat} {f : List Nat} {y : MethodName} {v : Value} {cs : List (Int32 × Nat)} (he : tg_f m.2.2.2.2.2 pc = some (.return_, nx, f, y, v, cs)) (hrt : m.2.2.2.1 = none) (hk : kc ≤ mc ∧ ks ≤ ms) (hQ : Q none w) : tg_V G lv m kc ks mc ms Q pc L [] w := by
  intro p l en R s mi args below meth c H locs ls C hS hR hl
  obtain ⟨hok, hx, hb, hmx, hr, hlk, hnm, hown, hts, hfix, hbase, hroom⟩ := id C
  obtain ⟨hd, hn, hI⟩ := tg_dec hok he
  obtain ⟨hd1, hn1⟩ := tg_len1 hd hn rfl
  subst hn1
  exact W.widen hk.1 hk.2 (W.vret hx hb (hr.trans hrt) (fun t ht hW => ⟨⟨none, w, rfl, hQ, by rw [ht]; exact hR⟩, hS.F ht⟩) hS.2.2 hd1 hlk)
theorem tg_aret {G : tg_G} {lv : Nat} {m : tg_M} {kc ks mc ms : Nat} {Q : Option Value → tg_W → Prop} {pc : Nat} {L : List (Nat × Value)} {st : List Value} {w : tg_W} {a : Nat} {nx : Nat} {f : List Nat} {y : MethodName} {v : Value} {cs : List (Int32 × Nat)} (he : tg_f m.2.2.2.2.2 pc = some (.areturn, nx, f, y, v, cs)) {nm : String} (hrt : m.2.2.2.1 = some (.object nm)) (hk : kc ≤ mc ∧ ks ≤ ms) (hQ : Q (some (.ref a)) w) : tg_V G lv m kc ks mc ms Q pc L [.ref a] w := by
  intro p l en R s mi args below meth c H locs ls C hS hR hl
  obtain ⟨hok, hx, hb, hmx, hr, hlk, hnm, hown, hts, hfix, hbase, hroom⟩ := id C
  obtain ⟨hd, hn, hI⟩ := tg_dec hok he
  obtain ⟨hd1, hn1⟩ := tg_len1 hd hn rfl
  subst hn1
  exact W.widen hk.1 hk.2 (W.aret (v := .ref (tg_ad G a)) hx hb (hr.trans hrt) (Or.inl ⟨_, rfl⟩) (Or.inr ⟨_, rfl⟩) (fun t ht hW => ⟨⟨some (.ref a), w, rfl, hQ, by rw [ht]; exact hR⟩, hS.F ht⟩) hS.2.2 hd1 hlk)
theorem tg_gets {G : tg_G} {lv : Nat} {m : tg_M} {kc ks mc ms : Nat} {Q : Option Value → tg_W → Prop} {pc : Nat} {L : List (Nat × Value)} {st : List Value} {w : tg_W} {idx : Nat} {nx : Nat} {f : List Nat} {y : MethodName} {v : Value} {cs : List (Int32 × Nat)} (he : tg_f m.2.2.2.2.2 pc = some (.getstatic idx, nx, f, y, v, cs)) (k : tg_V G lv m kc ks mc ms Q nx L (.ref 1001 :: st) w) : tg_V G lv m kc ks mc ms Q pc L st w := by
  intro p l en R s mi args below meth c H locs ls C hS hR hl
  obtain ⟨hok, hx, hb, hmx, hr, hlk, hnm, hown, hts, hfix, hbase, hroom⟩ := id C
  obtain ⟨hd, hn, hI⟩ := tg_dec hok he
  obtain ⟨hd1, hn1⟩ := tg_len1 hd hn rfl
  subst hn1
  simp only [tg_okI, Bool.and_eq_true, decide_eq_true_eq] at hI
  obtain ⟨hCl, hw⟩ := hI
  exact va_gets hx hb hfix.2.2.2.1 hS hown (hts _ (tg_wdG (tg_is_mem hw))) (fun x hx => hx) hd1 (k p l en R s mi args below meth c H locs ls C hS hR hl)
theorem tg_klen {G : tg_G} {lv : Nat} {m : tg_M} {kc ks mc ms : Nat} {Q : Option Value → tg_W → Prop} {pc : Nat} {L : List (Nat × Value)} {st : List Value} {w : tg_W} {nx : Nat} {f : List Nat} {y : MethodName} {v : Value} {cs : List (Int32 × Nat)} (he : tg_f m.2.2.2.2.2 pc = some (.arraylength, nx, f, y, v, cs)) (k : tg_V G lv m kc ks mc ms Q nx L (.int 6 :: st) w) : tg_V G lv m kc ks mc ms Q pc L (.ref 1001 :: st) w := by
  intro p l en R s mi args below meth c H locs ls C hS hR hl
  obtain ⟨hok, hx, hb, hmx, hr, hlk, hnm, hown, hts, hfix, hbase, hroom⟩ := id C
  obtain ⟨hd, hn, hI⟩ := tg_dec hok he
  obtain ⟨hd1, hn1⟩ := tg_len1 hd hn rfl
  subst hn1
  exact va_tlen hx hb hfix.2.2.2.2.1 hS rfl hd1 (k p l en R s mi args below meth c H locs ls C hS hR hl)
theorem tg_kld {G : tg_G} {lv : Nat} {m : tg_M} {kc ks mc ms : Nat} {Q : Option Value → tg_W → Prop} {pc : Nat} {L : List (Nat × Value)} {st : List Value} {w : tg_W} {i : Int32} {x : Int32} {nx : Nat} {f : List Nat} {y : MethodName} {v : Value} {cs : List (Int32 × Nat)} (he : tg_f m.2.2.2.2.2 pc = some (.caload, nx, f, y, v, cs)) (hi : vp_in i 6) (hv : tg_kl i.toNatClampNeg = .int x) (k : tg_V G lv m kc ks mc ms Q nx L (.int x :: st) w) : tg_V G lv m kc ks mc ms Q pc L (.int i :: .ref 1001 :: st) w := by
  intro p l en R s mi args below meth c H locs ls C hS hR hl
  obtain ⟨hok, hx, hb, hmx, hr, hlk, hnm, hown, hts, hfix, hbase, hroom⟩ := id C
  obtain ⟨hd, hn, hI⟩ := tg_dec hok he
  obtain ⟨hd1, hn1⟩ := tg_len1 hd hn rfl
  subst hn1
  exact va_tc hx hb hfix.2.2.2.2.1 hS hi hv hd1 (k p l en R s mi args below meth c H locs ls C hS hR hl)
theorem tg_slen {G : tg_G} {lv : Nat} {m : tg_M} {kc ks mc ms : Nat} {Q : Option Value → tg_W → Prop} {pc : Nat} {L : List (Nat × Value)} {st : List Value} {w : tg_W} {nx : Nat} {f : List Nat} {y : MethodName} {v : Value} {cs : List (Int32 × Nat)} (he : tg_f m.2.2.2.2.2 pc = some (.arraylength, nx, f, y, v, cs)) (k : tg_V G lv m kc ks mc ms Q nx L (.int (Int32.ofNat G.2.2.1) :: st) w) : tg_V G lv m kc ks mc ms Q pc L (.ref 1000 :: st) w := by
  intro p l en R s mi args below meth c H locs ls C hS hR hl
  obtain ⟨hok, hx, hb, hmx, hr, hlk, hnm, hown, hts, hfix, hbase, hroom⟩ := id C
  obtain ⟨hd, hn, hI⟩ := tg_dec hok he
  obtain ⟨hd1, hn1⟩ := tg_len1 hd hn rfl
  subst hn1
  exact va_slen hx hb hfix.2.1 (Nat.lt_of_lt_of_le hfix.2.2.1 hbase) (Nat.not_le.mpr hfix.2.2.1) hS hd1 (k p l en R s mi args below meth c H locs ls C hS hR hl)
theorem tg_sld {G : tg_G} {lv : Nat} {m : tg_M} {kc ks mc ms : Nat} {Q : Option Value → tg_W → Prop} {pc : Nat} {L : List (Nat × Value)} {st : List Value} {w : tg_W} {i : Int32} {nx : Nat} {f : List Nat} {y : MethodName} {v : Value} {cs : List (Int32 × Nat)} (he : tg_f m.2.2.2.2.2 pc = some (.iaload, nx, f, y, v, cs)) (hi : vp_in i G.2.2.1) (k : tg_V G lv m kc ks mc ms Q nx L (.int (G.2.2.2.1 i.toNatClampNeg) :: st) w) : tg_V G lv m kc ks mc ms Q pc L (.int i :: .ref 1000 :: st) w := by
  intro p l en R s mi args below meth c H locs ls C hS hR hl
  obtain ⟨hok, hx, hb, hmx, hr, hlk, hnm, hown, hts, hfix, hbase, hroom⟩ := id C
  obtain ⟨hd, hn, hI⟩ := tg_dec hok he
  obtain ⟨hd1, hn1⟩ := tg_len1 hd hn rfl
  subst hn1
  exact va_sld hx hb hfix.2.1 (Nat.lt_of_lt_of_le hfix.2.2.1 hbase) (Nat.not_le.mpr hfix.2.2.1) hS hi hd1 (k p l en R s mi args below meth c H locs ls C hS hR hl)
def tg_sws (x : Int32) : List (Int32 × Nat) → Nat → (Nat → Prop) → Prop
  | [], d, K => K d
  | q :: r, d, K => (x = q.1 → K q.2) ∧ (¬ x = q.1 → tg_sws x r d K)
theorem tg_sws_none {x : Int32} {cs : List (Int32 × Nat)} {d : Nat} {K : Nat → Prop} (h : tg_sws x cs d K) (hn : ∀ q ∈ cs, ¬ x = q.1) : K d := by
  induction cs with
  | nil => exact h
  | cons q r ih => exact ih (h.2 (hn q List.mem_cons_self)) (fun q' hq' => hn q' (List.mem_cons_of_mem _ hq'))
theorem tg_sws_some {x : Int32} {cs : List (Int32 × Nat)} {d : Nat} {K : Nat → Prop} (h : tg_sws x cs d K) {j : Nat} {q : Int32 × Nat} (hj : cs[j]? = some q) (hx : x = q.1) (hf : ∀ i q', i < j → cs[i]? = some q' → ¬ x = q'.1) : K q.2 := by
  induction cs generalizing j with
  | nil => simp at hj
  | cons a r ih =>
    cases j with
    | zero => simp at hj; subst hj; exact h.1 hx
    | succ j =>
      exact ih (h.2 (hf 0 a (Nat.zero_lt_succ j) rfl)) (by simpa using hj) (fun i q' hi hq' => hf (i + 1) q' (by omega) (by simpa using hq'))
theorem tg_tsw {G : tg_G} {lv : Nat} {m : tg_M} {kc ks mc ms : Nat} {Q : Option Value → tg_W → Prop} {pc : Nat} {L : List (Nat × Value)} {st : List Value} {w : tg_W} {x : Int32} {d lo hi : Int} {os : Array Int} {nx : Nat} {f : List Nat} {y : MethodName} {v : Value} {cs : List (Int32 × Nat)} (he : tg_f m.2.2.2.2.2 pc = some (.tableswitch d lo hi os, nx, f, y, v, cs)) (h : tg_sws x cs (tg_gd f 0) (fun t => tg_V G lv m kc ks mc ms Q t L st w)) : tg_V G lv m kc ks mc ms Q pc L (.int x :: st) w := by
  intro p l en R s mi args below meth c H locs ls C hS hR hl
  obtain ⟨hok, hx, hb, hmx, hr, hlk, hnm, hown, hts, hfix, hbase, hroom⟩ := id C
  obtain ⟨hd, hn, hI⟩ := tg_dec hok he
  simp only [tg_okI, Bool.and_eq_true, decide_eq_true_eq] at hI
  obtain ⟨hdf, h1, h2, h3, h4⟩ := hI
  have key : ∀ (i : Nat) (q : Int32 × Nat), cs[i]? = some q → q.1.toInt = lo + (i : Int) ∧ ∃ o, os[i]? = some o ∧ (pc : Int) + o = (q.2 : Nat) := by
    intro i q hq
    have hl' := (List.getElem?_eq_some_iff.mp hq).1
    have e1 : (cs.map (fun q => q.1.toInt))[i]? = some q.1.toInt := by rw [List.getElem?_map, hq]; rfl
    rw [h3, List.getElem?_map, List.getElem?_range hl'] at e1
    have e2 : (cs.map (fun q => (q.2 : Int)))[i]? = some (q.2 : Int) := by rw [List.getElem?_map, hq]; rfl
    rw [← h4, List.getElem?_map] at e2
    obtain ⟨o, ho, e3⟩ := Option.map_eq_some_iff.mp e2
    exact ⟨(Option.some.inj e1).symm, o, by rw [← Array.getElem?_toList]; exact ho, e3⟩
  by_cases hlo : x.toInt < lo ∨ hi < x.toInt
  · refine lv_tableOut hx hb hd hlo hdf ?_
    refine tg_sws_none h (fun q hq e => ?_) p l en R s mi args below meth c H locs ls C hS hR hl
    obtain ⟨i, hi'⟩ := List.getElem?_of_mem hq
    have hl' := (List.getElem?_eq_some_iff.mp hi').1
    have := (key i q hi').1
    rw [← e] at this
    omega
  · have a1 : ¬ x.toInt < lo := fun z => hlo (Or.inl z)
    have a2 : ¬ hi < x.toInt := fun z => hlo (Or.inr z)
    have hj : (x.toInt - lo).toNat < cs.length := by omega
    obtain ⟨k1, o, k2, k3⟩ := key (x.toInt - lo).toNat _ (List.getElem?_eq_getElem hj)
    refine lv_tableIn hx hb hd a1 a2 k2 k3 ?_
    refine tg_sws_some h (List.getElem?_eq_getElem hj) (Int32.toInt_inj.mp (by rw [k1]; omega)) (fun i q' hi' hq' e => ?_) p l en R s mi args below meth c H locs ls C hS hR hl
    have := (key i q' hq').1
    rw [← e] at this
    omega
theorem tg_lsw_off {x : Int32} {d : Int} {pc : Nat} {t : Nat} {K : Nat → Prop} (hd : (pc : Int) + d = (t : Nat)) : ∀ {ps : List (Int × Int)} {cs : List (Int32 × Nat)}, ps.map (fun q => (q.1, (pc : Int) + q.2)) = cs.map (fun q => (q.1.toInt, (q.2 : Int))) → tg_sws x cs t K → ∃ tg : Nat, (pc : Int) + Op.lookupswitch.offset ps d x.toInt = (tg : Nat) ∧ K tg := by
  intro ps
  induction ps with
  | nil =>
    intro cs h hs
    cases cs with
    | nil => exact ⟨t, hd, hs⟩
    | cons a r => cases h
  | cons b r ih =>
    intro cs h hs
    cases cs with
    | nil => cases h
    | cons a r' =>
      simp only [List.map_cons, List.cons.injEq, Prod.mk.injEq] at h
      obtain ⟨⟨e1, e2⟩, e3⟩ := h
      obtain ⟨b1, b2⟩ := b
      rw [Op.lookupswitch.offset_cons]
      by_cases hb : b1 = x.toInt
      · rw [if_pos hb]
        have : x = a.1 := Int32.toInt_inj.mp (by rw [← e1]; exact hb.symm)
        exact ⟨a.2, e2, hs.1 this⟩
      · rw [if_neg hb]
        exact ih e3 (hs.2 (fun e => hb (by rw [e]; exact e1)))
theorem tg_lsw {G : tg_G} {lv : Nat} {m : tg_M} {kc ks mc ms : Nat} {Q : Option Value → tg_W → Prop} {pc : Nat} {L : List (Nat × Value)} {st : List Value} {w : tg_W} {x : Int32} {d : Int} {ps : Array (Int × Int)} {nx : Nat} {f : List Nat} {y : MethodName} {v : Value} {cs : List (Int32 × Nat)} (he : tg_f m.2.2.2.2.2 pc = some (.lookupswitch d ps, nx, f, y, v, cs)) (h : tg_sws x cs (tg_gd f 0) (fun t => tg_V G lv m kc ks mc ms Q t L st w)) : tg_V G lv m kc ks mc ms Q pc L (.int x :: st) w := by
  intro p l en R s mi args below meth c H locs ls C hS hR hl
  obtain ⟨hok, hx, hb, hmx, hr, hlk, hnm, hown, hts, hfix, hbase, hroom⟩ := id C
  obtain ⟨hd, hn, hI⟩ := tg_dec hok he
  simp only [tg_okI, Bool.and_eq_true, decide_eq_true_eq] at hI
  obtain ⟨⟨hdf, h1⟩, h2⟩ := hI
  obtain ⟨t, e1, e2⟩ := tg_lsw_off (x := x) hdf h2 h
  exact lv_lookup hx hb hd h1 rfl e1 (e2 p l en R s mi args below meth c H locs ls C hS hR hl)
end
section
/-! contracts; calls -/
def tg_P (G : tg_G) (As : List Value) (w : tg_W) : Array Value → State → Prop := va_Pc (As.map (tg_v G)) (fun U => tg_fix G U ∧ G.1 ≤ U.heap.size ∧ tg_R G w U.heap)
def tg_rm (lv mc ms : Nat) : Room := { frames := lv, cells := mc, slots := ms, locals := 40 * lv }
/-- the contract of a method: from this world, with these arguments, it returns, and Q holds of the answer and the world behind it -/
def tg_C (G : tg_G) (lv : Nat) (m : tg_M) (mc ms : Nat) (As : List Value) (w : tg_W) (Q : Option Value → tg_W → Prop) : Prop :=
  tg_ok m = true ∧ ∀ l : Launch, Met l m.1 (tg_wd m) (tg_rm lv mc ms) (tg_P G As w) (tg_Qc G Q) mc ms (fun q => G.1 ≤ q)
theorem tg_wk_C {G : tg_G} {lv : Nat} {m : tg_M} {mc ms : Nat} {As : List Value} {w : tg_W} {Q Q' : Option Value → tg_W → Prop} (h : tg_C G lv m mc ms As w Q) (hQ : ∀ r w', Q r w' → Q' r w') : tg_C G lv m mc ms As w Q' := by
  refine ⟨h.1, fun l p e ha hc hk s mi args below hf hn hP hK => ?_⟩
  obtain ⟨t, o, h1, h2, h3, ⟨⟨r, w', c1, c2, c3⟩, c4⟩, h5⟩ := h.2 l p e ha hc hk s mi args below hf hn hP hK
  exact ⟨t, o, h1, h2, h3, ⟨⟨r, w', c1, hQ r w' c2, c3⟩, c4⟩, h5⟩
theorem tg_args (G : tg_G) (As : List Value) : ∀ i : Nat, lv_args i (As.map (tg_v G)) = tg_ml G (lv_args i As) := by
  induction As with
  | nil => intro i; rfl
  | cons a r ih =>
    intro i
    simp only [List.map_cons, lv_args, tg_ml, tg_vcat, ih]
theorem tg_slots (G : tg_G) (As : List Value) : (lg_sl (As.map (tg_v G))).length = (lg_sl As).length := by
  induction As with
  | nil => rfl
  | cons a r ih =>
    simp only [lg_sl, List.map_cons, List.flatMap_cons, List.length_append, tg_vcat] at ih ⊢
    rw [ih]
    congr 1
    split <;> rfl
theorem tg_intro {G : tg_G} {lv : Nat} {m : tg_M} {mc ms : Nat} {As : List Value} {w : tg_W} {Q : Option Value → tg_W → Prop} (hok : tg_ok m = true) (hsl : (lg_sl As).length ≤ m.2.2.1) (k : tg_V G lv m 0 0 mc ms Q 0 (lv_args 0 As) [] w) : tg_C G lv m mc ms As w Q := by
  refine ⟨hok, fun l => ?_⟩
  refine Met.ofW (cc := m.2.1) (maxL := m.2.2.1) (ret := m.2.2.2.1) (tg_ok_plain hok) rfl ?_
  intro p e s mi args below meth c s₁ B hml hv
  obtain ⟨rfl, hfix, hbase, hR⟩ := hv
  have hlk := B.notSynchronized
  have hts := atoms_spec (ws := tg_wd m) B.pre
  have hl := lv_entry (As.map (tg_v G)) (n := m.2.2.1) (by rw [tg_slots]; exact hsl)
  rw [lg_entry_eq]
  rw [tg_args] at hl
  exact k p l e _ s mi _ below meth c s.heap [] _ ⟨hok, B.exec, B.bytes, hml, B.returns, hlk, (name_of_methodNamed B.named B.method).1, findClass_of_methodNamed B.named, hts, hfix, hbase, Nat.le_refl _, Nat.le_refl _, Nat.le_refl _, Nat.le_refl _⟩ va_S.rf hR hl
theorem tg_fix_moved {G : tg_G} {u U : State} (hvm : u.vm = U.vm) (hh : U.heap = u.heap) (h : tg_fix G u) : tg_fix G U := by
  obtain ⟨h1, h2, h3, h4, h5, h6⟩ := h
  have ha : u.vm.Alike U.vm := by rw [hvm]; exact Vm.Alike.refl U.vm
  refine ⟨h1.moved ha, ?_, h3, ?_, ?_, fun w hw => va_Nw.same ?_ hvm (h6 w hw)⟩
  · rw [hh]; exact h2.moved ha
  · rw [hh]; exact h4.moved ha
  · rw [hh]; exact h5.moved ha
  · have := (List.mem_filter.mp hw).2
    cases w <;> first | rfl | cases this
theorem tg_fix_warm {G : tg_G} {s U : State} {H : Heap} {locs : List Loc} (hb : G.1 ≤ s.heap.size) (hS : va_S (fun q => G.1 ≤ q) s.heap H locs) (hU : U.heap = H) (hW : s.WarmedH U.vm) (h : tg_fix G s) : tg_fix G U := by
  obtain ⟨h1, h2, h3, h4, h5, h6⟩ := h
  have ha : s.vm.Alike U.vm := hW.alike
  refine ⟨h1.moved ha, ?_, h3, ?_, ?_, fun w hw => ?_⟩
  · rw [hU]
    exact (h2.kept (hS.2.1 _ (Nat.lt_of_lt_of_le h3 hb) (Nat.not_le.mpr h3))).moved ha
  · rw [hU]
    exact (h4.kept hS.2.1).moved ha
  · rw [hU]
    exact (h5.kept hS.2.1).moved ha
  · have h7 := (List.mem_filter.mp hw).2
    have h8 := h6 w hw
    cases w <;> first | exact va_Nw.warmM hW h8 | cases h7
theorem tg_blind (G : tg_G) (As : List Value) (w : tg_W) : FrameBlind (tg_P G As w) := fun a U g mk h => ⟨h.1, tg_fix_moved (u := U) rfl rfl h.2.1, h.2.2.1, h.2.2.2⟩
theorem tg_good {m m' : tg_M} (h' : tg_ok m' = true) {ws : List Jvm.Cond} (hw : ∀ w ∈ ws, w ∈ tg_GW) : GoodIn (tg_wd m) (ws ++ tg_wd m') := by
  have hg : ∀ w ∈ tg_GW, w ∈ tg_wd m ∧ ((w.onTables && w.keeps) = true ∨ ∃ ty, w = .arrayClass ty) := fun w hw => ⟨tg_wdG hw, good_of_word (List.mem_filter.mp hw).2⟩
  intro w hw'
  rcases List.mem_append.mp hw' with q | q
  · exact hg w (hw w q)
  · rcases List.mem_cons.mp q with rfl | q
    · exact hg _ (tg_ok_code h')
    · exact hg w q
theorem tg_ini {y : MethodName} {c i : Nat} (h : tg_is c i (.initialized y.cls) = true) : Jvm.Cond.initialized y.cls ∈ tg_GW := tg_is_mem h
section TGC
variable {G : tg_G} {lv : Nat} {m : tg_M} {kc ks mc ms : Nat} {Q : Option Value → tg_W → Prop} {pc : Nat} {L : List (Nat × Value)} {w : tg_W}
theorem tg_after {p : Program} {l : Launch} {en : Env} {R : Room} {s : State} {mi : MethodId} {args : Array Value} {below : List Frame} {meth : Method} {c : Code} {H : Heap} {locs : List Loc} {ls : Array Slot} {mc' ms' : Nat} {st0 : List Value} {rest : List Value} {Q' : Option Value → tg_W → Prop} {a : Array Value}
    (hS : va_S (fun q => G.1 ≤ q) s.heap H locs)
    (hr : va_Run p l en R s mi args below meth c H locs kc ks mc' ms' (F0 mi pc ls st0) (rest.map (tg_v G)) (tg_Qc G Q' a) (fun q => G.1 ≤ q))
    {Qf : State → Prop}
    (k : ∀ (r : Option Value) (w' : tg_W) (H1 : Heap) (locs1 : List Loc), Q' r w' → va_S (fun q => G.1 ≤ q) s.heap H1 locs1 → tg_R G w' H1 → W p l en R s mi args below meth c H1 locs1 (kc + mc') (ks + ms') Qf (F0 mi (pc + 3) ls ((r.toList ++ rest).map (tg_v G)))) :
    W p l en R s mi args below meth c H locs kc ks Qf (F0 mi pc ls st0) := by
  intro T hT X
  obtain ⟨v, st₀, t, T', L', h0, X', hL, e1, e2, ⟨⟨r, w', hv, hQ, hR'⟩, hz, hk⟩, stp⟩ := hr T hT X
  have hv : v = r.map (tg_v G) := by cases hv; rfl
  subst hv
  rw [h0] at hz hk
  obtain ⟨t2, a1, b1⟩ := k r w' T'.heap (locs ++ L') hQ
    ⟨Nat.le_trans hS.1 (by rw [e1]; exact hz), fun q h1 h2 => by rw [e1, hk q (Nat.lt_of_lt_of_le h1 hS.1) h2]; exact hS.2.1 q h1 h2, fun q hq => by
      rcases List.mem_append.mp hq with h | h
      · exact hS.2.2 q h
      · exact hL q h⟩ (by rw [e1]; exact hR') T' rfl X'
  refine ⟨t2, stp t2 ?_, b1⟩
  have e3 : (r.toList ++ rest).map (tg_v G) = (r.map (tg_v G)).toList ++ rest.map (tg_v G) := by
    cases r <;> rfl
  rw [e3] at a1
  exact a1

theorem tg_callV {idx : Nat} {nx : Nat} {f : List Nat} {y : MethodName} {v : Value} {cs : List (Int32 × Nat)} {lv' mc' ms' : Nat} {m' : tg_M} {As rest st : List Value} {Q' : Option Value → tg_W → Prop} {b : Nat} {o : Nat × List Value} (ho : tg_lk w b = some (.inl o)) (hoc : Nat.beq o.1 (tg_gd f 2) = true) 
    (he : tg_f m.2.2.2.2.2 pc = some (.invokevirtual idx, nx, f, y, v, cs)) (hC : tg_C G lv' m' mc' ms' (.ref b :: As) w Q') (hy : m'.1 = y) (hs : (Nat.beq (tg_gd f 0) 0 && Nat.beq As.length (tg_gd f 1) && Nat.blt lv' lv && Nat.ble (kc + mc') mc && Nat.ble (ks + ms') ms && Nat.ble ((rest.map fun v => v.category).sum) 8) = true) (hst : st = (.ref b :: As).reverse ++ rest)
    (k : ∀ r w', Q' r w' → tg_V G lv m (kc + mc') (ks + ms') mc ms Q nx L (r.toList ++ rest) w') : tg_V G lv m kc ks mc ms Q pc L st w := by
  subst hst
  intro p l en R s mi args below meth c H locs ls C hS hR hl
  obtain ⟨hok, hx, hb, hmx, hr, hlk, hnm, hown, hts, hfix, hbase, hroom⟩ := id C
  obtain ⟨hd, hn, hI⟩ := tg_dec hok he
  obtain ⟨hd1, hn1⟩ := tg_len1 hd hn rfl
  subst hn1
  obtain ⟨hok', hM⟩ := hC
  subst hy
  simp only [Bool.and_eq_true] at hs
  obtain ⟨⟨⟨⟨⟨h0, h1⟩, h2⟩, h3⟩, h4⟩, h5⟩ := hs
  have h0 := Nat.eq_of_beq_eq_true h0
  have h1 := Nat.eq_of_beq_eq_true h1
  have h2 : lv' + 1 ≤ lv := by simp only [Nat.blt_eq] at h2; exact h2
  have h3 := Nat.le_of_ble_eq_true h3
  have h4 := Nat.le_of_ble_eq_true h4
  have h5 := Nat.le_of_ble_eq_true h5
  have hmx' := tg_ok_mx hok'
  have hcat : ((rest.map (tg_v G)).map fun v => v.category).sum ≤ 8 := by
    rw [List.map_map]
    have : ((fun v : Value => v.category) ∘ tg_v G) = fun v : Value => v.category := by funext v; exact tg_vcat G v
    rw [this]; exact h5
  have hRm : (tg_rm lv' mc' ms').frames + 1 ≤ R.frames ∧ 8 + (m'.2.2.1 + 11) + (tg_rm lv' mc' ms').locals ≤ R.locals := ⟨Nat.le_trans h2 hroom.1, by
    show 8 + (m'.2.2.1 + 11) + 40 * lv' ≤ R.locals
    have := hroom.2.1
    omega⟩
  have hf : kc + mc' ≤ R.cells ∧ ks + ms' ≤ R.slots := ⟨Nat.le_trans h3 hroom.2.2.1, Nat.le_trans h4 hroom.2.2.2⟩
  simp only [tg_okI, tg_okc, h0, Bool.and_eq_true, decide_eq_true_eq] at hI
  obtain ⟨⟨⟨⟨⟨⟨⟨-, hMH⟩, har⟩, hcl⟩, w1⟩, w2⟩, w3⟩, w4⟩ := hI
  have hMH := of_decide_eq_true hMH
  have har := of_decide_eq_true har
  have hstk : ((.ref b :: As).reverse ++ rest).map (tg_v G) = (As.map (tg_v G)).reverse ++ .ref (tg_ad G b) :: rest.map (tg_v G) := by
    simp [List.map_reverse, tg_v]
  rw [hstk]
  have hPU : ∀ U : State, U.heap = H → s.WarmedH U.vm → tg_P G (.ref b :: As) w (Value.ref (tg_ad G b) :: As.map (tg_v G)).toArray U := fun U hU hW => ⟨rfl, tg_fix_warm hbase hS hU hW hfix, by rw [hU]; exact Nat.le_trans hbase hS.1, by rw [hU]; exact hR⟩
  have hoc := Nat.eq_of_beq_eq_true hoc
  have hcls : ∃ cellB : Cell, H[tg_ad G b]? = some cellB ∧ cellB.vm.isStatics = false ∧ s.vm.findClass m'.1.cls = some cellB.cls := by
    obtain ⟨q, hq1, hq2⟩ := Option.map_eq_some_iff.mp hcl
    have := va_recv hfix.1 hR.1 hq1 (by rw [← hoc]; exact tg_lk_ws (G := G) ho)
    rw [hq2] at this
    exact this
  refine tg_after hS (va_runV (As := As.map (tg_v G)) (rest := rest.map (tg_v G)) (g := F0 mi pc ls _) ⟨hx, hb, hmx, hown, hts⟩ (hM l) (cwV (As.map (tg_v G)).length hts (tg_good (ws := [.methodLink m.1.cls idx m'.1, .instanceMethod m'.1, .selects m'.1.cls m'.1 m'.1, .initialized m'.1.cls]) hok' ?_) rfl rfl rfl ⟨rfl, hMH.1, hMH.2, by rw [List.length_map, h1]; exact har⟩ hRm) ⟨tg_blind G _ w, hcls, hPU⟩ rfl rfl (by exact hl.1) rfl (lv_room hcat) hd1 hf) (fun r w' H1 locs1 hQ' hS1 hR1 => k r w' hQ' p l en R s mi args below meth c H1 locs1 ls C hS1 hR1 hl)
  intro w' hw'
  simp only [List.mem_cons, List.not_mem_nil, or_false] at hw'
  rcases hw' with rfl | rfl | rfl | rfl
  · exact tg_is_mem w1
  · exact tg_is_mem w2
  · exact tg_is_mem w3
  · exact tg_is_mem w4
theorem tg_call1 {idx : Nat} {nx : Nat} {f : List Nat} {y : MethodName} {v : Value} {cs : List (Int32 × Nat)} {lv' mc' ms' : Nat} {m' : tg_M} {As rest st : List Value} {Q' : Option Value → tg_W → Prop} 
    (he : tg_f m.2.2.2.2.2 pc = some (.invokestatic idx, nx, f, y, v, cs)) (hC : tg_C G lv' m' mc' ms' (As) w Q') (hy : m'.1 = y) (hs : (Nat.beq (tg_gd f 0) 1 && Nat.beq As.length (tg_gd f 1) && Nat.blt lv' lv && Nat.ble (kc + mc') mc && Nat.ble (ks + ms') ms && Nat.ble ((rest.map fun v => v.category).sum) 8) = true) (hst : st = (As).reverse ++ rest)
    (k : ∀ r w', Q' r w' → tg_V G lv m (kc + mc') (ks + ms') mc ms Q nx L (r.toList ++ rest) w') : tg_V G lv m kc ks mc ms Q pc L st w := by
  subst hst
  intro p l en R s mi args below meth c H locs ls C hS hR hl
  obtain ⟨hok, hx, hb, hmx, hr, hlk, hnm, hown, hts, hfix, hbase, hroom⟩ := id C
  obtain ⟨hd, hn, hI⟩ := tg_dec hok he
  obtain ⟨hd1, hn1⟩ := tg_len1 hd hn rfl
  subst hn1
  obtain ⟨hok', hM⟩ := hC
  subst hy
  simp only [Bool.and_eq_true] at hs
  obtain ⟨⟨⟨⟨⟨h0, h1⟩, h2⟩, h3⟩, h4⟩, h5⟩ := hs
  have h0 := Nat.eq_of_beq_eq_true h0
  have h1 := Nat.eq_of_beq_eq_true h1
  have h2 : lv' + 1 ≤ lv := by simp only [Nat.blt_eq] at h2; exact h2
  have h3 := Nat.le_of_ble_eq_true h3
  have h4 := Nat.le_of_ble_eq_true h4
  have h5 := Nat.le_of_ble_eq_true h5
  have hmx' := tg_ok_mx hok'
  have hcat : ((rest.map (tg_v G)).map fun v => v.category).sum ≤ 8 := by
    rw [List.map_map]
    have : ((fun v : Value => v.category) ∘ tg_v G) = fun v : Value => v.category := by funext v; exact tg_vcat G v
    rw [this]; exact h5
  have hRm : (tg_rm lv' mc' ms').frames + 1 ≤ R.frames ∧ 8 + (m'.2.2.1 + 11) + (tg_rm lv' mc' ms').locals ≤ R.locals := ⟨Nat.le_trans h2 hroom.1, by
    show 8 + (m'.2.2.1 + 11) + 40 * lv' ≤ R.locals
    have := hroom.2.1
    omega⟩
  have hf : kc + mc' ≤ R.cells ∧ ks + ms' ≤ R.slots := ⟨Nat.le_trans h3 hroom.2.2.1, Nat.le_trans h4 hroom.2.2.2⟩
  simp only [tg_okI, tg_okc, h0, Bool.and_eq_true, decide_eq_true_eq] at hI
  obtain ⟨⟨⟨⟨⟨-, hMH⟩, har⟩, w1⟩, w2⟩, w4⟩ := hI
  have hMH := of_decide_eq_true hMH
  have har := of_decide_eq_true har
  have hstk : (As.reverse ++ rest).map (tg_v G) = (As.map (tg_v G)).reverse ++ rest.map (tg_v G) := by
    simp [List.map_reverse]
  rw [hstk]
  have hPU : ∀ U : State, U.heap = H → s.WarmedH U.vm → tg_P G As w (As.map (tg_v G)).toArray U := fun U hU hW => ⟨rfl, tg_fix_warm hbase hS hU hW hfix, by rw [hU]; exact Nat.le_trans hbase hS.1, by rw [hU]; exact hR⟩
  refine tg_after hS (va_runS (As := As.map (tg_v G)) (rest := rest.map (tg_v G)) (g := F0 mi pc ls _) ⟨hx, hb, hmx, hown, hts⟩ (hM l) (va_cwS (As.map (tg_v G)).length hts (tg_good (ws := [.methodLink m.1.cls idx m'.1, .static m'.1, .initialized m'.1.cls]) hok' ?_) rfl rfl rfl ⟨hMH.1, hMH.2, by rw [List.length_map, h1]; exact har⟩ hRm) ⟨tg_blind G _ w, hPU⟩ rfl rfl (by exact hl.1) rfl (lv_room hcat) hd1 hf) (fun r w' H1 locs1 hQ' hS1 hR1 => k r w' hQ' p l en R s mi args below meth c H1 locs1 ls C hS1 hR1 hl)
  intro w' hw'
  simp only [List.mem_cons, List.not_mem_nil, or_false] at hw'
  rcases hw' with rfl | rfl | rfl
  · exact tg_is_mem w1
  · exact tg_is_mem w2
  · exact tg_is_mem w4
theorem tg_call4 {idx : Nat} {nx : Nat} {f : List Nat} {y : MethodName} {v : Value} {cs : List (Int32 × Nat)} {lv' mc' ms' : Nat} {m' : tg_M} {As rest st : List Value} {Q' : Option Value → tg_W → Prop} 
    (he : tg_f m.2.2.2.2.2 pc = some (.invokestatic idx, nx, f, y, v, cs)) (hC : tg_C G lv' m' mc' ms' (As) w Q') (hy : m'.1 = y) (hs : (Nat.beq (tg_gd f 0) 4 && Nat.beq As.length (tg_gd f 1) && Nat.blt lv' lv && Nat.ble (kc + mc') mc && Nat.ble (ks + ms') ms && Nat.ble ((rest.map fun v => v.category).sum) 8) = true) (hst : st = (As).reverse ++ rest)
    (k : ∀ r w', Q' r w' → tg_V G lv m (kc + mc') (ks + ms') mc ms Q nx L (r.toList ++ rest) w') : tg_V G lv m kc ks mc ms Q pc L st w := by
  subst hst
  intro p l en R s mi args below meth c H locs ls C hS hR hl
  obtain ⟨hok, hx, hb, hmx, hr, hlk, hnm, hown, hts, hfix, hbase, hroom⟩ := id C
  obtain ⟨hd, hn, hI⟩ := tg_dec hok he
  obtain ⟨hd1, hn1⟩ := tg_len1 hd hn rfl
  subst hn1
  obtain ⟨hok', hM⟩ := hC
  subst hy
  simp only [Bool.and_eq_true] at hs
  obtain ⟨⟨⟨⟨⟨h0, h1⟩, h2⟩, h3⟩, h4⟩, h5⟩ := hs
  have h0 := Nat.eq_of_beq_eq_true h0
  have h1 := Nat.eq_of_beq_eq_true h1
  have h2 : lv' + 1 ≤ lv := by simp only [Nat.blt_eq] at h2; exact h2
  have h3 := Nat.le_of_ble_eq_true h3
  have h4 := Nat.le_of_ble_eq_true h4
  have h5 := Nat.le_of_ble_eq_true h5
  have hmx' := tg_ok_mx hok'
  have hcat : ((rest.map (tg_v G)).map fun v => v.category).sum ≤ 8 := by
    rw [List.map_map]
    have : ((fun v : Value => v.category) ∘ tg_v G) = fun v : Value => v.category := by funext v; exact tg_vcat G v
    rw [this]; exact h5
  have hRm : (tg_rm lv' mc' ms').frames + 1 ≤ R.frames ∧ 8 + (m'.2.2.1 + 11) + (tg_rm lv' mc' ms').locals ≤ R.locals := ⟨Nat.le_trans h2 hroom.1, by
    show 8 + (m'.2.2.1 + 11) + 40 * lv' ≤ R.locals
    have := hroom.2.1
    omega⟩
  have hf : kc + mc' ≤ R.cells ∧ ks + ms' ≤ R.slots := ⟨Nat.le_trans h3 hroom.2.2.1, Nat.le_trans h4 hroom.2.2.2⟩
  simp only [tg_okI, tg_okc, h0, Bool.and_eq_true, decide_eq_true_eq] at hI
  obtain ⟨⟨⟨⟨⟨-, hMH⟩, har⟩, w1⟩, w2⟩, w4⟩ := hI
  have hMH := of_decide_eq_true hMH
  have har := of_decide_eq_true har
  have hstk : (As.reverse ++ rest).map (tg_v G) = (As.map (tg_v G)).reverse ++ rest.map (tg_v G) := by
    simp [List.map_reverse]
  rw [hstk]
  have hPU : ∀ U : State, U.heap = H → s.WarmedH U.vm → tg_P G As w (As.map (tg_v G)).toArray U := fun U hU hW => ⟨rfl, tg_fix_warm hbase hS hU hW hfix, by rw [hU]; exact Nat.le_trans hbase hS.1, by rw [hU]; exact hR⟩
  refine tg_after hS (va_runSN (As := As.map (tg_v G)) (rest := rest.map (tg_v G)) (g := F0 mi pc ls _) ⟨hx, hb, hmx, hown, hts⟩ (hM l) ⟨va_cnB (host := "TilesGoAbout") (As.map (tg_v G)).length hts (tg_good (ws := []) hok' (fun _ h => by cases h)) rfl rfl rfl (hfix.2.2.2.2.2 _ (tg_isN_mem w1)) (hts _ (tg_wdG (tg_is_mem w4))) ⟨hMH.1, hMH.2, by rw [List.length_map, h1]; exact har⟩ hRm, hts _ (tg_wdG (tg_is_mem w2)), trivial⟩ ⟨tg_blind G _ w, hPU⟩ rfl rfl (by exact hl.1) rfl (lv_room hcat) hd1 hf) (fun r w' H1 locs1 hQ' hS1 hR1 => k r w' hQ' p l en R s mi args below meth c H1 locs1 ls C hS1 hR1 hl)
theorem tg_call2 {idx : Nat} {nx : Nat} {f : List Nat} {y : MethodName} {v : Value} {cs : List (Int32 × Nat)} {lv' mc' ms' : Nat} {m' : tg_M} {As rest st : List Value} {Q' : Option Value → tg_W → Prop} {b : Nat} 
    (he : tg_f m.2.2.2.2.2 pc = some (.invokespecial idx, nx, f, y, v, cs)) (hC : tg_C G lv' m' mc' ms' (.ref b :: As) w Q') (hy : m'.1 = y) (hrt : m'.2.2.2.1 = none) (hs : (Nat.beq (tg_gd f 0) 2 && Nat.beq As.length (tg_gd f 1) && Nat.blt lv' lv && Nat.ble (kc + mc') mc && Nat.ble (ks + ms') ms && Nat.ble ((rest.map fun v => v.category).sum) 8) = true) (hst : st = (.ref b :: As).reverse ++ rest)
    (k : ∀ r w', Q' r w' → tg_V G lv m (kc + mc') (ks + ms') mc ms Q nx L (r.toList ++ rest) w') : tg_V G lv m kc ks mc ms Q pc L st w := by
  subst hst
  intro p l en R s mi args below meth c H locs ls C hS hR hl
  obtain ⟨hok, hx, hb, hmx, hr, hlk, hnm, hown, hts, hfix, hbase, hroom⟩ := id C
  obtain ⟨hd, hn, hI⟩ := tg_dec hok he
  obtain ⟨hd1, hn1⟩ := tg_len1 hd hn rfl
  subst hn1
  obtain ⟨hok', hM⟩ := hC
  subst hy
  simp only [Bool.and_eq_true] at hs
  obtain ⟨⟨⟨⟨⟨h0, h1⟩, h2⟩, h3⟩, h4⟩, h5⟩ := hs
  have h0 := Nat.eq_of_beq_eq_true h0
  have h1 := Nat.eq_of_beq_eq_true h1
  have h2 : lv' + 1 ≤ lv := by simp only [Nat.blt_eq] at h2; exact h2
  have h3 := Nat.le_of_ble_eq_true h3
  have h4 := Nat.le_of_ble_eq_true h4
  have h5 := Nat.le_of_ble_eq_true h5
  have hmx' := tg_ok_mx hok'
  have hcat : ((rest.map (tg_v G)).map fun v => v.category).sum ≤ 8 := by
    rw [List.map_map]
    have : ((fun v : Value => v.category) ∘ tg_v G) = fun v : Value => v.category := by funext v; exact tg_vcat G v
    rw [this]; exact h5
  have hRm : (tg_rm lv' mc' ms').frames + 1 ≤ R.frames ∧ 8 + (m'.2.2.1 + 11) + (tg_rm lv' mc' ms').locals ≤ R.locals := ⟨Nat.le_trans h2 hroom.1, by
    show 8 + (m'.2.2.1 + 11) + 40 * lv' ≤ R.locals
    have := hroom.2.1
    omega⟩
  have hf : kc + mc' ≤ R.cells ∧ ks + ms' ≤ R.slots := ⟨Nat.le_trans h3 hroom.2.2.1, Nat.le_trans h4 hroom.2.2.2⟩
  simp only [tg_okI, tg_okc, h0, Bool.and_eq_true, decide_eq_true_eq] at hI
  obtain ⟨⟨⟨⟨⟨⟨-, hMH⟩, har⟩, hnm2⟩, w1⟩, w2⟩, w4⟩ := hI
  have hMH := of_decide_eq_true hMH
  have har := of_decide_eq_true har
  have hstk : ((.ref b :: As).reverse ++ rest).map (tg_v G) = (As.map (tg_v G)).reverse ++ .ref (tg_ad G b) :: rest.map (tg_v G) := by
    simp [List.map_reverse, tg_v]
  rw [hstk]
  have hPU : ∀ U : State, U.heap = H → s.WarmedH U.vm → tg_P G (.ref b :: As) w (Value.ref (tg_ad G b) :: As.map (tg_v G)).toArray U := fun U hU hW => ⟨rfl, tg_fix_warm hbase hS hU hW hfix, by rw [hU]; exact Nat.le_trans hbase hS.1, by rw [hU]; exact hR⟩
  refine tg_after hS (va_runI (As := As.map (tg_v G)) (rest := rest.map (tg_v G)) (g := F0 mi pc ls _) ⟨hx, hb, hmx, hown, hts⟩ (hM l) ⟨by rw [← hrt]; exact callB_of (As.map (tg_v G)).length hts (tg_good (ws := []) hok' (fun _ h => by cases h)) rfl rfl rfl (hts _ (tg_wdG (tg_is_mem w4))) (hts _ (tg_wdG (tg_is_mem w1))) ⟨hMH.1, hMH.2, by rw [List.length_map, h1]; exact har⟩ hRm, hnm2, hts _ (tg_wdG (tg_is_mem w2))⟩ ⟨tg_blind G _ w, hPU⟩ rfl rfl (by exact hl.1) rfl (lv_room hcat) hd1 hf) (fun r w' H1 locs1 hQ' hS1 hR1 => k r w' hQ' p l en R s mi args below meth c H1 locs1 ls C hS1 hR1 hl)
theorem tg_call3 {idx : Nat} {nx : Nat} {f : List Nat} {y : MethodName} {v : Value} {cs : List (Int32 × Nat)} {lv' mc' ms' : Nat} {m' : tg_M} {As rest st : List Value} {Q' : Option Value → tg_W → Prop} {b : Nat} {o : Nat × List Value} (ho : tg_lk w b = some (.inl o)) (hoc : o.1 < 12) 
    (he : tg_f m.2.2.2.2.2 pc = some (.invokespecial idx, nx, f, y, v, cs)) (hC : tg_C G lv' m' mc' ms' (.ref b :: As) w Q') (hy : m'.1 = y) (hs : (Nat.beq (tg_gd f 0) 3 && Nat.beq As.length (tg_gd f 1) && Nat.blt lv' lv && Nat.ble (kc + mc') mc && Nat.ble (ks + ms') ms && Nat.ble ((rest.map fun v => v.category).sum) 8) = true) (hst : st = (.ref b :: As).reverse ++ rest)
    (k : ∀ r w', Q' r w' → tg_V G lv m (kc + mc') (ks + ms') mc ms Q nx L (r.toList ++ rest) w') : tg_V G lv m kc ks mc ms Q pc L st w := by
  subst hst
  intro p l en R s mi args below meth c H locs ls C hS hR hl
  obtain ⟨hok, hx, hb, hmx, hr, hlk, hnm, hown, hts, hfix, hbase, hroom⟩ := id C
  obtain ⟨hd, hn, hI⟩ := tg_dec hok he
  obtain ⟨hd1, hn1⟩ := tg_len1 hd hn rfl
  subst hn1
  obtain ⟨hok', hM⟩ := hC
  subst hy
  simp only [Bool.and_eq_true] at hs
  obtain ⟨⟨⟨⟨⟨h0, h1⟩, h2⟩, h3⟩, h4⟩, h5⟩ := hs
  have h0 := Nat.eq_of_beq_eq_true h0
  have h1 := Nat.eq_of_beq_eq_true h1
  have h2 : lv' + 1 ≤ lv := by simp only [Nat.blt_eq] at h2; exact h2
  have h3 := Nat.le_of_ble_eq_true h3
  have h4 := Nat.le_of_ble_eq_true h4
  have h5 := Nat.le_of_ble_eq_true h5
  have hmx' := tg_ok_mx hok'
  have hcat : ((rest.map (tg_v G)).map fun v => v.category).sum ≤ 8 := by
    rw [List.map_map]
    have : ((fun v : Value => v.category) ∘ tg_v G) = fun v : Value => v.category := by funext v; exact tg_vcat G v
    rw [this]; exact h5
  have hRm : (tg_rm lv' mc' ms').frames + 1 ≤ R.frames ∧ 8 + (m'.2.2.1 + 11) + (tg_rm lv' mc' ms').locals ≤ R.locals := ⟨Nat.le_trans h2 hroom.1, by
    show 8 + (m'.2.2.1 + 11) + 40 * lv' ≤ R.locals
    have := hroom.2.1
    omega⟩
  have hf : kc + mc' ≤ R.cells ∧ ks + ms' ≤ R.slots := ⟨Nat.le_trans h3 hroom.2.2.1, Nat.le_trans h4 hroom.2.2.2⟩
  simp only [tg_okI, tg_okc, h0, Bool.and_eq_true, decide_eq_true_eq] at hI
  obtain ⟨⟨⟨⟨⟨⟨⟨-, har⟩, hnm2⟩, w1⟩, w2⟩, w3⟩, w4⟩, w5⟩ := hI
  have har := of_decide_eq_true har
  have hstk : ((.ref b :: As).reverse ++ rest).map (tg_v G) = (As.map (tg_v G)).reverse ++ .ref (tg_ad G b) :: rest.map (tg_v G) := by
    simp [List.map_reverse, tg_v]
  rw [hstk]
  have hPU : ∀ U : State, U.heap = H → s.WarmedH U.vm → tg_P G (.ref b :: As) w (Value.ref (tg_ad G b) :: As.map (tg_v G)).toArray U := fun U hU hW => ⟨rfl, tg_fix_warm hbase hS hU hW hfix, by rw [hU]; exact Nat.le_trans hbase hS.1, by rw [hU]; exact hR⟩
  have hco := tg_clsok o.1 hoc
  have hcls : ∃ cellB : Cell, H[tg_ad G b]? = some cellB ∧ cellB.vm.isStatics = false ∧ s.vm.findClass (tg_cls o.1).1 = some cellB.cls := va_recv hfix.1 hR.1 hco (tg_lk_ws (G := G) ho)
  refine tg_after hS (va_runSU (C := (tg_cls o.1).1) (As := As.map (tg_v G)) (rest := rest.map (tg_v G)) (g := F0 mi pc ls _) (hfix.1.1 o.1 _ hco).2 ⟨hx, hb, hmx, hown, hts⟩ (hM l) (va_cwSU (As.map (tg_v G)).length hts (tg_good (ws := [.methodLink m.1.cls idx m'.1, .sameMethod m'.1.cls m'.1.cls m'.1.name m'.1.desc, .superclass m.1.cls m'.1.cls, .instanceMethod m'.1, .initialized m'.1.cls]) hok' ?_) rfl rfl rfl ⟨hnm2, by rw [List.length_map, h1]; exact har⟩ hRm) ⟨tg_blind G _ w, hcls, hPU⟩ rfl rfl (by exact hl.1) rfl (lv_room hcat) hd1 hf) (fun r w' H1 locs1 hQ' hS1 hR1 => k r w' hQ' p l en R s mi args below meth c H1 locs1 ls C hS1 hR1 hl)
  intro w' hw'
  simp only [List.mem_cons, List.not_mem_nil, or_false] at hw'
  rcases hw' with rfl | rfl | rfl | rfl | rfl
  · exact tg_is_mem w1
  · exact tg_is_mem w5
  · exact tg_is_mem w3
  · exact tg_is_mem w2
  · exact tg_is_mem w4
def tg_okO (own : String) (idx : Nat) (x y : MethodName) (g : List Nat) : Bool :=
  decide (x.cls ≠ "java/lang/invoke/MethodHandle" ∧ x.cls ≠ "java/lang/invoke/VarHandle" ∧ y.name = x.name ∧ y.desc = x.desc) && tg_is (tg_gd g 0) (tg_gd g 1) (.sameMethod x.cls x.cls x.name x.desc) && tg_is (tg_gd g 2) (tg_gd g 3) (.instanceMethod x) && tg_is (tg_gd g 4) (tg_gd g 5) (.selects y.cls x y) && tg_is (tg_gd g 6) (tg_gd g 7) (.instanceMethod y) && tg_is (tg_gd g 8) (tg_gd g 9) (.initialized y.cls)
theorem tg_call5 {idx : Nat} {nx : Nat} {f : List Nat} {y : MethodName} {v : Value} {cs : List (Int32 × Nat)} {lv' mc' ms' : Nat} {m' : tg_M} {As rest st : List Value} {Q' : Option Value → tg_W → Prop} {b : Nat} {o : Nat × List Value} (ho : tg_lk w b = some (.inl o)) (hoc : ((vwCl[o.1]?).map fun q => q.1) = some m'.1.cls) {m0 : tg_M} (hok0 : tg_ok m0 = true) (hy0 : m0.1 = y) {g : List Nat} (hO : tg_okO m.1.cls idx y m'.1 g = true) 
    (he : tg_f m.2.2.2.2.2 pc = some (.invokevirtual idx, nx, f, y, v, cs)) (hC : tg_C G lv' m' mc' ms' (.ref b :: As) w Q') (hs : (Nat.beq (tg_gd f 0) 5 && Nat.beq As.length (tg_gd f 1) && Nat.blt lv' lv && Nat.ble (kc + mc') mc && Nat.ble (ks + ms') ms && Nat.ble ((rest.map fun v => v.category).sum) 8) = true) (hst : st = (.ref b :: As).reverse ++ rest)
    (k : ∀ r w', Q' r w' → tg_V G lv m (kc + mc') (ks + ms') mc ms Q nx L (r.toList ++ rest) w') : tg_V G lv m kc ks mc ms Q pc L st w := by
  subst hst
  intro p l en R s mi args below meth c H locs ls C hS hR hl
  obtain ⟨hok, hx, hb, hmx, hr, hlk, hnm, hown, hts, hfix, hbase, hroom⟩ := id C
  obtain ⟨hd, hn, hI⟩ := tg_dec hok he
  obtain ⟨hd1, hn1⟩ := tg_len1 hd hn rfl
  subst hn1
  obtain ⟨hok', hM⟩ := hC
  simp only [Bool.and_eq_true] at hs
  obtain ⟨⟨⟨⟨⟨h0, h1⟩, h2⟩, h3⟩, h4⟩, h5⟩ := hs
  have h0 := Nat.eq_of_beq_eq_true h0
  have h1 := Nat.eq_of_beq_eq_true h1
  have h2 : lv' + 1 ≤ lv := by simp only [Nat.blt_eq] at h2; exact h2
  have h3 := Nat.le_of_ble_eq_true h3
  have h4 := Nat.le_of_ble_eq_true h4
  have h5 := Nat.le_of_ble_eq_true h5
  have hmx' := tg_ok_mx hok'
  have hcat : ((rest.map (tg_v G)).map fun v => v.category).sum ≤ 8 := by
    rw [List.map_map]
    have : ((fun v : Value => v.category) ∘ tg_v G) = fun v : Value => v.category := by funext v; exact tg_vcat G v
    rw [this]; exact h5
  have hRm : (tg_rm lv' mc' ms').frames + 1 ≤ R.frames ∧ 8 + (m'.2.2.1 + 11) + (tg_rm lv' mc' ms').locals ≤ R.locals := ⟨Nat.le_trans h2 hroom.1, by
    show 8 + (m'.2.2.1 + 11) + 40 * lv' ≤ R.locals
    have := hroom.2.1
    omega⟩
  have hf : kc + mc' ≤ R.cells ∧ ks + ms' ≤ R.slots := ⟨Nat.le_trans h3 hroom.2.2.1, Nat.le_trans h4 hroom.2.2.2⟩
  simp only [tg_okI, tg_okc, h0, Bool.and_eq_true, decide_eq_true_eq] at hI
  obtain ⟨⟨-, har⟩, w1⟩ := hI
  have har := of_decide_eq_true har
  simp only [tg_okO, Bool.and_eq_true, decide_eq_true_eq] at hO
  obtain ⟨⟨⟨⟨⟨⟨hMH1, hMH2, hyn, hyd⟩, w2⟩, w3⟩, w4⟩, w5⟩, w6⟩ := hO
  have hstk : ((.ref b :: As).reverse ++ rest).map (tg_v G) = (As.map (tg_v G)).reverse ++ .ref (tg_ad G b) :: rest.map (tg_v G) := by
    simp [List.map_reverse, tg_v]
  rw [hstk]
  have hPU : ∀ U : State, U.heap = H → s.WarmedH U.vm → tg_P G (.ref b :: As) w (Value.ref (tg_ad G b) :: As.map (tg_v G)).toArray U := fun U hU hW => ⟨rfl, tg_fix_warm hbase hS hU hW hfix, by rw [hU]; exact Nat.le_trans hbase hS.1, by rw [hU]; exact hR⟩
  have hcls : ∃ cellB : Cell, H[tg_ad G b]? = some cellB ∧ cellB.vm.isStatics = false ∧ s.vm.findClass m'.1.cls = some cellB.cls := by
    obtain ⟨q, hq1, hq2⟩ := Option.map_eq_some_iff.mp hoc
    have := va_recv hfix.1 hR.1 hq1 (tg_lk_ws (G := G) ho)
    rw [hq2] at this
    exact this
  refine tg_after hS (va_runU (C := m'.1.cls) (owner := y.cls) (As := As.map (tg_v G)) (rest := rest.map (tg_v G)) (g := F0 mi pc ls _) ⟨hx, hb, hmx, hown, hts⟩ (hM l) (va_cwO (b0 := m0.2.1) (m0 := m0.2.2.1) (r0 := m0.2.2.2.1) (As.map (tg_v G)).length hts (tg_good (ws := [.methodLink m.1.cls idx y, .sameMethod y.cls y.cls y.name y.desc, .instanceMethod ⟨y.cls, y.name, y.desc⟩, .selects m'.1.cls y m'.1, .instanceMethod m'.1, .initialized m'.1.cls]) hok' ?_) rfl rfl rfl (by have := tg_wdG (m := m) (tg_ok_code hok0); rw [hy0] at this; exact this) ⟨hMH1, hMH2, by rw [List.length_map, h1]; exact har⟩ hRm) ⟨tg_blind G _ w, hcls, hPU⟩ rfl rfl (by exact hl.1) rfl (lv_room hcat) hd1 hf) (fun r w' H1 locs1 hQ' hS1 hR1 => k r w' hQ' p l en R s mi args below meth c H1 locs1 ls C hS1 hR1 hl)
  intro w' hw'
  simp only [List.mem_cons, List.not_mem_nil, or_false] at hw'
  rcases hw' with rfl | rfl | rfl | rfl | rfl | rfl
  · exact tg_is_mem w1
  · exact tg_is_mem w2
  · exact tg_is_mem w3
  · exact tg_is_mem w4
  · exact tg_is_mem w5
  · exact tg_is_mem w6
theorem tg_objI {idx : Nat} {nx : Nat} {f : List Nat} {y : MethodName} {v : Value} {cs : List (Int32 × Nat)} {b : Nat} {rest : List Value}
    (he : tg_f m.2.2.2.2.2 pc = some (.invokespecial idx, nx, f, y, v, cs)) (hs : (Nat.beq (tg_gd f 0) 6 && Nat.blt 0 lv && Nat.ble ((rest.map fun v => v.category).sum) 8) = true)
    (k : tg_V G lv m kc ks mc ms Q nx L rest w) : tg_V G lv m kc ks mc ms Q pc L (.ref b :: rest) w := by
  intro p l en R s mi args below meth c H locs ls C hS hR hl
  obtain ⟨hok, hx, hb, hmx, hr, hlk, hnm, hown, hts, hfix, hbase, hroom⟩ := id C
  obtain ⟨hd, hn, hI⟩ := tg_dec hok he
  obtain ⟨hd1, hn1⟩ := tg_len1 hd hn rfl
  subst hn1
  simp only [Bool.and_eq_true] at hs
  obtain ⟨⟨h0, h2⟩, h5⟩ := hs
  have h0 := Nat.eq_of_beq_eq_true h0
  have h2 : 0 + 1 ≤ lv := by simp only [Nat.blt_eq] at h2; exact h2
  have h5 := Nat.le_of_ble_eq_true h5
  simp only [tg_okI, tg_okc, h0, Bool.and_eq_true, decide_eq_true_eq] at hI
  obtain ⟨⟨⟨⟨-, rfl⟩, w1⟩, w2⟩, w3⟩ := hI
  have hcat : ((rest.map (tg_v G)).map fun v => v.category).sum ≤ 8 := by
    rw [List.map_map]
    have : ((fun v : Value => v.category) ∘ tg_v G) = fun v : Value => v.category := by funext v; exact tg_vcat G v
    rw [this]; exact h5
  refine W.objInit (g := F0 mi pc ls _) hx hb hown (hts _ (tg_wdG (tg_is_mem w1))) (hts _ (tg_wdG (tg_is_mem w2))) (hts _ (tg_wdG (tg_is_mem w3))) rfl (by rw [hmx]; exact hl.1) rfl hd1 (by have := hroom.1; omega) (by
    have h9 := lv_room (m := mi) (pc := pc) (ls := ls) (rest := []) hcat
    have := hroom.2.1
    show 2 * 0 + _ + 12 ≤ _
    omega) ?_
  exact k p l en R s mi args below meth c H locs ls C hS hR hl
end TGC
end
