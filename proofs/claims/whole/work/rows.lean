section
-- ===== PART A: goes FIRST, ahead of the names: the tables' words, and 'selects' of the private methods out of them =====
/-- a private method of a class that the tables say can be made, by its rows of tables_1 -/
def lw_okq (q : MethodName × Nat) : Prop := (q.1.cls ≠ "java/lang/invoke/MethodHandle" ∧ q.1.cls ≠ "java/lang/invoke/VarHandle") ∧ Cond.instantiable q.1.cls q.2 ∈ tables_1 ∧ Cond.privateMethod q.1 ∈ tables_1 ∧ Cond.instanceMethod q.1 ∈ tables_1
theorem lw_p0 : lw_okq (⟨"java/lang/Throwable", "fillInStackTrace", "(I)Ljava/lang/Throwable;"⟩, 6) := ⟨⟨by decide +kernel, by decide +kernel⟩, List.mem_of_getElem? (i := 243) (by decide +kernel), List.mem_of_getElem? (i := 241) (by decide +kernel), List.mem_of_getElem? (i := 242) (by decide +kernel)⟩
theorem lw_p1 : lw_okq (⟨"LabelRouter", "needNode", "(I)V"⟩, 6) := ⟨⟨by decide +kernel, by decide +kernel⟩, List.mem_of_getElem? (i := 20) (by decide +kernel), List.mem_of_getElem? (i := 287) (by decide +kernel), List.mem_of_getElem? (i := 288) (by decide +kernel)⟩
theorem lw_p2 : lw_okq (⟨"LabelRouter", "needBelow", "(II)V"⟩, 6) := ⟨⟨by decide +kernel, by decide +kernel⟩, List.mem_of_getElem? (i := 20) (by decide +kernel), List.mem_of_getElem? (i := 295) (by decide +kernel), List.mem_of_getElem? (i := 296) (by decide +kernel)⟩
theorem lw_p3 : lw_okq (⟨"LabelRouter$Network", "connect", "(III)V"⟩, 3) := ⟨⟨by decide +kernel, by decide +kernel⟩, List.mem_of_getElem? (i := 28) (by decide +kernel), List.mem_of_getElem? (i := 346) (by decide +kernel), List.mem_of_getElem? (i := 347) (by decide +kernel)⟩
theorem lw_p4 : lw_okq (⟨"LabelRouter$Network", "weigh", "(III)V"⟩, 3) := ⟨⟨by decide +kernel, by decide +kernel⟩, List.mem_of_getElem? (i := 28) (by decide +kernel), List.mem_of_getElem? (i := 354) (by decide +kernel), List.mem_of_getElem? (i := 355) (by decide +kernel)⟩
theorem lw_p5 : lw_okq (⟨"LabelRouter$Network", "nearestLeft", "([IJ)I"⟩, 3) := ⟨⟨by decide +kernel, by decide +kernel⟩, List.mem_of_getElem? (i := 28) (by decide +kernel), List.mem_of_getElem? (i := 397) (by decide +kernel), List.mem_of_getElem? (i := 398) (by decide +kernel)⟩
theorem lw_p6 : lw_okq (⟨"LabelRouter$Network", "reachFrom", "(I[I)V"⟩, 3) := ⟨⟨by decide +kernel, by decide +kernel⟩, List.mem_of_getElem? (i := 28) (by decide +kernel), List.mem_of_getElem? (i := 401) (by decide +kernel), List.mem_of_getElem? (i := 402) (by decide +kernel)⟩
theorem lw_p7 : lw_okq (⟨"LabelRouter$Landmarks", "fillBalls", "(I)V"⟩, 7) := ⟨⟨by decide +kernel, by decide +kernel⟩, List.mem_of_getElem? (i := 79) (by decide +kernel), List.mem_of_getElem? (i := 427) (by decide +kernel), List.mem_of_getElem? (i := 428) (by decide +kernel)⟩
theorem lw_p8 : lw_okq (⟨"LabelRouter$Landmarks", "chooseFirst", "()V"⟩, 7) := ⟨⟨by decide +kernel, by decide +kernel⟩, List.mem_of_getElem? (i := 79) (by decide +kernel), List.mem_of_getElem? (i := 439) (by decide +kernel), List.mem_of_getElem? (i := 440) (by decide +kernel)⟩
theorem lw_p9 : lw_okq (⟨"LabelRouter$Landmarks", "mostWanted", "()I"⟩, 7) := ⟨⟨by decide +kernel, by decide +kernel⟩, List.mem_of_getElem? (i := 79) (by decide +kernel), List.mem_of_getElem? (i := 443) (by decide +kernel), List.mem_of_getElem? (i := 444) (by decide +kernel)⟩
theorem lw_p10 : lw_okq (⟨"LabelRouter$Landmarks", "countInBalls", "()V"⟩, 7) := ⟨⟨by decide +kernel, by decide +kernel⟩, List.mem_of_getElem? (i := 79) (by decide +kernel), List.mem_of_getElem? (i := 447) (by decide +kernel), List.mem_of_getElem? (i := 448) (by decide +kernel)⟩
theorem lw_p11 : lw_okq (⟨"LabelRouter$Landmarks", "chooseMore", "()V"⟩, 7) := ⟨⟨by decide +kernel, by decide +kernel⟩, List.mem_of_getElem? (i := 79) (by decide +kernel), List.mem_of_getElem? (i := 455) (by decide +kernel), List.mem_of_getElem? (i := 456) (by decide +kernel)⟩
theorem lw_p12 : lw_okq (⟨"LabelRouter$Landmarks", "findOwn", "()V"⟩, 7) := ⟨⟨by decide +kernel, by decide +kernel⟩, List.mem_of_getElem? (i := 79) (by decide +kernel), List.mem_of_getElem? (i := 472) (by decide +kernel), List.mem_of_getElem? (i := 473) (by decide +kernel)⟩
theorem lw_p13 : lw_okq (⟨"LabelRouter$Landmarks", "nearestLandmark", "(I)I"⟩, 7) := ⟨⟨by decide +kernel, by decide +kernel⟩, List.mem_of_getElem? (i := 79) (by decide +kernel), List.mem_of_getElem? (i := 476) (by decide +kernel), List.mem_of_getElem? (i := 477) (by decide +kernel)⟩
theorem lw_p14 : lw_okq (⟨"LabelRouter$Landmarks", "fillClusters", "()V"⟩, 7) := ⟨⟨by decide +kernel, by decide +kernel⟩, List.mem_of_getElem? (i := 79) (by decide +kernel), List.mem_of_getElem? (i := 480) (by decide +kernel), List.mem_of_getElem? (i := 481) (by decide +kernel)⟩
theorem lw_p15 : lw_okq (⟨"LabelRouter$Landmarks", "lowestCrowded", "(I)I"⟩, 7) := ⟨⟨by decide +kernel, by decide +kernel⟩, List.mem_of_getElem? (i := 79) (by decide +kernel), List.mem_of_getElem? (i := 488) (by decide +kernel), List.mem_of_getElem? (i := 489) (by decide +kernel)⟩
def lw_privs_1 : List (MethodName × Nat) := [(⟨"java/lang/Throwable", "fillInStackTrace", "(I)Ljava/lang/Throwable;"⟩, 6), (⟨"LabelRouter", "needNode", "(I)V"⟩, 6), (⟨"LabelRouter", "needBelow", "(II)V"⟩, 6), (⟨"LabelRouter$Network", "connect", "(III)V"⟩, 3), (⟨"LabelRouter$Network", "weigh", "(III)V"⟩, 3), (⟨"LabelRouter$Network", "nearestLeft", "([IJ)I"⟩, 3), (⟨"LabelRouter$Network", "reachFrom", "(I[I)V"⟩, 3), (⟨"LabelRouter$Landmarks", "fillBalls", "(I)V"⟩, 7), (⟨"LabelRouter$Landmarks", "chooseFirst", "()V"⟩, 7), (⟨"LabelRouter$Landmarks", "mostWanted", "()I"⟩, 7), (⟨"LabelRouter$Landmarks", "countInBalls", "()V"⟩, 7), (⟨"LabelRouter$Landmarks", "chooseMore", "()V"⟩, 7), (⟨"LabelRouter$Landmarks", "findOwn", "()V"⟩, 7), (⟨"LabelRouter$Landmarks", "nearestLandmark", "(I)I"⟩, 7), (⟨"LabelRouter$Landmarks", "fillClusters", "()V"⟩, 7), (⟨"LabelRouter$Landmarks", "lowestCrowded", "(I)I"⟩, 7)]
theorem lw_r1 : ∀ q ∈ lw_privs_1, lw_okq q := List.forall_mem_cons.mpr ⟨lw_p0, List.forall_mem_cons.mpr ⟨lw_p1, List.forall_mem_cons.mpr ⟨lw_p2, List.forall_mem_cons.mpr ⟨lw_p3, List.forall_mem_cons.mpr ⟨lw_p4, List.forall_mem_cons.mpr ⟨lw_p5, List.forall_mem_cons.mpr ⟨lw_p6, List.forall_mem_cons.mpr ⟨lw_p7, List.forall_mem_cons.mpr ⟨lw_p8, List.forall_mem_cons.mpr ⟨lw_p9, List.forall_mem_cons.mpr ⟨lw_p10, List.forall_mem_cons.mpr ⟨lw_p11, List.forall_mem_cons.mpr ⟨lw_p12, List.forall_mem_cons.mpr ⟨lw_p13, List.forall_mem_cons.mpr ⟨lw_p14, List.forall_mem_cons.mpr ⟨lw_p15, fun _ h => absurd h List.not_mem_nil⟩⟩⟩⟩⟩⟩⟩⟩⟩⟩⟩⟩⟩⟩⟩⟩
theorem lw_p16 : lw_okq (⟨"LabelRouter$Forest", "findParents", "(I)V"⟩, 7) := ⟨⟨by decide +kernel, by decide +kernel⟩, List.mem_of_getElem? (i := 108) (by decide +kernel), List.mem_of_getElem? (i := 505) (by decide +kernel), List.mem_of_getElem? (i := 506) (by decide +kernel)⟩
theorem lw_p17 : lw_okq (⟨"LabelRouter$Forest", "addSizes", "(I)V"⟩, 7) := ⟨⟨by decide +kernel, by decide +kernel⟩, List.mem_of_getElem? (i := 108) (by decide +kernel), List.mem_of_getElem? (i := 523) (by decide +kernel), List.mem_of_getElem? (i := 524) (by decide +kernel)⟩
theorem lw_p18 : lw_okq (⟨"LabelRouter$Forest", "findHeavies", "(I)V"⟩, 7) := ⟨⟨by decide +kernel, by decide +kernel⟩, List.mem_of_getElem? (i := 108) (by decide +kernel), List.mem_of_getElem? (i := 529) (by decide +kernel), List.mem_of_getElem? (i := 530) (by decide +kernel)⟩
theorem lw_p19 : lw_okq (⟨"LabelRouter$Forest", "givePlaces", "(I)V"⟩, 7) := ⟨⟨by decide +kernel, by decide +kernel⟩, List.mem_of_getElem? (i := 108) (by decide +kernel), List.mem_of_getElem? (i := 533) (by decide +kernel), List.mem_of_getElem? (i := 534) (by decide +kernel)⟩
theorem lw_p20 : lw_okq (⟨"LabelRouter$Forest", "placeChildren", "(II)V"⟩, 7) := ⟨⟨by decide +kernel, by decide +kernel⟩, List.mem_of_getElem? (i := 108) (by decide +kernel), List.mem_of_getElem? (i := 537) (by decide +kernel), List.mem_of_getElem? (i := 538) (by decide +kernel)⟩
theorem lw_p21 : lw_okq (⟨"LabelRouter$Scheme", "writeLabel", "(II)V"⟩, 5) := ⟨⟨by decide +kernel, by decide +kernel⟩, List.mem_of_getElem? (i := 54) (by decide +kernel), List.mem_of_getElem? (i := 545) (by decide +kernel), List.mem_of_getElem? (i := 546) (by decide +kernel)⟩
theorem lw_p22 : lw_okq (⟨"LabelRouter$Scheme", "lightPorts", "(II)I"⟩, 5) := ⟨⟨by decide +kernel, by decide +kernel⟩, List.mem_of_getElem? (i := 54) (by decide +kernel), List.mem_of_getElem? (i := 557) (by decide +kernel), List.mem_of_getElem? (i := 558) (by decide +kernel)⟩
theorem lw_p23 : lw_okq (⟨"LabelRouter", "needBuilt", "()V"⟩, 6) := ⟨⟨by decide +kernel, by decide +kernel⟩, List.mem_of_getElem? (i := 20) (by decide +kernel), List.mem_of_getElem? (i := 575) (by decide +kernel), List.mem_of_getElem? (i := 576) (by decide +kernel)⟩
theorem lw_p24 : lw_okq (⟨"LabelRouter", "needPacket", "(I)V"⟩, 6) := ⟨⟨by decide +kernel, by decide +kernel⟩, List.mem_of_getElem? (i := 20) (by decide +kernel), List.mem_of_getElem? (i := 657) (by decide +kernel), List.mem_of_getElem? (i := 658) (by decide +kernel)⟩
theorem lw_p25 : lw_okq (⟨"LabelRouter$Scheme", "alongTree", "(I[I)I"⟩, 5) := ⟨⟨by decide +kernel, by decide +kernel⟩, List.mem_of_getElem? (i := 54) (by decide +kernel), List.mem_of_getElem? (i := 679) (by decide +kernel), List.mem_of_getElem? (i := 680) (by decide +kernel)⟩
theorem lw_p26 : lw_okq (⟨"LabelRouterModel", "isNode", "(I)Z"⟩, 19) := ⟨⟨by decide +kernel, by decide +kernel⟩, List.mem_of_getElem? (i := 734) (by decide +kernel), List.mem_of_getElem? (i := 811) (by decide +kernel), List.mem_of_getElem? (i := 812) (by decide +kernel)⟩
theorem lw_p27 : lw_okq (⟨"LabelRouterModel", "measure", "()V"⟩, 19) := ⟨⟨by decide +kernel, by decide +kernel⟩, List.mem_of_getElem? (i := 734) (by decide +kernel), List.mem_of_getElem? (i := 830) (by decide +kernel), List.mem_of_getElem? (i := 831) (by decide +kernel)⟩
theorem lw_p28 : lw_okq (⟨"LabelRouterModel", "firstMarks", "(I)I"⟩, 19) := ⟨⟨by decide +kernel, by decide +kernel⟩, List.mem_of_getElem? (i := 734) (by decide +kernel), List.mem_of_getElem? (i := 839) (by decide +kernel), List.mem_of_getElem? (i := 840) (by decide +kernel)⟩
theorem lw_p29 : lw_okq (⟨"LabelRouterModel", "ahead", "(II)I"⟩, 19) := ⟨⟨by decide +kernel, by decide +kernel⟩, List.mem_of_getElem? (i := 734) (by decide +kernel), List.mem_of_getElem? (i := 843) (by decide +kernel), List.mem_of_getElem? (i := 844) (by decide +kernel)⟩
theorem lw_p30 : lw_okq (⟨"LabelRouterModel", "d", "(II)I"⟩, 19) := ⟨⟨by decide +kernel, by decide +kernel⟩, List.mem_of_getElem? (i := 734) (by decide +kernel), List.mem_of_getElem? (i := 847) (by decide +kernel), List.mem_of_getElem? (i := 848) (by decide +kernel)⟩
theorem lw_p31 : lw_okq (⟨"LabelRouterModel", "inBalls", "(I)I"⟩, 19) := ⟨⟨by decide +kernel, by decide +kernel⟩, List.mem_of_getElem? (i := 734) (by decide +kernel), List.mem_of_getElem? (i := 851) (by decide +kernel), List.mem_of_getElem? (i := 852) (by decide +kernel)⟩
def lw_privs_2 : List (MethodName × Nat) := [(⟨"LabelRouter$Forest", "findParents", "(I)V"⟩, 7), (⟨"LabelRouter$Forest", "addSizes", "(I)V"⟩, 7), (⟨"LabelRouter$Forest", "findHeavies", "(I)V"⟩, 7), (⟨"LabelRouter$Forest", "givePlaces", "(I)V"⟩, 7), (⟨"LabelRouter$Forest", "placeChildren", "(II)V"⟩, 7), (⟨"LabelRouter$Scheme", "writeLabel", "(II)V"⟩, 5), (⟨"LabelRouter$Scheme", "lightPorts", "(II)I"⟩, 5), (⟨"LabelRouter", "needBuilt", "()V"⟩, 6), (⟨"LabelRouter", "needPacket", "(I)V"⟩, 6), (⟨"LabelRouter$Scheme", "alongTree", "(I[I)I"⟩, 5), (⟨"LabelRouterModel", "isNode", "(I)Z"⟩, 19), (⟨"LabelRouterModel", "measure", "()V"⟩, 19), (⟨"LabelRouterModel", "firstMarks", "(I)I"⟩, 19), (⟨"LabelRouterModel", "ahead", "(II)I"⟩, 19), (⟨"LabelRouterModel", "d", "(II)I"⟩, 19), (⟨"LabelRouterModel", "inBalls", "(I)I"⟩, 19)]
theorem lw_r2 : ∀ q ∈ lw_privs_2, lw_okq q := List.forall_mem_cons.mpr ⟨lw_p16, List.forall_mem_cons.mpr ⟨lw_p17, List.forall_mem_cons.mpr ⟨lw_p18, List.forall_mem_cons.mpr ⟨lw_p19, List.forall_mem_cons.mpr ⟨lw_p20, List.forall_mem_cons.mpr ⟨lw_p21, List.forall_mem_cons.mpr ⟨lw_p22, List.forall_mem_cons.mpr ⟨lw_p23, List.forall_mem_cons.mpr ⟨lw_p24, List.forall_mem_cons.mpr ⟨lw_p25, List.forall_mem_cons.mpr ⟨lw_p26, List.forall_mem_cons.mpr ⟨lw_p27, List.forall_mem_cons.mpr ⟨lw_p28, List.forall_mem_cons.mpr ⟨lw_p29, List.forall_mem_cons.mpr ⟨lw_p30, List.forall_mem_cons.mpr ⟨lw_p31, fun _ h => absurd h List.not_mem_nil⟩⟩⟩⟩⟩⟩⟩⟩⟩⟩⟩⟩⟩⟩⟩⟩
theorem lw_p32 : lw_okq (⟨"LabelRouterModel", "findOwn", "()V"⟩, 19) := ⟨⟨by decide +kernel, by decide +kernel⟩, List.mem_of_getElem? (i := 734) (by decide +kernel), List.mem_of_getElem? (i := 855) (by decide +kernel), List.mem_of_getElem? (i := 856) (by decide +kernel)⟩
theorem lw_p33 : lw_okq (⟨"LabelRouterModel", "cluster", "(I)I"⟩, 19) := ⟨⟨by decide +kernel, by decide +kernel⟩, List.mem_of_getElem? (i := 734) (by decide +kernel), List.mem_of_getElem? (i := 859) (by decide +kernel), List.mem_of_getElem? (i := 860) (by decide +kernel)⟩
theorem lw_p34 : lw_okq (⟨"LabelRouterModel", "isNear", "(II)Z"⟩, 19) := ⟨⟨by decide +kernel, by decide +kernel⟩, List.mem_of_getElem? (i := 734) (by decide +kernel), List.mem_of_getElem? (i := 863) (by decide +kernel), List.mem_of_getElem? (i := 864) (by decide +kernel)⟩
theorem lw_p35 : lw_okq (⟨"LabelRouterModel", "towards", "(II)I"⟩, 19) := ⟨⟨by decide +kernel, by decide +kernel⟩, List.mem_of_getElem? (i := 734) (by decide +kernel), List.mem_of_getElem? (i := 867) (by decide +kernel), List.mem_of_getElem? (i := 868) (by decide +kernel)⟩
theorem lw_p36 : lw_okq (⟨"LabelRouterModel", "marks", "()I"⟩, 19) := ⟨⟨by decide +kernel, by decide +kernel⟩, List.mem_of_getElem? (i := 734) (by decide +kernel), List.mem_of_getElem? (i := 871) (by decide +kernel), List.mem_of_getElem? (i := 872) (by decide +kernel)⟩
theorem lw_p37 : lw_okq (⟨"LabelRouterModel", "isBuilt", "()Z"⟩, 19) := ⟨⟨by decide +kernel, by decide +kernel⟩, List.mem_of_getElem? (i := 734) (by decide +kernel), List.mem_of_getElem? (i := 879) (by decide +kernel), List.mem_of_getElem? (i := 880) (by decide +kernel)⟩
theorem lw_p38 : lw_okq (⟨"LabelRouterModel", "placeOf", "(II)I"⟩, 19) := ⟨⟨by decide +kernel, by decide +kernel⟩, List.mem_of_getElem? (i := 734) (by decide +kernel), List.mem_of_getElem? (i := 895) (by decide +kernel), List.mem_of_getElem? (i := 896) (by decide +kernel)⟩
theorem lw_p39 : lw_okq (⟨"LabelRouterModel", "behind", "(II)I"⟩, 19) := ⟨⟨by decide +kernel, by decide +kernel⟩, List.mem_of_getElem? (i := 734) (by decide +kernel), List.mem_of_getElem? (i := 899) (by decide +kernel), List.mem_of_getElem? (i := 900) (by decide +kernel)⟩
theorem lw_p40 : lw_okq (⟨"LabelRouterModel", "heavy", "(II)I"⟩, 19) := ⟨⟨by decide +kernel, by decide +kernel⟩, List.mem_of_getElem? (i := 734) (by decide +kernel), List.mem_of_getElem? (i := 903) (by decide +kernel), List.mem_of_getElem? (i := 904) (by decide +kernel)⟩
theorem lw_p41 : lw_okq (⟨"LabelRouterModel", "sizeOf", "(II)I"⟩, 19) := ⟨⟨by decide +kernel, by decide +kernel⟩, List.mem_of_getElem? (i := 734) (by decide +kernel), List.mem_of_getElem? (i := 907) (by decide +kernel), List.mem_of_getElem? (i := 908) (by decide +kernel)⟩
theorem lw_p42 : lw_okq (⟨"LabelRouterModel", "isBelow", "(III)Z"⟩, 19) := ⟨⟨by decide +kernel, by decide +kernel⟩, List.mem_of_getElem? (i := 734) (by decide +kernel), List.mem_of_getElem? (i := 911) (by decide +kernel), List.mem_of_getElem? (i := 912) (by decide +kernel)⟩
theorem lw_p43 : lw_okq (⟨"LabelRouterModel", "word", "(II)I"⟩, 19) := ⟨⟨by decide +kernel, by decide +kernel⟩, List.mem_of_getElem? (i := 734) (by decide +kernel), List.mem_of_getElem? (i := 919) (by decide +kernel), List.mem_of_getElem? (i := 920) (by decide +kernel)⟩
theorem lw_p44 : lw_okq (⟨"LabelRouterModel", "lights", "(II)I"⟩, 19) := ⟨⟨by decide +kernel, by decide +kernel⟩, List.mem_of_getElem? (i := 734) (by decide +kernel), List.mem_of_getElem? (i := 923) (by decide +kernel), List.mem_of_getElem? (i := 924) (by decide +kernel)⟩
theorem lw_p45 : lw_okq (⟨"LabelRouterModel", "isLight", "(II)Z"⟩, 19) := ⟨⟨by decide +kernel, by decide +kernel⟩, List.mem_of_getElem? (i := 734) (by decide +kernel), List.mem_of_getElem? (i := 927) (by decide +kernel), List.mem_of_getElem? (i := 928) (by decide +kernel)⟩
theorem lw_p46 : lw_okq (⟨"LabelRouterModel", "lightPorts", "(II)I"⟩, 19) := ⟨⟨by decide +kernel, by decide +kernel⟩, List.mem_of_getElem? (i := 734) (by decide +kernel), List.mem_of_getElem? (i := 931) (by decide +kernel), List.mem_of_getElem? (i := 932) (by decide +kernel)⟩
theorem lw_p47 : lw_okq (⟨"LabelRouterModel", "isPacket", "(I)Z"⟩, 19) := ⟨⟨by decide +kernel, by decide +kernel⟩, List.mem_of_getElem? (i := 734) (by decide +kernel), List.mem_of_getElem? (i := 943) (by decide +kernel), List.mem_of_getElem? (i := 944) (by decide +kernel)⟩
def lw_privs_3 : List (MethodName × Nat) := [(⟨"LabelRouterModel", "findOwn", "()V"⟩, 19), (⟨"LabelRouterModel", "cluster", "(I)I"⟩, 19), (⟨"LabelRouterModel", "isNear", "(II)Z"⟩, 19), (⟨"LabelRouterModel", "towards", "(II)I"⟩, 19), (⟨"LabelRouterModel", "marks", "()I"⟩, 19), (⟨"LabelRouterModel", "isBuilt", "()Z"⟩, 19), (⟨"LabelRouterModel", "placeOf", "(II)I"⟩, 19), (⟨"LabelRouterModel", "behind", "(II)I"⟩, 19), (⟨"LabelRouterModel", "heavy", "(II)I"⟩, 19), (⟨"LabelRouterModel", "sizeOf", "(II)I"⟩, 19), (⟨"LabelRouterModel", "isBelow", "(III)Z"⟩, 19), (⟨"LabelRouterModel", "word", "(II)I"⟩, 19), (⟨"LabelRouterModel", "lights", "(II)I"⟩, 19), (⟨"LabelRouterModel", "isLight", "(II)Z"⟩, 19), (⟨"LabelRouterModel", "lightPorts", "(II)I"⟩, 19), (⟨"LabelRouterModel", "isPacket", "(I)Z"⟩, 19)]
theorem lw_r3 : ∀ q ∈ lw_privs_3, lw_okq q := List.forall_mem_cons.mpr ⟨lw_p32, List.forall_mem_cons.mpr ⟨lw_p33, List.forall_mem_cons.mpr ⟨lw_p34, List.forall_mem_cons.mpr ⟨lw_p35, List.forall_mem_cons.mpr ⟨lw_p36, List.forall_mem_cons.mpr ⟨lw_p37, List.forall_mem_cons.mpr ⟨lw_p38, List.forall_mem_cons.mpr ⟨lw_p39, List.forall_mem_cons.mpr ⟨lw_p40, List.forall_mem_cons.mpr ⟨lw_p41, List.forall_mem_cons.mpr ⟨lw_p42, List.forall_mem_cons.mpr ⟨lw_p43, List.forall_mem_cons.mpr ⟨lw_p44, List.forall_mem_cons.mpr ⟨lw_p45, List.forall_mem_cons.mpr ⟨lw_p46, List.forall_mem_cons.mpr ⟨lw_p47, fun _ h => absurd h List.not_mem_nil⟩⟩⟩⟩⟩⟩⟩⟩⟩⟩⟩⟩⟩⟩⟩⟩
theorem lw_p48 : lw_okq (⟨"LabelRouterModel", "hops", "(II)I"⟩, 19) := ⟨⟨by decide +kernel, by decide +kernel⟩, List.mem_of_getElem? (i := 734) (by decide +kernel), List.mem_of_getElem? (i := 947) (by decide +kernel), List.mem_of_getElem? (i := 948) (by decide +kernel)⟩
def lw_privs_4 : List (MethodName × Nat) := [(⟨"LabelRouterModel", "hops", "(II)I"⟩, 19)]
theorem lw_r4 : ∀ q ∈ lw_privs_4, lw_okq q := List.forall_mem_cons.mpr ⟨lw_p48, fun _ h => absurd h List.not_mem_nil⟩
def lw_privs : List (MethodName × Nat) := lw_privs_1 ++ (lw_privs_2 ++ (lw_privs_3 ++ (lw_privs_4)))
def lw_tbl : List Cond := k2_sels lw_privs ++ tables_1
theorem lw_privs_ok : ∀ q ∈ lw_privs, lw_okq q := by
  show ∀ q ∈ lw_privs_1 ++ (lw_privs_2 ++ (lw_privs_3 ++ (lw_privs_4))), lw_okq q
  exact List.forall_mem_append.mpr ⟨lw_r1, List.forall_mem_append.mpr ⟨lw_r2, List.forall_mem_append.mpr ⟨lw_r3, lw_r4⟩⟩⟩
/-! ===== BEGIN words of one list among another's, by their places ===== -/
theorem goodIn_r {big : List Cond} (ws : List Cond) (ps : List Nat) (hp : ws = ps.filterMap (fun i => big[i]?)) (h : ws.all goodWord = true) : GoodIn big ws := by
  intro w hw
  have h1 := List.all_eq_true.mp h w hw
  rw [hp] at hw
  obtain ⟨i, -, hi⟩ := List.mem_filterMap.mp hw
  have hm : w ∈ big := by first | exact List.mem_of_getElem? hi | exact List.getElem?_mem hi
  exact ⟨hm, good_of_word h1⟩
theorem goodIn_app {big a b : List Cond} (ha : GoodIn big a) (hb : GoodIn big b) : GoodIn big (a ++ b) := fun w h => (List.mem_append.mp h).elim (ha w) (hb w)
theorem goodIn_ca {big a b : List Cond} {c : Cond} (ha : GoodIn big (c :: a)) (hb : GoodIn big b) : GoodIn big (c :: (a ++ b)) := fun w h => (List.mem_cons.mp h).elim (fun e => ha w (List.mem_cons.mpr (Or.inl e))) (fun h => (List.mem_append.mp h).elim (fun h => ha w (List.mem_cons.mpr (Or.inr h))) (hb w))
theorem goodIn_sub {big ws : List Cond} (hm : ∀ w ∈ ws, w ∈ big) (h : ws.all goodWord = true) : GoodIn big ws := fun w hw => ⟨hm w hw, good_of_word (List.all_eq_true.mp h w hw)⟩
/-! ===== END ===== -/
/-- (my own: the printed rows name it, the kit has it not) the tables know arrays of arrays of ty -/
def va_AOA (ty : FieldType) (U : State) : Prop := (Cond.arrayOver (.array ty)).before #[] U = true
theorem va_AOA.of {ty : FieldType} {A : Array Value} {U : State} (h : (Cond.arrayOver (.array ty)).before A U = true) : va_AOA ty U := h
theorem va_AOA.use {ty : FieldType} {A : Array Value} {U : State} (h : va_AOA ty U) : (Cond.arrayOver (.array ty)).before A U = true := h
/-! ===== BEGIN new T[n][m]: the outer array a place, the inner ones among the pooled ===== -/
/-- f, but v at every address of l -/
def vr_up {α : Type} (f : Nat → α) (l : List Nat) (v : α) : Nat → α := fun a => if a ∈ l then v else f a
theorem vr_up_in {α : Type} {f : Nat → α} {l : List Nat} {v : α} {a : Nat} (h : a ∈ l) : vr_up f l v a = v := if_pos h
theorem vr_up_ne {α : Type} {f : Nat → α} {l : List Nat} {v : α} {a : Nat} (h : a ∉ l) : vr_up f l v a = f a := if_neg h
theorem vr_rows {L l : List Nat} {f : Nat → va_E} {e : va_E} (h : ∀ a, a ∈ l → a ∉ L) : va_pl L f ++ l.map (fun a => (a, e)) = va_pl (L ++ l) (vr_up f l e) := by
  unfold va_pl
  rw [List.map_append]
  congr 1
  · apply List.map_congr_left
    intro a ha
    rw [vr_up_ne (fun q => h a q ha)]
  · apply List.map_congr_left
    intro a ha
    rw [vr_up_in ha]
theorem vr_lay {X rows : va_W} {x : Nat × va_E} {pl : va_W} {D : va_G} {cl : List vw_C} {H : Heap} (hP : va_P D cl (((X ++ pl) ++ [x]) ++ rows) H) : va_P D cl ((X ++ [x]) ++ (pl ++ rows)) H := by
  rw [List.append_assoc (X ++ pl)] at hP
  have h := va_P.swap hP
  rw [← List.append_assoc X] at h
  have h2 := va_P.swap h
  rw [List.append_assoc (X ++ [x])] at h2
  exact h2
theorem vr_layD {X rows : va_W} {x : Nat × va_E} {pl : va_W} {A : Nat → Prop} (hD : va_D A (((X ++ pl) ++ [x]) ++ rows)) : va_D A ((X ++ [x]) ++ (pl ++ rows)) := by
  rw [List.append_assoc (X ++ pl)] at hD
  have h := va_D.swap hD
  rw [← List.append_assoc X] at h
  have h2 := va_D.swap h
  rw [List.append_assoc (X ++ [x])] at h2
  exact h2
theorem vr_outer (c : ClassId) (N h0 : Nat) : ∀ i : Nat, Jvm.Free.Multi.outerC c N h0 i = arrV c N (fun j => va_rf (if j < i then some (h0 + 1 + j) else none))
  | 0 => by
    show ({ cls := c, slots := Array.replicate N .null, vm := .none } : Cell) = _
    rw [arrV_new]
    refine congrArg (arrV c N) (funext fun j => ?_)
    simp [va_rf]
  | i + 1 => by
    show (Jvm.Free.Multi.outerC c N h0 i).setSlot i (.ref (h0 + 1 + i)) = _
    rw [vr_outer c N h0 i, arrV_store]
    refine congrArg (arrV c N) (funext fun j => ?_)
    by_cases e : j = i
    · subst e
      simp [updV, va_rf]
    · by_cases h : j < i
      · simp [updV, e, h, Nat.lt_succ_of_lt h]
      · simp [updV, e, h, show ¬ j < i + 1 by omega]
section VGM
variable {p : Program} {l : Launch} {e : Env} {R : Room} {s : State} {m : MethodId} {args : Array Value} {below : List Frame} {meth : Method} {c : Code} {H : Heap} {locs : List Loc} {cells slots : Nat} {Q : State → Prop}
variable {cc : ByteArray} {pc : Nat} {ls : Array Slot} {rest : List Value} {D : va_G} {cl : List vw_C} {A : Nat → Prop} {a : Nat} {tys : List (ClassId × FieldType)} {ws : va_W} {H0 : Heap}
theorem va_mna {X : va_W} {L : List Nat} {f : Nat → va_E} {cc : ByteArray} (hexec : p.tables.exec = Jvm.exec) (hb : c.code = cc) {own : String} {index : Nat} {ty : FieldType} {cy : ClassId} (hown : s.vm.findClass own = some m.cls) (hclink : (Cond.classLink own index ("[" ++ (FieldType.array ty).toString)).before args s = true) (hover : va_AOA ty s) (harr : (Cond.arrayClass ty).before args s = true) (hcy : s.vm.findClass (FieldType.array ty).toString = some cy)
    (hK : va_K D cl tys s) (hP : va_P D cl (X ++ va_pl L f) H) (hD : va_D A (X ++ va_pl L f)) (hS : va_S A H0 H locs) (hA : ∀ q, H0.size ≤ q → A q) {n k : Int32} {N' K' : Nat} {z : vp_A} (hn : ¬ n < 0) (hk : ¬ k < 0) (hN : n.toNatClampNeg = N') (hM : k.toNatClampNeg = K')
    (hb1 : N' * 4 ≤ 536870912) (hb2 : K' * componentBytes ty ≤ 536870912) (hb3 : K' ≤ 536870912) (hdf : fits ty (defaultValue ty) = true) (hdd : (defaultValue ty).isDefault = true) (hcells : cells + (1 + N') ≤ R.cells) (hslots : slots + (N' + N' * K') ≤ R.slots) (hz : ∀ c : ClassId, Jvm.Free.Multi.innerC c K' (defaultValue ty) = vp_cell c z) (hdg : decode cc pc = .ok (.multianewarray index 2, 4))
    (kk : ∀ (q : Nat) (r : Nat → Nat) (cA : ClassId) (H1 : Heap), (∀ i j : Nat, i < N' → j < N' → r i = r j → i = j) → (∀ i : Nat, i < N' → r i ∉ L) → va_K D cl (tys ++ [(cA, .array ty)]) s →
      va_P D cl ((X ++ [(q, .inl (cA, N', .inr (.inr (.inr (.inr (fun i => if i < N' then some (r i) else none))))))]) ++ va_pl (L ++ (List.range N').map r) (vr_up f ((List.range N').map r) (.inl (cy, z)))) H1 → va_D A ((X ++ [(q, .inl (cA, N', .inr (.inr (.inr (.inr (fun i => if i < N' then some (r i) else none))))))]) ++ va_pl (L ++ (List.range N').map r) (vr_up f ((List.range N').map r) (.inl (cy, z)))) → va_S A H0 H1 locs →
      W p l e R s m args below meth c H1 locs (cells + 1 + N') (slots + N' + N' * K') Q (F0 m (pc + 4) ls (.ref q :: rest))) : W p l e R s m args below meth c H locs cells slots Q (F0 m pc ls (.int k :: .int n :: rest)) := by
  subst hN
  subst hM
  intro T hT Xs
  obtain ⟨vm₁, cA, comp, -, fA, fC, hO, -, X', step⟩ := Xs.multianewarray2F hexec hown hclink (va_AOA.use hover) harr (g := F0 m pc ls (.int k :: .int n :: rest)) rfl (by rw [hb]; exact hdg) rfl hn hk hb1 hb2 hb3 hdf hdd hcells hslots
  have ec : some cy = some comp := hcy.symm.trans fC
  cases ec
  generalize hF : Jvm.Free.Multi.fill (T.setVm vm₁) cA cy n.toNatClampNeg k.toNatClampNeg (defaultValue ty) n.toNatClampNeg = F at X' step
  have hTh : (T.setVm vm₁).heap = H := hT
  obtain ⟨f1, f2, -, -⟩ := Jvm.Free.Multi.fill_facts (T.setVm vm₁) cA cy n.toNatClampNeg k.toNatClampNeg (defaultValue ty) n.toNatClampNeg
  rw [hF, hTh] at f1 f2
  have hold : ∀ x : Nat, x < H.size → F.heap[x]? = H[x]? := fun x hx => by
    have := Jvm.Free.Multi.fill_old (T.setVm vm₁) cA cy n.toNatClampNeg k.toNatClampNeg (defaultValue ty) (a := x) (by rw [hTh]; exact hx) n.toNatClampNeg
    rw [hF, hTh] at this
    exact this
  have hrow : ∀ j : Nat, j < n.toNatClampNeg → F.heap[H.size + 1 + j]? = some (vp_cell cy z) := fun j hj => by
    have := Jvm.Free.Multi.fill_inner (T.setVm vm₁) cA cy n.toNatClampNeg k.toNatClampNeg (defaultValue ty) n.toNatClampNeg j hj
    rw [hF, hTh, hz] at this
    exact this
  have hout : Jvm.Free.Multi.outerC cA n.toNatClampNeg H.size n.toNatClampNeg = vp_cell cA (n.toNatClampNeg, .inr (.inr (.inr (.inr (fun i => if i < n.toNatClampNeg then some (H.size + 1 + i) else none))))) := by
    rw [vp_cell_q]
    exact vr_outer cA n.toNatClampNeg H.size n.toNatClampNeg
  rw [hout] at f2
  have hlt : ∀ a, a ∈ L → a < H.size := fun a ha => by
    obtain ⟨k9, hk9⟩ := va_pl_get (X := X) (f := f) ha
    exact (hP k9 _ hk9).lt
  have hnl : ∀ i : Nat, i < n.toNatClampNeg → H.size + 1 + i ∉ L := fun i _ h => by
    have := hlt _ h
    omega
  have hnm : ∀ a, a ∈ (List.range n.toNatClampNeg).map (fun i => H.size + 1 + i) → a ∉ L := fun a ha h => by
    obtain ⟨i, -, rfl⟩ := List.mem_map.mp ha
    have := hlt _ h
    omega
  have hP0 : va_P D cl (X ++ va_pl L f) F.heap := hP.kept (fun k9 x hx => hold x.1 ((hP k9 x hx).lt))
  have hP1 : va_P D cl ((X ++ va_pl L f) ++ [(H.size, .inl (cA, n.toNatClampNeg, .inr (.inr (.inr (.inr (fun i => if i < n.toNatClampNeg then some (H.size + 1 + i) else none))))))]) F.heap := hP0.app (fun k9 x hx => by
    have h0 : k9 < 1 := (List.getElem?_eq_some_iff.mp hx).1
    rw [show k9 = 0 by omega] at hx
    cases hx
    exact f2)
  have hP2 : va_P D cl (((X ++ va_pl L f) ++ [(H.size, .inl (cA, n.toNatClampNeg, .inr (.inr (.inr (.inr (fun i => if i < n.toNatClampNeg then some (H.size + 1 + i) else none))))))]) ++ ((List.range n.toNatClampNeg).map (fun i => H.size + 1 + i)).map (fun a => (a, .inl (cy, z)))) F.heap := hP1.app (fun k9 x hx => by
    obtain ⟨a, ha, rfl⟩ := List.mem_map.mp (List.mem_of_getElem? hx)
    obtain ⟨i, hi, rfl⟩ := List.mem_map.mp ha
    exact hrow i (List.mem_range.mp hi))
  have hD2 : va_D A (((X ++ va_pl L f) ++ [(H.size, .inl (cA, n.toNatClampNeg, .inr (.inr (.inr (.inr (fun i => if i < n.toNatClampNeg then some (H.size + 1 + i) else none))))))]) ++ ((List.range n.toNatClampNeg).map (fun i => H.size + 1 + i)).map (fun a => (a, .inl (cy, z)))) := by
    have hD1 := hD.push (e := .inl (cA, n.toNatClampNeg, .inr (.inr (.inr (.inr (fun i => if i < n.toNatClampNeg then some (H.size + 1 + i) else none)))))) hP rfl (hA _ hS.1)
    generalize hW1 : (X ++ va_pl L f) ++ [(H.size, .inl (cA, n.toNatClampNeg, .inr (.inr (.inr (.inr (fun i => if i < n.toNatClampNeg then some (H.size + 1 + i) else none))))))] = W1 at hD1 hP1 ⊢
    have hle : ∀ (k9 : Nat) (x : Nat × va_E), W1[k9]? = some x → x.1 ≤ H.size := fun k9 x hx => by
      rw [← hW1] at hx
      by_cases hl : k9 < (X ++ va_pl L f).length
      · rw [List.getElem?_append_left hl] at hx
        exact Nat.le_of_lt ((hP k9 x hx).lt)
      · rw [List.getElem?_append_right (by omega)] at hx
        have h0 : k9 - (X ++ va_pl L f).length < 1 := (List.getElem?_eq_some_iff.mp hx).1
        rw [show k9 - (X ++ va_pl L f).length = 0 by omega] at hx
        cases hx
        exact Nat.le_refl _
    have hr : ∀ (k9 : Nat) (x : Nat × va_E), (((List.range n.toNatClampNeg).map (fun i => H.size + 1 + i)).map (fun a => ((a, .inl (cy, z)) : Nat × va_E)))[k9]? = some x → x.1 = H.size + 1 + k9 := fun k9 x hx => by
      rw [List.getElem?_map, List.getElem?_map] at hx
      by_cases h9 : k9 < n.toNatClampNeg
      · rw [List.getElem?_range h9] at hx
        cases hx
        rfl
      · have hn0 : (List.range n.toNatClampNeg)[k9]? = none := List.getElem?_eq_none (by rw [List.length_range]; omega)
        rw [hn0] at hx
        cases hx
    refine ⟨fun i j x y hi hj hxy => ?_, fun k9 x hx => ?_⟩
    · by_cases h1 : i < W1.length <;> by_cases h2 : j < W1.length
      · rw [List.getElem?_append_left h1] at hi
        rw [List.getElem?_append_left h2] at hj
        exact hD1.1 i j x y hi hj hxy
      · rw [List.getElem?_append_left h1] at hi
        rw [List.getElem?_append_right (by omega)] at hj
        have := hle _ _ hi
        have := hr _ _ hj
        omega
      · rw [List.getElem?_append_right (by omega)] at hi
        rw [List.getElem?_append_left h2] at hj
        have := hle _ _ hj
        have := hr _ _ hi
        omega
      · rw [List.getElem?_append_right (by omega)] at hi hj
        have := hr _ _ hi
        have := hr _ _ hj
        omega
    · by_cases h1 : k9 < W1.length
      · rw [List.getElem?_append_left h1] at hx
        exact hD1.2 k9 x hx
      · rw [List.getElem?_append_right (by omega)] at hx
        have := hr _ _ hx
        exact hA _ (by have := hS.1; omega)
  have hAr : ArrOfT s cA (.array ty) := fun N9 z9 => by
    obtain ⟨-, k9, hk9, cm9, hkk9⟩ := (hO 0 0 0).1
    exact ⟨(fun q hq => by cases hq), k9, hk9, cm9, hkk9⟩
  have hK2 : va_K D cl (tys ++ [(cA, .array ty)]) s := ⟨hK.1, fun k9 x hx => by
    by_cases hl : k9 < tys.length
    · rw [List.getElem?_append_left hl] at hx
      exact hK.2 k9 x hx
    · rw [List.getElem?_append_right (by omega)] at hx
      have h0 : k9 - tys.length < 1 := (List.getElem?_eq_some_iff.mp hx).1
      rw [show k9 - tys.length = 0 by omega] at hx
      cases hx
      exact ⟨hAr, fA⟩⟩
  obtain ⟨t, a1, b1⟩ := kk H.size (fun i => H.size + 1 + i) cA F.heap (fun i j _ _ h => by have h9 : H.size + 1 + i = H.size + 1 + j := h; omega) hnl hK2 (by rw [← vr_rows hnm]; exact vr_lay hP2) (by rw [← vr_rows hnm]; exact vr_layD hD2) ⟨by rw [f1]; have := hS.1; omega, fun x h1 h2 => (hold x (Nat.lt_of_lt_of_le h1 hS.1)).trans (hS.2.1 x h1 h2), hS.2.2⟩ F rfl X'
  refine ⟨t, step t ?_, b1⟩
  have e : T.heap.size = H.size := by rw [hT]
  rw [e]
  exact a1
end VGM
/-! ===== END ===== -/
/-! ===== BEGIN exceptions that leave a method, and their catching by the caller (launches without stack traces) ===== -/
section VXA
/-! The laws vx_back, vx_callV, vx_callS, vx_callSW, vx_throw0, vx_throwS follow proofs of the library, with one case more: JvmDerived/Free/Laws.lean (Back.of_free), Shelf42/LK1.lean (callV, callS), Shelf/KitTraced.lean (throwNew0V, throwNewS). -/
/-- where a method has thrown q: the class by its name, the cell, what was written, the world -/
def vx_T (XC : String → State → State → Prop) (st : State) (q : Addr) (t : State) (mc ms : Nat) (free : Addr → Prop) : Prop :=
  ∃ (E : String) (ce : Cell) (L : List Loc), XC E st t ∧ t.heap[q]? = some ce ∧ ce.vm = .none ∧ st.vm.findClass E = some ce.cls ∧ st.WarmedH t.vm ∧ st.sameButNew ({ t with vm := st.vm } : State) L mc ms ∧ ∀ z ∈ L, free z.base
def vx_Q (Qc : Array Value → State → Outcome → State → Prop) (XC : String → State → State → Prop) (mc ms : Nat) (free : Addr → Prop) : Array Value → State → Outcome → State → Prop := fun a st o t =>
  (Qc a st o t ∧ ∃ L, FrameEnd st o t L mc ms ∧ ∀ q ∈ L, free q.base) ∨ ∃ q, o = .threw q ∧ vx_T XC st q t mc ms free
/-- a callee that returns or throws -/
def vx_Met (l : Launch) (y : MethodName) (ws : List Cond) (rm : Room) (Pc : Array Value → State → Prop) (Qc : Array Value → State → Outcome → State → Prop) (XC : String → State → State → Prop) (mc ms : Nat) (free : Addr → Prop) : Prop :=
  MetFree l y (headSpec ws rm) Pc (fun _ _ _ _ _ => True) (vx_Q Qc XC mc ms free)
def vx_Post (XC : String → State → State → Prop) (mc ms : Nat) (free : Addr → Prop) : Pt → Array Value → Addr → Pt → Prop := fun A a q B =>
  ∃ (g : JFrame) (mk : MethodId) (t : State) (L : List Loc) (E : String) (ce : Cell), B.U.heap = t.heap ∧ B.U.vm = t.vm ∧ XC E (A.U.calling g mk a) t ∧ t.heap[q]? = some ce ∧ ce.vm = .none ∧ A.U.vm.findClass E = some ce.cls ∧ B.locs = A.locs ++ L ∧ (∀ z ∈ L, free z.base) ∧ B.cells = A.cells + mc ∧ B.slots = A.slots + ms
def vx_Back (l : Launch) (R : Room) (p : Program) (e : Env) (below : List Frame) (s : State) (sargs : Array Value) (y : MethodName) (len W9 : Nat)
    (Pre : Pt → Array Value → Prop) (Post : Pt → Array Value → Option Value → Pt → Prop) (PostX : Pt → Array Value → Addr → Pt → Prop) : Prop :=
  ∀ (m : MethodId) (meth : Method) (c : Code) (A : Pt) (g : JFrame) (ig : Instr) (mk : MethodId) (a : Array Value),
    Stand p l e R s m sargs below meth c A.U A.locs A.cells A.slots → g.method = m → g.locals.size = c.maxLocals → decode c.code g.pc = .ok (ig, len) →
    2 * g.monitorRoom + (g.stack.map fun v => v.category).sum ≤ W9 → A.U.methodNamed? y = some mk → Pre A a →
    (∃ (v : Option Value) (B : Pt), Stand p l e R s m sargs below meth c B.U B.locs B.cells B.slots ∧ Post A a v B ∧
      Steps p.tables e below (doInvoke e (A.U.setTop g) [] mk a).1 (B.U.setTop { g with pc := g.pc + len, stack := v.toList ++ g.stack })) ∨
    (∃ (q : Addr) (B : Pt), Stand p l e R s m sargs below meth c B.U B.locs B.cells B.slots ∧ PostX A a q B ∧
      Steps p.tables e below (doInvoke e (A.U.setTop g) [] mk a).1 ((B.U.setTop g).pushFrame (.throwing q)))
section Payer
variable {l : Launch} {R : Room} {p : Program} {e : Env} {below : List Frame} {s : State} {sargs : Array Value} {y : MethodName} {len W9 : Nat}
theorem vx_back {ws : List Cond} {rm : Room} {Pc : Array Value → State → Prop} {Qc : Array Value → State → Outcome → State → Prop} {XC : String → State → State → Prop} {mc ms : Nat} {free : Addr → Prop} {bytes : ByteArray} {maxL : Nat} {ret : Option FieldType}
    (hM : vx_Met l y ws rm Pc Qc XC mc ms free) (hblind : FrameBlind Pc) (hrc : rm.cells = mc) (hrs : rm.slots = ms)
    (hframes : rm.frames + 1 ≤ R.frames) (hlocals : W9 + (maxL + 11) + rm.locals ≤ R.locals)
    (hws : ∀ w ∈ ws, ∀ a' U, s.WarmedH U.vm → w.before a' U = true) (hcode : Cond.code y bytes maxL ret ∈ ws) (hinit : ∀ a' U, s.WarmedH U.vm → (Cond.initialized y.cls).before a' U = true) :
    vx_Back l R p e below s sargs y len W9 (PreOf R mc ms Pc) (PostOf Qc mc ms free) (vx_Post XC mc ms free) := by
  intro m meth c A g ig mk a X hg hsize hdg hW hn hp
  have h1 : (headSpec ws rm).pre.before a A.U = true := atoms_intro fun w hw => hws w hw _ _ X.warmed
  have h2 : (Cond.code y bytes maxL ret).before a A.U = true := hws _ hcode _ _ X.warmed
  have h3 : (Cond.initialized y.cls).before a A.U = true := hinit _ _ X.warmed
  have h4 : A.cells + (headSpec ws rm).room.cells ≤ R.cells := by rw [show (headSpec ws rm).room.cells = mc from hrc]; exact hp.1
  have h5 : A.slots + (headSpec ws rm).room.slots ≤ R.slots := by rw [show (headSpec ws rm).room.slots = ms from hrs]; exact hp.2.1
  have hPc : Pc a (A.U.calling g mk a) := hblind _ _ _ _ hp.2.2
  obtain ⟨U, Ls, c0, s0⟩ := A
  dsimp only [Pt.U, Pt.locs, Pt.cells, Pt.slots] at h1 h2 h3 h4 h5 X hn hPc ⊢
  obtain ⟨methY, cY, hmY, hcY, -, hlY, -, -, -, -⟩ := Cond.code_spec hn h2
  obtain ⟨kY, hkY, -⟩ := className_of_methodNamed hn
  have hinitY : kY.init = .initialized := Cond.initialized_spec (findClass_of_methodNamed hn) hkY h3
  have h : At U g.method c below := by rw [hg]; exact X.here
  have hlocals9 : W9 + (maxL + 11) + (headSpec ws rm).room.locals ≤ R.locals := hlocals
  have happ : (headSpec ws rm).appliesLoose y e.platform (U.calling g mk a) = true :=
    Spec.appliesLoose_calling (g := g) h hdg hn hkY hinitY
      (X.room_calling (g := g) (R' := (headSpec ws rm).room) hsize hmY hcY hframes (by rw [hlY]; omega) h4 h5) h1
  obtain ⟨mid, hmid⟩ := h.above
  have hfr : (U.setTop g).frames = (.java g :: mid) ++ below := by rw [State.frames_setTop' g h.top, hmid]; rfl
  obtain ⟨o, s₂, hsteps, -, hend, hq⟩ := Steps.callFree hM p X.admits X.cas X.clock (acts := []) hfr happ hPc trivial
  have hq' : vx_Q Qc XC mc ms free a (U.calling g mk a) o s₂ := hq
  rw [State.frames_setTop' g h.top] at hend
  obtain ⟨g₀, hg0⟩ := Option.isSome_iff_exists.mp h.top
  obtain ⟨r, hr⟩ := State.topJava?_eq_some.mp hg0
  have hr' : (({ U with heap := s₂.heap, slotsUsed := s₂.slotsUsed } : State).setVm s₂.vm).frames = .java g₀ :: r := hr
  rcases hq' with ⟨hqc, L, hfe, hL⟩ | ⟨q, rfl, E, ce, L, hx, hce, hcv, hcl, hW₂, hsm, hL⟩
  · obtain ⟨⟨v, rfl⟩, hW₂, e2, q2, q3, q4, q5, q6⟩ := id hfe
    have e3 : s₂ = ({ (U.calling g mk a).setFrames s₂.frames with heap := s₂.heap, slotsUsed := s₂.slotsUsed } : State).setVm s₂.vm := by
      have : s₂ = ({ s₂ with vm := (U.calling g mk a).vm } : State).setVm s₂.vm := rfl
      rw [e2] at this
      exact this
    obtain ⟨c₂, i₂, len₂, hc₂, hd₂, hf₂⟩ := hend
    have hW' : U.WarmedH s₂.vm := hW₂
    have hcc : c₂ = c := by
      have h1 : s₂.code? g.method = U.code? g.method := by
        rw [State.code?_eq, State.code?_eq, hW'.alike.method?]
      exact Option.some.inj (hc₂.symm.trans (h1.trans h.code))
    subst hcc
    have hlen : len₂ = len := by rw [hdg] at hd₂; cases hd₂; rfl
    subst hlen
    have hs₂ : s₂ = (({ U with heap := s₂.heap, slotsUsed := s₂.slotsUsed } : State).setVm s₂.vm).setTop { g with pc := g.pc + len₂, stack := v.toList ++ g.stack } := by
      refine e3.trans ?_
      rw [hf₂, State.calling_eq h.top, State.setFrames_setFrames, State.setTop_of_frames _ hr', hr]
      rfl
    have hsame : U.sameButNew ({ U with heap := s₂.heap, slotsUsed := s₂.slotsUsed } : State) L mc ms := by
      refine ⟨?_, q2, q3, q4, q5, q6⟩
      obtain ⟨t, ht, -⟩ := State.frames_cons hr
      show ({ U with heap := s₂.heap, slotsUsed := s₂.slotsUsed } : State) = { U.setFrames U.frames with heap := s₂.heap, slotsUsed := s₂.slotsUsed }
      rw [State.setFrames_self ht]
    subst hg
    refine Or.inl ⟨v, ⟨(({ U with heap := s₂.heap, slotsUsed := s₂.slotsUsed } : State).setVm s₂.vm), Ls ++ L, c0 + mc, s0 + ms⟩,
      ⟨X.admits, X.cas, X.clock, X.frames, X.room, X.hears, X.method, X.code, (X.here.setHeapUsed s₂.heap s₂.slotsUsed).setVm hW'.alike, X.tail, State.WarmedH.trans X.warmed hW', X.limits, X.bytes, X.same.trans (hsame.setVm s.vm)⟩,
      ⟨g, mk, s₂, L, rfl, rfl, hqc, rfl, hL, rfl, rfl⟩, ?_⟩
    show Steps p.tables e below _ ((({ U with heap := s₂.heap, slotsUsed := s₂.slotsUsed } : State).setVm s₂.vm).setTop { g with pc := g.pc + len₂, stack := v.toList ++ g.stack })
    rw [← hs₂]
    exact hsteps
  · obtain ⟨e2, q2, q3, q4, q5, q6⟩ := id hsm
    have e3 : s₂ = ({ (U.calling g mk a).setFrames s₂.frames with heap := s₂.heap, slotsUsed := s₂.slotsUsed } : State).setVm s₂.vm := by
      have : s₂ = ({ s₂ with vm := (U.calling g mk a).vm } : State).setVm s₂.vm := rfl
      rw [e2] at this
      exact this
    have hf₂ : s₂.frames = .throwing q :: .java g :: U.frames.tail := hend
    have hW' : U.WarmedH s₂.vm := hW₂
    have hs₂ : s₂ = ((({ U with heap := s₂.heap, slotsUsed := s₂.slotsUsed } : State).setVm s₂.vm).setTop g).pushFrame (.throwing q) := by
      refine e3.trans ?_
      rw [hf₂, State.calling_eq h.top, State.setFrames_setFrames, State.pushFrame, State.frames_setTop _ hr', State.setTop_of_frames _ hr', State.setFrames_setFrames, hr]
      rfl
    have hsame : U.sameButNew ({ U with heap := s₂.heap, slotsUsed := s₂.slotsUsed } : State) L mc ms := by
      refine ⟨?_, q2, q3, q4, q5, q6⟩
      obtain ⟨t, ht, -⟩ := State.frames_cons hr
      show ({ U with heap := s₂.heap, slotsUsed := s₂.slotsUsed } : State) = { U.setFrames U.frames with heap := s₂.heap, slotsUsed := s₂.slotsUsed }
      rw [State.setFrames_self ht]
    subst hg
    refine Or.inr ⟨q, ⟨(({ U with heap := s₂.heap, slotsUsed := s₂.slotsUsed } : State).setVm s₂.vm), Ls ++ L, c0 + mc, s0 + ms⟩,
      ⟨X.admits, X.cas, X.clock, X.frames, X.room, X.hears, X.method, X.code, (X.here.setHeapUsed s₂.heap s₂.slotsUsed).setVm hW'.alike, X.tail, State.WarmedH.trans X.warmed hW', X.limits, X.bytes, X.same.trans (hsame.setVm s.vm)⟩,
      ⟨g, mk, s₂, L, E, ce, rfl, rfl, hx, hce, hcv, hcl, rfl, hL, rfl, rfl⟩, ?_⟩
    show Steps p.tables e below _ (((({ U with heap := s₂.heap, slotsUsed := s₂.slotsUsed } : State).setVm s₂.vm).setTop g).pushFrame (.throwing q))
    rw [← hs₂]
    exact hsteps
end Payer
section Calls
variable {p : Program} {l : Launch} {e : Env} {R : Room} {s : State} {m : MethodId} {args : Array Value} {below : List Frame} {meth : Method} {c : Code} {T : State} {locs : List Loc} {cells slots : Nat}
theorem vx_callV (X : Stand p l e R s m args below meth c T locs cells slots) (hexec : p.tables.exec = Jvm.exec) {own C : String} {index : Nat} {y : MethodName} {bytes : ByteArray} {maxL : Nat} {ret : Option FieldType}
    (hown : s.vm.findClass own = some m.cls) (hlink : (Cond.methodLink own index y).before args s = true) (hinst : (Cond.instanceMethod y).before args s = true) (hsel : (Cond.selects C y y).before args s = true)
    (hcode : (Cond.code y bytes maxL ret).before args s = true) (hy : y.cls ≠ "java/lang/invoke/MethodHandle" ∧ y.cls ≠ "java/lang/invoke/VarHandle")
    {W9 : Nat} {Pre : Pt → Array Value → Prop} {Post : Pt → Array Value → Option Value → Pt → Prop} {PostX : Pt → Array Value → Addr → Pt → Prop} (hK : vx_Back l R p e below s args y 3 W9 Pre Post PostX)
    {b : Addr} {cellB : Cell} (hcell : T.heap[b]? = some cellB) (hobj : cellB.vm.isStatics = false) (hcls : s.vm.findClass C = some cellB.cls)
    {g : JFrame} (hg : g.method = m) (hsize : g.locals.size = c.maxLocals) {argsL rest : List Value} (hlen : ∀ sig, parseMethodDescriptor y.desc = some sig → argsL.length = sig.parameters.length)
    (hstack : g.stack = argsL.reverse ++ .ref b :: rest) (hW : 2 * g.monitorRoom + (rest.map fun v => v.category).sum ≤ W9) (hdg : decode c.code g.pc = .ok (.invokevirtual index, 3))
    (hpre : ∀ vm₁, s.WarmedH vm₁ → Pre ⟨T.setVm vm₁, locs, cells, slots⟩ (Value.ref b :: argsL).toArray) :
    (∃ (v : Option Value) (vm₁ : Vm) (B : Pt), s.WarmedH vm₁ ∧ Stand p l e R s m args below meth c B.U B.locs B.cells B.slots ∧ Post ⟨T.setVm vm₁, locs, cells, slots⟩ (Value.ref b :: argsL).toArray v B ∧
      ∀ target, Steps p.tables e below (B.U.setTop { g with pc := g.pc + 3, stack := v.toList ++ rest }) target → Steps p.tables e below (T.setTop g) target) ∨
    (∃ (q : Addr) (vm₁ : Vm) (B : Pt), s.WarmedH vm₁ ∧ Stand p l e R s m args below meth c B.U B.locs B.cells B.slots ∧ PostX ⟨T.setVm vm₁, locs, cells, slots⟩ (Value.ref b :: argsL).toArray q B ∧
      Steps p.tables e below (T.setTop g) ((B.U.setTop { g with stack := rest }).pushFrame (.throwing q))) := by
  obtain ⟨mk, methM, hnamed, hmethM, hstM, habM⟩ := Cond.instanceMethod_spec hinst
  obtain ⟨methM', cM, hmethM', -, -, -, -, -, -, hsigM⟩ := Cond.code_spec hnamed hcode
  cases hmethM.symm.trans hmethM'
  obtain ⟨c2, r2, m2, q1, q2, q3, q4, kP, hkP, hkPi⟩ := Cond.selects_spec hsel
  cases hcls.symm.trans q1
  cases (State.methodFound?_of_named hnamed hy).symm.trans q2
  cases hnamed.symm.trans q3
  have hselP : selectMethod e.platform s.vm cellB.cls mk = .method mk := by rw [Launch.admits_selectMethod X.admits]; exact q4
  obtain ⟨vm₁, X₁, hstep₁⟩ := X.invokevirtual hexec hown hlink hnamed hmethM hstM hkP hkPi hy (a := b) (cell := cellB) hcell
    (fun z h => by rw [h] at hobj; cases hobj) hselP hmethM habM hkP hkPi (g := g) hg (argsL := argsL) (rest := rest) (hlen _ hsigM) hstack hdg
  rcases hK m meth c ⟨T.setVm vm₁, locs, cells, slots⟩ { g with stack := rest } (.invokevirtual index) mk (Value.ref b :: argsL).toArray X₁ hg hsize hdg hW (X₁.named hnamed) (hpre vm₁ X₁.warmed) with ⟨v, B, X', hpost, hsteps⟩ | ⟨q, B, X', hpost, hsteps⟩
  · exact Or.inl ⟨v, vm₁, B, X₁.warmed, X', hpost, fun target h => hstep₁ _ fun acts => by rw [doInvoke_state]; exact hsteps.trans h⟩
  · exact Or.inr ⟨q, vm₁, B, X₁.warmed, X', hpost, hstep₁ _ fun acts => by rw [doInvoke_state]; exact hsteps⟩
theorem vx_callS (X : Stand p l e R s m args below meth c T locs cells slots) (hexec : p.tables.exec = Jvm.exec) {own : String} {index : Nat} {y : MethodName} {bytes : ByteArray} {maxL : Nat} {ret : Option FieldType}
    (hown : s.vm.findClass own = some m.cls) (hlink : (Cond.methodLink own index y).before args s = true) (hstat : (Cond.static y).before args s = true) (hinit : (Cond.initialized y.cls).before args s = true)
    (hcode : (Cond.code y bytes maxL ret).before args s = true) (hy : y.cls ≠ "java/lang/invoke/MethodHandle" ∧ y.cls ≠ "java/lang/invoke/VarHandle")
    {W9 : Nat} {Pre : Pt → Array Value → Prop} {Post : Pt → Array Value → Option Value → Pt → Prop} {PostX : Pt → Array Value → Addr → Pt → Prop} (hK : vx_Back l R p e below s args y 3 W9 Pre Post PostX)
    {g : JFrame} (hg : g.method = m) (hsize : g.locals.size = c.maxLocals) {argsL rest : List Value} (hlen : ∀ sig, parseMethodDescriptor y.desc = some sig → argsL.length = sig.parameters.length)
    (hstack : g.stack = argsL.reverse ++ rest) (hW : 2 * g.monitorRoom + (rest.map fun v => v.category).sum ≤ W9) (hdg : decode c.code g.pc = .ok (.invokestatic index, 3))
    (hpre : ∀ vm₁, s.WarmedH vm₁ → Pre ⟨T.setVm vm₁, locs, cells, slots⟩ argsL.toArray) :
    (∃ (v : Option Value) (vm₁ : Vm) (B : Pt), s.WarmedH vm₁ ∧ Stand p l e R s m args below meth c B.U B.locs B.cells B.slots ∧ Post ⟨T.setVm vm₁, locs, cells, slots⟩ argsL.toArray v B ∧
      ∀ target, Steps p.tables e below (B.U.setTop { g with pc := g.pc + 3, stack := v.toList ++ rest }) target → Steps p.tables e below (T.setTop g) target) ∨
    (∃ (q : Addr) (vm₁ : Vm) (B : Pt), s.WarmedH vm₁ ∧ Stand p l e R s m args below meth c B.U B.locs B.cells B.slots ∧ PostX ⟨T.setVm vm₁, locs, cells, slots⟩ argsL.toArray q B ∧
      Steps p.tables e below (T.setTop g) ((B.U.setTop { g with stack := rest }).pushFrame (.throwing q))) := by
  obtain ⟨mk, hnamed⟩ := Cond.code_named hcode
  obtain ⟨methM, cM, hmethM, -, -, -, -, -, -, hsigM⟩ := Cond.code_spec hnamed hcode
  have hstatic : methM.isStatic = true := Cond.static_spec hnamed hmethM hstat
  obtain ⟨kP, hkP, -⟩ := className_of_methodNamed hnamed
  have hinitP : kP.init = .initialized := Cond.initialized_spec (findClass_of_methodNamed hnamed) hkP hinit
  obtain ⟨vm₁, X₁, hstep₁⟩ := X.invokestatic hexec hown hlink hnamed hmethM hstatic hkP hinitP hy (g := g) hg (argsL := argsL) (rest := rest) (hlen _ hsigM) hstack hdg
  rcases hK m meth c ⟨T.setVm vm₁, locs, cells, slots⟩ { g with stack := rest } (.invokestatic index) mk argsL.toArray X₁ hg hsize hdg hW (X₁.named hnamed) (hpre vm₁ X₁.warmed) with ⟨v, B, X', hpost, hsteps⟩ | ⟨q, B, X', hpost, hsteps⟩
  · exact Or.inl ⟨v, vm₁, B, X₁.warmed, X', hpost, fun target h => hstep₁ _ fun acts => by rw [doInvoke_state]; exact hsteps.trans h⟩
  · exact Or.inr ⟨q, vm₁, B, X₁.warmed, X', hpost, hstep₁ _ fun acts => by rw [doInvoke_state]; exact hsteps⟩
end Calls
theorem vx_cls {s : State} {T : State} {vm₁ : Vm} {E : String} {k : ClassId} (hW : s.WarmedH vm₁) (h : (T.setVm vm₁).vm.findClass E = some k) : s.vm.findClass E = some k := by
  have h1 : vm₁.findClass E = some k := h
  rw [hW.alike.findClass] at h1
  exact h1
/-- the method's frame g, with q thrown over it -/
def vx_W (p : Program) (l : Launch) (e : Env) (R : Room) (s : State) (m : MethodId) (args : Array Value) (below : List Frame) (meth : Method) (c : Code) (H : Heap) (locs : List Loc) (cells slots : Nat) (Q : State → Prop) (g : JFrame) (q : Addr) : Prop :=
  ∀ T : State, T.heap = H → Stand p l e R s m args below meth c T locs cells slots → ∃ t, Steps p.tables e below ((T.setTop g).pushFrame (.throwing q)) t ∧ Q t
def vx_Run (p : Program) (l : Launch) (e : Env) (R : Room) (s : State) (m : MethodId) (args : Array Value) (below : List Frame) (meth : Method) (c : Code) (H : Heap) (locs : List Loc) (cells slots mc ms : Nat) (g : JFrame) (rest : List Value) (Qa : State → Outcome → State → Prop) (XC : String → State → State → Prop) (free : Addr → Prop) : Prop :=
  ∀ T : State, T.heap = H → Stand p l e R s m args below meth c T locs cells slots →
    (∃ (v : Option Value) (st₀ t T' : State) (L : List Loc), st₀.heap = H ∧ Stand p l e R s m args below meth c T' (locs ++ L) (cells + mc) (slots + ms) ∧ (∀ q ∈ L, free q.base) ∧ T'.heap = t.heap ∧ T'.vm = t.vm ∧ Qa st₀ (.returned v) t ∧
      Goes p e below T g T' { g with pc := g.pc + 3, stack := v.toList ++ rest }) ∨
    (∃ (q : Addr) (st₀ t T' : State) (L : List Loc) (E : String) (ce : Cell), st₀.heap = H ∧ Stand p l e R s m args below meth c T' (locs ++ L) (cells + mc) (slots + ms) ∧ (∀ z ∈ L, free z.base) ∧ T'.heap = t.heap ∧ T'.vm = t.vm ∧ XC E st₀ t ∧ t.heap[q]? = some ce ∧ ce.vm = .none ∧ s.vm.findClass E = some ce.cls ∧
      Steps p.tables e below (T.setTop g) ((T'.setTop { g with stack := rest }).pushFrame (.throwing q)))
def vx_X {S : Type} (px : S → Prop) (B : String → S → State → Prop) (A : Nat → Prop) : String → State → State → Prop := fun E st t => ∃ u : S, px u ∧ B E u t ∧ va_F A st t
section Runs
variable {p : Program} {l : Launch} {e : Env} {R : Room} {s : State} {m : MethodId} {args : Array Value} {below : List Frame} {meth : Method} {c : Code} {H : Heap} {locs : List Loc} {cells slots : Nat}
variable {y : MethodName} {bytes cc : ByteArray} {maxL nL mc ms n index : Nat} {ret : Option FieldType} {ws : List Cond} {rm : Room} {Pc : Array Value → State → Prop} {Qc : Array Value → State → Outcome → State → Prop} {XC : String → State → State → Prop} {free : Addr → Prop} {Ts : List Cond} {own C : String} {b : Addr} {As rest : List Value} {g : JFrame}
theorem vx_callBack (cb : CallB R s args own index y bytes maxL ret ws rm mc ms n) (hM : vx_Met l y ws rm Pc Qc XC mc ms free) (hbl : FrameBlind Pc) : vx_Back l R p e below s args y 3 8 (PreOf R mc ms Pc) (PostOf Qc mc ms free) (vx_Post XC mc ms free) := by
  obtain ⟨hrc, hrs, hfr, hlo, hws, hcw, -, hini, -⟩ := cb
  exact vx_back (bytes := bytes) (maxL := maxL) (ret := ret) hM hbl hrc hrs hfr hlo hws hcw (fun a' U hW => word_at hW (Or.inl (by first | rfl | simp [Cond.onTables, Cond.keeps, Cond.steady])) hini)
theorem vx_runV (S : CallFix p m c cc nL s args Ts own) (hM : vx_Met l y ws rm Pc Qc XC mc ms free) (cw : CallW R s args own C index y bytes maxL ret ws rm mc ms n) (hp : PreV s H C b Pc As)
    (hg : g.method = m) (hn : As.length = n) (hsize : g.locals.size = nL) (hstack : g.stack = As.reverse ++ .ref b :: rest) (hW : 2 * g.monitorRoom + (rest.map fun v => v.category).sum ≤ 8) (hdg : decode cc g.pc = .ok (.invokevirtual index, 3)) (hf : cells + mc ≤ R.cells ∧ slots + ms ≤ R.slots) :
    vx_Run p l e R s m args below meth c H locs cells slots mc ms g rest (Qc (Value.ref b :: As).toArray) XC free := by
  have hK : vx_Back l R p e below s args y 3 8 (PreOf R mc ms Pc) (PostOf Qc mc ms free) (vx_Post XC mc ms free) := vx_callBack cw.1 hM hp.1
  obtain ⟨⟨-, -, -, -, -, -, hcode, -, hy, hlen, hl⟩, hin, hse⟩ := cw
  obtain ⟨hx, hb, hml, ho, -⟩ := S
  obtain ⟨-, ⟨cellB, hcB, hoB, hclB⟩, hPc⟩ := hp
  intro T hT X
  rcases vx_callV X hx (C := C) (bytes := bytes) (maxL := maxL) (ret := ret) ho hl hin hse hcode hy hK (by rw [hT]; exact hcB) hoB hclB hg (hsize.trans hml.symm) (argsL := As) (rest := rest) (fun sig h => hn.trans (hlen sig h)) hstack hW (by rw [hb]; exact hdg)
    (fun vm₁ hW₁ => ⟨hf.1, hf.2, hPc (T.setVm vm₁) hT hW₁⟩) with ⟨v, vm₁, ⟨U', l2, c2, s2⟩, hW₁, X', ⟨g', mk, t, L, e1, e2, hq, h1, hL, h2, h3⟩, st⟩ | ⟨q, vm₁, ⟨U', l2, c2, s2⟩, hW₁, X', ⟨g', mk, t, L, E, ce, e1, e2, hq, hce, hcv, hcl, h1, hL, h2, h3⟩, st⟩
  · dsimp only [Pt.U, Pt.locs, Pt.cells, Pt.slots] at X' e1 e2 h1 h2 h3 st
    subst h1; subst h2; subst h3
    exact Or.inl ⟨v, (T.setVm vm₁).calling g' mk (Value.ref b :: As).toArray, t, U', L, hT, X', hL, e1, e2, hq, st⟩
  · dsimp only [Pt.U, Pt.locs, Pt.cells, Pt.slots] at X' e1 e2 h1 h2 h3 st hcl
    subst h1; subst h2; subst h3
    exact Or.inr ⟨q, (T.setVm vm₁).calling g' mk (Value.ref b :: As).toArray, t, U', L, E, ce, hT, X', hL, e1, e2, hq, hce, hcv, vx_cls hW₁ hcl, st⟩
theorem vx_runS (S : CallFix p m c cc nL s args Ts own) (hM : vx_Met l y ws rm Pc Qc XC mc ms free) (cw : CallB R s args own index y bytes maxL ret ws rm mc ms n ∧ (Cond.static y).before args s = true) (hp : PreS s H Pc As)
    (hg : g.method = m) (hn : As.length = n) (hsize : g.locals.size = nL) (hstack : g.stack = As.reverse ++ rest) (hW : 2 * g.monitorRoom + (rest.map fun v => v.category).sum ≤ 8) (hdg : decode cc g.pc = .ok (.invokestatic index, 3)) (hf : cells + mc ≤ R.cells ∧ slots + ms ≤ R.slots) :
    vx_Run p l e R s m args below meth c H locs cells slots mc ms g rest (Qc As.toArray) XC free := by
  have hK : vx_Back l R p e below s args y 3 8 (PreOf R mc ms Pc) (PostOf Qc mc ms free) (vx_Post XC mc ms free) := vx_callBack cw.1 hM hp.1
  obtain ⟨⟨-, -, -, -, -, -, hcode, hini, hy, hlen, hl⟩, hstt⟩ := cw
  obtain ⟨hx, hb, hml, ho, -⟩ := S
  intro T hT X
  rcases vx_callS X hx (bytes := bytes) (maxL := maxL) (ret := ret) ho hl hstt hini hcode hy hK hg (hsize.trans hml.symm) (argsL := As) (rest := rest) (fun sig h => hn.trans (hlen sig h)) hstack hW (by rw [hb]; exact hdg)
    (fun vm₁ hW₁ => ⟨hf.1, hf.2, hp.2 (T.setVm vm₁) hT hW₁⟩) with ⟨v, vm₁, ⟨U', l2, c2, s2⟩, hW₁, X', ⟨g', mk, t, L, e1, e2, hq, h1, hL, h2, h3⟩, st⟩ | ⟨q, vm₁, ⟨U', l2, c2, s2⟩, hW₁, X', ⟨g', mk, t, L, E, ce, e1, e2, hq, hce, hcv, hcl, h1, hL, h2, h3⟩, st⟩
  · dsimp only [Pt.U, Pt.locs, Pt.cells, Pt.slots] at X' e1 e2 h1 h2 h3 st
    subst h1; subst h2; subst h3
    exact Or.inl ⟨v, (T.setVm vm₁).calling g' mk As.toArray, t, U', L, hT, X', hL, e1, e2, hq, st⟩
  · dsimp only [Pt.U, Pt.locs, Pt.cells, Pt.slots] at X' e1 e2 h1 h2 h3 st hcl
    subst h1; subst h2; subst h3
    exact Or.inr ⟨q, (T.setVm vm₁).calling g' mk As.toArray, t, U', L, E, ce, hT, X', hL, e1, e2, hq, hce, hcv, vx_cls hW₁ hcl, st⟩
end Runs
section Rows
variable {p : Program} {l : Launch} {e : Env} {R : Room} {s : State} {m : MethodId} {args : Array Value} {below : List Frame} {meth : Method} {c : Code} {H : Heap} {locs : List Loc} {cells slots : Nat} {Q : State → Prop}
variable {mc ms : Nat} {free : Addr → Prop} {A0 A1 : Nat → Prop} {H0 : Heap} {a : Array Value} {pc : Nat} {ls : Array Slot} {st0 rest : List Value}
theorem vx_keep {st₀ t T' : State} {L : List Loc} (h0 : st₀.heap = H) (e1 : T'.heap = t.heap) (hS : va_S A0 H0 H locs) (hA : ∀ q, q < H.size → A1 q → A0 q) (hf : ∀ q, free q → A0 q) (hL : ∀ q ∈ L, free q.base) (hF : va_F A1 st₀ t) :
    H.size ≤ T'.heap.size ∧ (∀ q : Nat, q < H.size → ¬ A1 q → T'.heap[q]? = H[q]?) ∧ va_S A0 H0 T'.heap (locs ++ L) := by
  obtain ⟨hz, hk⟩ := hF
  rw [h0] at hz hk
  exact ⟨by rw [e1]; exact hz, fun q h1 h2 => by rw [e1]; exact hk q h1 h2,
    ⟨Nat.le_trans hS.1 (by rw [e1]; exact hz), fun q h1 h2 => by rw [e1, hk q (Nat.lt_of_lt_of_le h1 hS.1) (fun z => h2 (hA q (Nat.lt_of_lt_of_le h1 hS.1) z))]; exact hS.2.1 q h1 h2, fun q hq => by
      rcases List.mem_append.mp hq with h | h
      · exact hS.2.2 q h
      · exact hf _ (hL q h)⟩⟩
theorem vx_calli {S SX : Type} {post : Int32 → S → Prop} {px : SX → Prop} {B : S → State → Prop} {BX : String → SX → State → Prop} {AX : Nat → Prop} (hr : vx_Run p l e R s m args below meth c H locs cells slots mc ms (F0 m pc ls st0) rest (va_Qi post B A1 a) (vx_X px BX AX) free) (hS : va_S A0 H0 H locs) (hA : ∀ q, q < H.size → A1 q → A0 q) (hf : ∀ q, free q → A0 q) (hAX : ∀ q, q < H.size → AX q → A0 q)
    (kx : ∀ (E : String) (ce : Cell) (q9 : Addr) (u : SX) (t : State) (H1 : Heap) (locs1 : List Loc), t.heap = H1 → s.vm.Alike t.vm → px u → BX E u t → H.size ≤ H1.size → (∀ q : Nat, q < H.size → ¬ AX q → H1[q]? = H[q]?) → va_S A0 H0 H1 locs1 → H1[q9]? = some ce → ce.vm = .none → s.vm.findClass E = some ce.cls → vx_W p l e R s m args below meth c H1 locs1 (cells + mc) (slots + ms) Q (F0 m pc ls rest) q9)
    (kk : ∀ (r : Int32) (u : S) (t : State) (H1 : Heap) (locs1 : List Loc), t.heap = H1 → s.vm.Alike t.vm → post r u → B u t → H.size ≤ H1.size → (∀ q : Nat, q < H.size → ¬ A1 q → H1[q]? = H[q]?) → va_S A0 H0 H1 locs1 → W p l e R s m args below meth c H1 locs1 (cells + mc) (slots + ms) Q (F0 m (pc + 3) ls (.int r :: rest))) : W p l e R s m args below meth c H locs cells slots Q (F0 m pc ls st0) := by
  intro T hT X
  rcases hr T hT X with ⟨v, st₀, t, T', L, h0, X', hL, e1, e2, ⟨⟨r, u, hv, hp, hb⟩, hF⟩, st⟩ | ⟨q, st₀, t, T', L, E, ce, h0, X', hL, e1, e2, ⟨u, hp, hb, hF⟩, hce, hcv, hcl, st⟩
  · cases hv
    obtain ⟨k1, k2, k3⟩ := vx_keep h0 e1 hS hA hf hL hF
    obtain ⟨t2, a1, b1⟩ := kk r u t T'.heap (locs ++ L) e1.symm (by rw [← e2]; exact X'.warmed.alike) hp hb k1 k2 k3 T' rfl X'
    exact ⟨t2, st t2 a1, b1⟩
  · obtain ⟨k1, k2, k3⟩ := vx_keep h0 e1 hS hAX hf hL hF
    obtain ⟨t2, a1, b1⟩ := kx E ce q u t T'.heap (locs ++ L) e1.symm (by rw [← e2]; exact X'.warmed.alike) hp hb k1 k2 k3 (by rw [e1]; exact hce) hcv hcl T' rfl X'
    exact ⟨t2, st.trans a1, b1⟩
theorem vx_calll {S SX : Type} {post : Int64 → S → Prop} {px : SX → Prop} {B : S → State → Prop} {BX : String → SX → State → Prop} {AX : Nat → Prop} (hr : vx_Run p l e R s m args below meth c H locs cells slots mc ms (F0 m pc ls st0) rest (va_Ql post B A1 a) (vx_X px BX AX) free) (hS : va_S A0 H0 H locs) (hA : ∀ q, q < H.size → A1 q → A0 q) (hf : ∀ q, free q → A0 q) (hAX : ∀ q, q < H.size → AX q → A0 q)
    (kx : ∀ (E : String) (ce : Cell) (q9 : Addr) (u : SX) (t : State) (H1 : Heap) (locs1 : List Loc), t.heap = H1 → s.vm.Alike t.vm → px u → BX E u t → H.size ≤ H1.size → (∀ q : Nat, q < H.size → ¬ AX q → H1[q]? = H[q]?) → va_S A0 H0 H1 locs1 → H1[q9]? = some ce → ce.vm = .none → s.vm.findClass E = some ce.cls → vx_W p l e R s m args below meth c H1 locs1 (cells + mc) (slots + ms) Q (F0 m pc ls rest) q9)
    (kk : ∀ (r : Int64) (u : S) (t : State) (H1 : Heap) (locs1 : List Loc), t.heap = H1 → s.vm.Alike t.vm → post r u → B u t → H.size ≤ H1.size → (∀ q : Nat, q < H.size → ¬ A1 q → H1[q]? = H[q]?) → va_S A0 H0 H1 locs1 → W p l e R s m args below meth c H1 locs1 (cells + mc) (slots + ms) Q (F0 m (pc + 3) ls (.long r :: rest))) : W p l e R s m args below meth c H locs cells slots Q (F0 m pc ls st0) := by
  intro T hT X
  rcases hr T hT X with ⟨v, st₀, t, T', L, h0, X', hL, e1, e2, ⟨⟨r, u, hv, hp, hb⟩, hF⟩, st⟩ | ⟨q, st₀, t, T', L, E, ce, h0, X', hL, e1, e2, ⟨u, hp, hb, hF⟩, hce, hcv, hcl, st⟩
  · cases hv
    obtain ⟨k1, k2, k3⟩ := vx_keep h0 e1 hS hA hf hL hF
    obtain ⟨t2, a1, b1⟩ := kk r u t T'.heap (locs ++ L) e1.symm (by rw [← e2]; exact X'.warmed.alike) hp hb k1 k2 k3 T' rfl X'
    exact ⟨t2, st t2 a1, b1⟩
  · obtain ⟨k1, k2, k3⟩ := vx_keep h0 e1 hS hAX hf hL hF
    obtain ⟨t2, a1, b1⟩ := kx E ce q u t T'.heap (locs ++ L) e1.symm (by rw [← e2]; exact X'.warmed.alike) hp hb k1 k2 k3 (by rw [e1]; exact hce) hcv hcl T' rfl X'
    exact ⟨t2, st.trans a1, b1⟩
theorem vx_callf {S SX : Type} {post : UInt32 → S → Prop} {px : SX → Prop} {B : S → State → Prop} {BX : String → SX → State → Prop} {AX : Nat → Prop} (hr : vx_Run p l e R s m args below meth c H locs cells slots mc ms (F0 m pc ls st0) rest (va_Qf post B A1 a) (vx_X px BX AX) free) (hS : va_S A0 H0 H locs) (hA : ∀ q, q < H.size → A1 q → A0 q) (hf : ∀ q, free q → A0 q) (hAX : ∀ q, q < H.size → AX q → A0 q)
    (kx : ∀ (E : String) (ce : Cell) (q9 : Addr) (u : SX) (t : State) (H1 : Heap) (locs1 : List Loc), t.heap = H1 → s.vm.Alike t.vm → px u → BX E u t → H.size ≤ H1.size → (∀ q : Nat, q < H.size → ¬ AX q → H1[q]? = H[q]?) → va_S A0 H0 H1 locs1 → H1[q9]? = some ce → ce.vm = .none → s.vm.findClass E = some ce.cls → vx_W p l e R s m args below meth c H1 locs1 (cells + mc) (slots + ms) Q (F0 m pc ls rest) q9)
    (kk : ∀ (r : UInt32) (u : S) (t : State) (H1 : Heap) (locs1 : List Loc), t.heap = H1 → s.vm.Alike t.vm → post r u → B u t → H.size ≤ H1.size → (∀ q : Nat, q < H.size → ¬ A1 q → H1[q]? = H[q]?) → va_S A0 H0 H1 locs1 → W p l e R s m args below meth c H1 locs1 (cells + mc) (slots + ms) Q (F0 m (pc + 3) ls (.float r :: rest))) : W p l e R s m args below meth c H locs cells slots Q (F0 m pc ls st0) := by
  intro T hT X
  rcases hr T hT X with ⟨v, st₀, t, T', L, h0, X', hL, e1, e2, ⟨⟨r, u, hv, hp, hb⟩, hF⟩, st⟩ | ⟨q, st₀, t, T', L, E, ce, h0, X', hL, e1, e2, ⟨u, hp, hb, hF⟩, hce, hcv, hcl, st⟩
  · cases hv
    obtain ⟨k1, k2, k3⟩ := vx_keep h0 e1 hS hA hf hL hF
    obtain ⟨t2, a1, b1⟩ := kk r u t T'.heap (locs ++ L) e1.symm (by rw [← e2]; exact X'.warmed.alike) hp hb k1 k2 k3 T' rfl X'
    exact ⟨t2, st t2 a1, b1⟩
  · obtain ⟨k1, k2, k3⟩ := vx_keep h0 e1 hS hAX hf hL hF
    obtain ⟨t2, a1, b1⟩ := kx E ce q u t T'.heap (locs ++ L) e1.symm (by rw [← e2]; exact X'.warmed.alike) hp hb k1 k2 k3 (by rw [e1]; exact hce) hcv hcl T' rfl X'
    exact ⟨t2, st.trans a1, b1⟩
theorem vx_calld {S SX : Type} {post : UInt64 → S → Prop} {px : SX → Prop} {B : S → State → Prop} {BX : String → SX → State → Prop} {AX : Nat → Prop} (hr : vx_Run p l e R s m args below meth c H locs cells slots mc ms (F0 m pc ls st0) rest (va_Qd post B A1 a) (vx_X px BX AX) free) (hS : va_S A0 H0 H locs) (hA : ∀ q, q < H.size → A1 q → A0 q) (hf : ∀ q, free q → A0 q) (hAX : ∀ q, q < H.size → AX q → A0 q)
    (kx : ∀ (E : String) (ce : Cell) (q9 : Addr) (u : SX) (t : State) (H1 : Heap) (locs1 : List Loc), t.heap = H1 → s.vm.Alike t.vm → px u → BX E u t → H.size ≤ H1.size → (∀ q : Nat, q < H.size → ¬ AX q → H1[q]? = H[q]?) → va_S A0 H0 H1 locs1 → H1[q9]? = some ce → ce.vm = .none → s.vm.findClass E = some ce.cls → vx_W p l e R s m args below meth c H1 locs1 (cells + mc) (slots + ms) Q (F0 m pc ls rest) q9)
    (kk : ∀ (r : UInt64) (u : S) (t : State) (H1 : Heap) (locs1 : List Loc), t.heap = H1 → s.vm.Alike t.vm → post r u → B u t → H.size ≤ H1.size → (∀ q : Nat, q < H.size → ¬ A1 q → H1[q]? = H[q]?) → va_S A0 H0 H1 locs1 → W p l e R s m args below meth c H1 locs1 (cells + mc) (slots + ms) Q (F0 m (pc + 3) ls (.double r :: rest))) : W p l e R s m args below meth c H locs cells slots Q (F0 m pc ls st0) := by
  intro T hT X
  rcases hr T hT X with ⟨v, st₀, t, T', L, h0, X', hL, e1, e2, ⟨⟨r, u, hv, hp, hb⟩, hF⟩, st⟩ | ⟨q, st₀, t, T', L, E, ce, h0, X', hL, e1, e2, ⟨u, hp, hb, hF⟩, hce, hcv, hcl, st⟩
  · cases hv
    obtain ⟨k1, k2, k3⟩ := vx_keep h0 e1 hS hA hf hL hF
    obtain ⟨t2, a1, b1⟩ := kk r u t T'.heap (locs ++ L) e1.symm (by rw [← e2]; exact X'.warmed.alike) hp hb k1 k2 k3 T' rfl X'
    exact ⟨t2, st t2 a1, b1⟩
  · obtain ⟨k1, k2, k3⟩ := vx_keep h0 e1 hS hAX hf hL hF
    obtain ⟨t2, a1, b1⟩ := kx E ce q u t T'.heap (locs ++ L) e1.symm (by rw [← e2]; exact X'.warmed.alike) hp hb k1 k2 k3 (by rw [e1]; exact hce) hcv hcl T' rfl X'
    exact ⟨t2, st.trans a1, b1⟩
theorem vx_callv {S SX : Type} {post : S → Prop} {px : SX → Prop} {B : S → State → Prop} {BX : String → SX → State → Prop} {AX : Nat → Prop} (hr : vx_Run p l e R s m args below meth c H locs cells slots mc ms (F0 m pc ls st0) rest (va_Qv post B A1 a) (vx_X px BX AX) free) (hS : va_S A0 H0 H locs) (hA : ∀ q, q < H.size → A1 q → A0 q) (hf : ∀ q, free q → A0 q) (hAX : ∀ q, q < H.size → AX q → A0 q)
    (kx : ∀ (E : String) (ce : Cell) (q9 : Addr) (u : SX) (t : State) (H1 : Heap) (locs1 : List Loc), t.heap = H1 → s.vm.Alike t.vm → px u → BX E u t → H.size ≤ H1.size → (∀ q : Nat, q < H.size → ¬ AX q → H1[q]? = H[q]?) → va_S A0 H0 H1 locs1 → H1[q9]? = some ce → ce.vm = .none → s.vm.findClass E = some ce.cls → vx_W p l e R s m args below meth c H1 locs1 (cells + mc) (slots + ms) Q (F0 m pc ls rest) q9)
    (kk : ∀ (u : S) (t : State) (H1 : Heap) (locs1 : List Loc), t.heap = H1 → s.vm.Alike t.vm → post u → B u t → H.size ≤ H1.size → (∀ q : Nat, q < H.size → ¬ A1 q → H1[q]? = H[q]?) → va_S A0 H0 H1 locs1 → W p l e R s m args below meth c H1 locs1 (cells + mc) (slots + ms) Q (F0 m (pc + 3) ls (rest))) : W p l e R s m args below meth c H locs cells slots Q (F0 m pc ls st0) := by
  intro T hT X
  rcases hr T hT X with ⟨v, st₀, t, T', L, h0, X', hL, e1, e2, ⟨⟨u, hv, hp, hb⟩, hF⟩, st⟩ | ⟨q, st₀, t, T', L, E, ce, h0, X', hL, e1, e2, ⟨u, hp, hb, hF⟩, hce, hcv, hcl, st⟩
  · cases hv
    obtain ⟨k1, k2, k3⟩ := vx_keep h0 e1 hS hA hf hL hF
    obtain ⟨t2, a1, b1⟩ := kk u t T'.heap (locs ++ L) e1.symm (by rw [← e2]; exact X'.warmed.alike) hp hb k1 k2 k3 T' rfl X'
    exact ⟨t2, st t2 a1, b1⟩
  · obtain ⟨k1, k2, k3⟩ := vx_keep h0 e1 hS hAX hf hL hF
    obtain ⟨t2, a1, b1⟩ := kx E ce q u t T'.heap (locs ++ L) e1.symm (by rw [← e2]; exact X'.warmed.alike) hp hb k1 k2 k3 (by rw [e1]; exact hce) hcv hcl T' rfl X'
    exact ⟨t2, st.trans a1, b1⟩
/-- caught by the row x of this method's table; the rows ahead don't take it -/
theorem vx_catch {own name : String} {E : String} {ce : Cell} {q : Addr} (hown : s.vm.findClass own = some m.cls) (pre : List ExceptionTableEntry) (x : ExceptionTableEntry) (suf : List ExceptionTableEntry) (hsplit : c.exceptionTable.toList = pre ++ x :: suf)
    (hpass : ∀ z ∈ pre, covers z pc = false ∨ (z.catchType ≠ 0 ∧ ∃ nm : String, (Cond.classLink own z.catchType nm).before args s = true ∧ va_Nc E nm s)) (hx : covers x pc = true) (h0 : x.catchType ≠ 0)
    (hlink : (Cond.classLink own x.catchType name).before args s = true) (hcast : (Cond.castable E name).before args s = true) (hcell : H[q]? = some ce) (hv : ce.vm = .none) (hcl : s.vm.findClass E = some ce.cls)
    (kk : W p l e R s m args below meth c H locs cells slots Q (F0 m x.handlerPc ls [.ref q])) : vx_W p l e R s m args below meth c H locs cells slots Q (F0 m pc ls rest) q := by
  intro T hT X
  have hpl : e.platform.magicAccessors = ({} : Platform).magicAccessors := by rw [X.admits.platform]
  obtain ⟨c3, c4, hc3, hc4, hasg⟩ := Cond.castable_spec hcast
  cases Option.some.inj (hc3.symm.trans hcl)
  obtain ⟨c5, hc5, hcl5⟩ := Cond.classLink_spec hown hlink e.platform hpl
  cases Option.some.inj (hc4.symm.trans hc5)
  obtain ⟨vm', X', st⟩ := X.thenCaughtThrough q (g := F0 m pc ls rest) rfl (Steps.refl _) (by rw [hT]; exact hcell) (by rw [hv]; rfl) (by obtain ⟨k9, h9, -⟩ := Vm.findClass_spec hcl; exact ⟨k9, h9⟩) pre x suf hsplit
    (fun z hz => by
      rcases hpass z hz with h | ⟨hz0, nm, hl1, hn1⟩
      · exact Or.inl h
      · obtain ⟨c6, hc6, hcl6⟩ := Cond.classLink_spec hown hl1 e.platform hpl
        obtain ⟨a8, b8, h1, h2, h3⟩ := hn1
        cases Option.some.inj (h1.symm.trans hcl)
        cases Option.some.inj (h2.symm.trans hc6)
        exact Or.inr ⟨hz0, _, hcl6, h3⟩) hx (Or.inr ⟨h0, c4, hcl5, hasg⟩)
  obtain ⟨t, a1, b1⟩ := kk (T.setVm vm') hT X'
  exact ⟨t, st.trans a1, b1⟩
end Rows
section Ends
variable {p : Program} {l : Launch} {e : Env} {R : Room} {s : State} {m : MethodId} {args : Array Value} {below : List Frame} {meth : Method} {c : Code} {H : Heap} {locs : List Loc} {cells slots : Nat} {Q : State → Prop}
variable {mc ms : Nat} {free : Addr → Prop} {A0 A1 : Nat → Prop} {H0 : Heap} {a : Array Value} {ls : Array Slot} {st0 rest : List Value}
variable {Qc : Array Value → State → Outcome → State → Prop} {XC : String → State → State → Prop}
/-- what a body that may throw owes at its end -/
def vx_MQ (below : List Frame) (Qc : Array Value → State → Outcome → State → Prop) (XC : String → State → State → Prop) (a : Array Value) (s : State) (mc ms : Nat) (free : Addr → Prop) : State → Prop := fun t =>
  ∃ o, t.status = .running ∧ Ended t below o ∧ vx_Q Qc XC mc ms free a s o t
theorem vx_ret {g : JFrame} {mc ms : Nat} (k : W p l e R s m args below meth c H locs cells slots (MQ below Qc args s mc ms free) g) : W p l e R s m args below meth c H locs cells slots (vx_MQ below Qc XC args s mc ms free) g := by
  intro T hT X
  obtain ⟨t, a1, o, b1, b2, b3, b4⟩ := k T hT X
  exact ⟨t, a1, o, b1, b2, Or.inl ⟨b3, b4⟩⟩
/-- not caught here: it goes on to the caller -/
theorem vx_widen {g : JFrame} {q : Addr} {k n : Nat} (h1 : cells ≤ k) (h2 : slots ≤ n) (kk : vx_W p l e R s m args below meth c H locs k n Q g q) : vx_W p l e R s m args below meth c H locs cells slots Q g q := fun T hT X => kk T hT (stand_widen X h1 h2)
theorem vx_out {pc : Nat} {E : String} {ce : Cell} {q : Addr} {mc ms : Nat} (hout : ∀ x ∈ c.exceptionTable.toList, covers x pc = false) (hlocks : meth.locks = false) (hcell : H[q]? = some ce) (hv : ce.vm = .none) (hcl : s.vm.findClass E = some ce.cls)
    (hx : ∀ t : State, t.heap = H → s.vm.Alike t.vm → XC E s t) (hf : ∀ z ∈ locs, free z.base) (hc : cells ≤ mc) (hs : slots ≤ ms) :
    vx_W p l e R s m args below meth c H locs cells slots (vx_MQ below Qc XC args s mc ms free) (F0 m pc ls rest) q := by
  intro T hT X
  obtain ⟨st1, hrun, hend, hW, hsm⟩ := X.leaveThrown q (g := F0 m pc ls rest) rfl rfl rfl hout hlocks
  have hcell9 : (T.setFrames (.throwing q :: below)).heap[q]? = some ce := by
    show T.heap[q]? = some ce
    rw [hT]; exact hcell
  exact ⟨_, st1, .threw q, hrun, hend, Or.inr ⟨q, rfl, E, ce, locs, hx _ hT hW.alike, hcell9, hv, hcl, hW, hsm.mono hc hs, hf⟩⟩
theorem vx_frame {U : State} {k n : Nat} (h : s.sameButNew ({ U with vm := s.vm } : State) locs k n) : s.heap.size ≤ U.heap.size ∧ ∀ q : Nat, q < s.heap.size → (∀ z ∈ locs, z.base ≠ q) → U.heap[q]? = s.heap[q]? := by
  obtain ⟨-, h2, -, -, -, h6⟩ := h
  refine ⟨h2, fun q hq hz => ?_⟩
  obtain ⟨c9, e1, e2, e3, e4⟩ := h6 q _ (Array.getElem?_eq_getElem hq)
  have hs : c9.slots = (s.heap[q]).slots := Array.ext_getElem? fun i => e4 i fun hm => hz _ hm rfl
  have h9 : c9 = s.heap[q] := by
    rw [hs] at e2
    exact e2
  have e5 : U.heap[q]? = some c9 := e1
  rw [e5, h9, Array.getElem?_eq_getElem hq]
/-- the words of a throw but the four that speak of the heap -/
def vx_no (w : Cond) : Bool := decide (w ≠ .isRef (.static Bundle.tN "UNASSIGNED_STACK" Bundle.steD)) && decide (w ≠ .isRef (.static Bundle.tN "SUPPRESSED_SENTINEL" Bundle.listD)) && decide (w ≠ .laysStatic Bundle.tN "UNASSIGNED_STACK" Bundle.steD) && decide (w ≠ .laysStatic Bundle.tN "SUPPRESSED_SENTINEL" Bundle.listD)
def vx_at0 (own : String) (ic : Nat) (X : String) (names : List String) : List Cond := (Bundle.ownAtoms0 own ic X names).filter vx_no
def vx_atS (own : String) (ic : Nat) (X : String) (names : List String) : List Cond := (Bundle.ownAtoms own ic X names).filter vx_no
/-- a word that the tables alone decide, or a good one -/
def vx_ot (w : Cond) : Bool := w.onTables || goodWord w
theorem vx_ot_at {args a' : Array Value} {s U : State} {w : Cond} (hW : s.WarmedH U.vm) (hvm : s.vm = U.vm) (hg : vx_ot w = true) (h : w.before args s = true) : w.before a' U = true := by
  simp only [vx_ot, Bool.or_eq_true] at hg
  rcases hg with hg | hg
  · exact va_tabs hg hvm h
  · exact word_at hW (good_of_word hg) h
/-- a list's words: the good ones out of the method's own list, the others by premises of their own -/
theorem vx_hat {args : Array Value} {s : State} {L B : List Cond} (h1 : ∀ w ∈ L.filter goodWord, w.before args s = true) (h2 : ∀ w ∈ L.filter (fun w => !goodWord w), w ∈ B) (h3 : ∀ w ∈ B, w.before args s = true) : ∀ w ∈ L, w.before args s = true := by
  intro w hw
  by_cases g : goodWord w = true
  · exact h1 w (List.mem_filter.mpr ⟨hw, g⟩)
  · refine h3 w (h2 w (List.mem_filter.mpr ⟨hw, ?_⟩))
    show (!goodWord w) = true
    cases hgw : goodWord w
    · rfl
    · exact absurd hgw g
theorem vx_c {args : Array Value} {s : State} {w : Cond} {B : List Cond} (h : w.before args s = true) (t : ∀ w ∈ B, w.before args s = true) : ∀ w' ∈ w :: B, w'.before args s = true := fun w' h' => (List.mem_cons.mp h').elim (fun e => by rw [e]; exact h) (t w')
theorem vx_n {args : Array Value} {s : State} : ∀ w ∈ ([] : List Cond), w.before args s = true := fun _ h => nomatch h
theorem vx_own {args : Array Value} {s : State} {L : List Cond} (h1 : ∀ w ∈ L.filter vx_no, w.before args s = true)
    (hU : (Cond.isRef (.static Bundle.tN "UNASSIGNED_STACK" Bundle.steD)).before args s = true) (hN : (Cond.isRef (.static Bundle.tN "SUPPRESSED_SENTINEL" Bundle.listD)).before args s = true)
    (lU : (Cond.laysStatic Bundle.tN "UNASSIGNED_STACK" Bundle.steD).before args s = true) (lN : (Cond.laysStatic Bundle.tN "SUPPRESSED_SENTINEL" Bundle.listD).before args s = true) : ∀ w ∈ L, w.before args s = true := by
  intro w hw
  by_cases e1 : w = .isRef (.static Bundle.tN "UNASSIGNED_STACK" Bundle.steD)
  · rw [e1]; exact hU
  · by_cases e2 : w = .isRef (.static Bundle.tN "SUPPRESSED_SENTINEL" Bundle.listD)
    · rw [e2]; exact hN
    · by_cases e3 : w = .laysStatic Bundle.tN "UNASSIGNED_STACK" Bundle.steD
      · rw [e3]; exact lU
      · by_cases e4 : w = .laysStatic Bundle.tN "SUPPRESSED_SENTINEL" Bundle.listD
        · rw [e4]; exact lN
        · exact h1 w (List.mem_filter.mpr ⟨hw, by unfold vx_no; rw [decide_eq_true e1, decide_eq_true e2, decide_eq_true e3, decide_eq_true e4]; rfl⟩)
/-- where a static field lies, its class's statics cell in H -/
def vx_L (C n d : String) (A : Nat → Prop) (U : State) (H : Heap) : Prop := ∃ (c : ClassId) (k : Class) (i : Nat) (f : Field) (a : Nat) (cell : Cell), U.vm.findClass C = some c ∧ U.fieldFound? C n d = some (c, k, i, f) ∧ f.isStatic = true ∧ k.statics = some a ∧ H[a]? = some cell ∧ cell.vm.isStatics = true ∧ cell.cls = c ∧ f.slot < cell.slots.size ∧ k.staticTypes[f.slot]? = some f.type ∧ ¬ A a
theorem vx_L.moved {C n d : String} {A : Nat → Prop} {u U : State} {H : Heap} (hvm : u.vm.Alike U.vm) (h : vx_L C n d A u H) : vx_L C n d A U H := by
  obtain ⟨c, k, i, f, a, cell, h1, h2, h3, h4, h5, h6, h7, h8, h9, h10⟩ := h
  obtain ⟨k', hi', he⟩ := State.fieldFound?_setVm hvm h2
  exact ⟨c, k', i, f, a, cell, by rw [hvm.findClass]; exact h1, hi', h3, by rw [he]; exact h4, h5, h6, h7, h8, by rw [he]; exact h9, h10⟩
theorem vx_L.kept {C n d : String} {A : Nat → Prop} {U : State} {H H1 : Heap} (h : vx_L C n d A U H) (hq : ∀ a : Nat, a < H.size → ¬ A a → H1[a]? = H[a]?) : vx_L C n d A U H1 := by
  obtain ⟨c, k, i, f, a, cell, h1, h2, h3, h4, h5, h6, h7, h8, h9, h10⟩ := h
  exact ⟨c, k, i, f, a, cell, h1, h2, h3, h4, by rw [hq a (Array.getElem?_eq_some_iff.mp h5).1 h10]; exact h5, h6, h7, h8, h9, h10⟩
theorem vx_L.narrow {C n d : String} {A B : Nat → Prop} {U : State} {H : Heap} (h : vx_L C n d A U H) (hAB : ∀ q, B q → A q) : vx_L C n d B U H := by
  obtain ⟨c, k, i, f, a, cell, h1, h2, h3, h4, h5, h6, h7, h8, h9, h10⟩ := h
  exact ⟨c, k, i, f, a, cell, h1, h2, h3, h4, h5, h6, h7, h8, h9, fun z => h10 (hAB _ z)⟩
theorem vx_L.word {C n d : String} {A : Nat → Prop} {s : State} {args : Array Value} (h : vx_L C n d A s s.heap) : (Cond.laysStatic C n d).before args s = true := by
  obtain ⟨c, k, i, f, a, cell, h1, h2, h3, h4, h5, h6, h7, h8, h9, -⟩ := h
  show (Cond.laysStatic C n d).holds args s none s [] = true
  exact Cond.laysStatic_of h1 h2 h3 h4 h5 h6 h7 h8 h9
/-- .. and what it holds: null or some reference -/
def vx_Zq (C n d : String) (A : Nat → Prop) (U : State) (H : Heap) : Prop := va_Zq C n d A U H ∧ vx_L C n d A U H
theorem vx_Zq.moved {C n d : String} {A : Nat → Prop} {u U : State} {H : Heap} (hvm : u.vm.Alike U.vm) (h : vx_Zq C n d A u H) : vx_Zq C n d A U H := ⟨va_Zq.moved hvm h.1, vx_L.moved hvm h.2⟩
theorem vx_Zq.kept {C n d : String} {A : Nat → Prop} {U : State} {H H1 : Heap} (h : vx_Zq C n d A U H) (hq : ∀ a : Nat, a < H.size → ¬ A a → H1[a]? = H[a]?) : vx_Zq C n d A U H1 := ⟨va_Zq.kept h.1 hq, vx_L.kept h.2 hq⟩
theorem vx_Zq.narrow {C n d : String} {A B : Nat → Prop} {U : State} {H : Heap} (h : vx_Zq C n d A U H) (hAB : ∀ q, B q → A q) : vx_Zq C n d B U H := ⟨va_Zq.narrow h.1 hAB, vx_L.narrow h.2 hAB⟩
theorem vx_Zqof {args : Array Value} {s : State} {C n d : String} {A : Nat → Prop} (hl : (Cond.laysStatic C n d).before args s = true) (hini : (Cond.initialized C).before args s = true) (h : (Cond.isRef (.static C n d)).before args s = true) (hA : ∀ a : Nat, a < s.heap.size → ¬ A a) : vx_Zq C n d A s s.heap := by
  refine ⟨va_Zqof hl hini h hA, ?_⟩
  obtain ⟨c, k, i, f, a, cell, h1, h2, h3, h4, h5, h6, h7, h8, h9⟩ := Cond.laysStatic_spec hl
  exact ⟨c, k, i, f, a, cell, h1, h2, h3, h4, h5, h6, h7, h8, h9, hA a (Array.getElem?_eq_some_iff.mp h5).1⟩
theorem vx_isRef {C n d : String} {v : Value} {A : Nat → Prop} {s : State} {args : Array Value} (h : va_Z C n d v A s s.heap) (hv : v.isRef = true) : (Cond.isRef (.static C n d)).before args s = true := by
  obtain ⟨cf, kf, fi, f, a, cell, h1, h2, h3, h4, h5, h6, h7, -⟩ := h
  have he : (Term.static C n d).eval args s none [] s = some v := by
    simp [Term.eval, State.fieldNamed?, h1, h2, h4, h5, h6, h7]
  simp only [Cond.before, Cond.holds, Cond.value, he]
  cases v <;> simp_all [Value.isRef]
theorem vx_isRefq {C n d : String} {A : Nat → Prop} {s : State} {args : Array Value} (h : va_Zq C n d A s s.heap) : (Cond.isRef (.static C n d)).before args s = true := by
  rcases h with h | ⟨t, h⟩
  · exact vx_isRef h rfl
  · exact vx_isRef h rfl
/-- the same frame, seen from here: as if the method were called anew in this heap -/
theorem vx_rebase {T : State} (X : Stand p l e R s m args below meth c T locs cells slots) {R' : Room} (hf : R'.frames ≤ R.frames) (hl : R'.locals ≤ R.locals) (hc : cells + R'.cells ≤ R.cells) (hs : slots + R'.slots ≤ R.slots) :
    Stand p l e R' ((T.setVm s.vm).setFrames (.invoking m args :: below)) m args below meth c T [] 0 0 := by
  have htop : (T.setVm s.vm).topJava?.isSome := X.here.top
  have hF : ((T.setVm s.vm).setFrames (.invoking m args :: below)).frames = .invoking m args :: below := State.frames_setFrames _ (State.cur_lt_of_top htop)
  obtain ⟨g₀, hg0⟩ := Option.isSome_iff_exists.mp htop
  obtain ⟨r, hr⟩ := State.topJava?_eq_some.mp hg0
  have hl9 : e.platform.stackLimits (T.setVm s.vm).me = e.platform.stackLimits s.me := X.limits
  have hb9 : (T.setVm s.vm).me.stackBytes = s.me.stackBytes := X.bytes
  refine ⟨X.admits, X.cas, X.clock, hF, ?_, X.hears, X.method, X.code, X.here, X.tail, X.warmed, ?_, ?_, ?_⟩
  · have h := X.room
    have hU : ((T.setVm s.vm).setFrames (.invoking m args :: below)).localsInUse = s.localsInUse := by
      rw [State.localsInUse_invoking hF (meth := meth) (c := c) X.method X.code, State.localsInUse_invoking X.frames X.method X.code]
    simp only [State.hasRoom, Bool.and_eq_true, decide_eq_true_eq] at h ⊢
    obtain ⟨⟨⟨⟨h1, h2, h3, h4, h5, h6⟩, h7⟩, h8⟩, h9⟩ := h
    rw [X.frames, List.length_cons] at h2 h3
    have q1 := X.heapSize
    have q2 := X.used
    simp only [hF, hU, List.length_cons, State.stackLimits_setFrames, State.stackBytes_setFrames, hl9, hb9]
    refine ⟨⟨⟨⟨by omega, by omega, by omega, by omega, by omega, h6⟩, ?_⟩, ?_⟩, X.book⟩
    · show T.heap.size + R'.cells ≤ e.platform.maxCells
      omega
    · show T.slotsUsed + R'.slots ≤ e.platform.maxSlots
      omega
  · rw [State.stackLimits_setFrames]; rfl
  · rw [State.stackBytes_setFrames]; rfl
  · refine ⟨?_, Nat.le_refl _, Nat.le_refl _, ?_, ?_, fun a c9 h9 => ⟨c9, h9, rfl, rfl, fun _ _ => rfl⟩⟩
    · obtain ⟨t, ht, -⟩ := State.frames_cons hr
      show T.setVm s.vm = { ((T.setVm s.vm).setFrames (.invoking m args :: below)).setFrames (T.setVm s.vm).frames with heap := T.heap, slotsUsed := T.slotsUsed }
      rw [State.setFrames_setFrames, State.setFrames_self ht]
      rfl
    · show T.slotsUsed = T.slotsUsed + ((T.heap.toList.drop T.heap.size).map (·.slots.size)).sum
      rw [List.drop_eq_nil_of_le (Nat.le_of_eq Array.length_toList)]
      rfl
    · show ((T.heap.toList.drop T.heap.size).map (·.slots.size)).sum ≤ 0
      rw [List.drop_eq_nil_of_le (Nat.le_of_eq Array.length_toList)]
      exact Nat.le_refl _
/-- 'throw new E()': new; dup; invokespecial; athrow -/
theorem vx_throw0 {cc : ByteArray} {pc : Nat} (hexec : p.tables.exec = Jvm.exec) (hb : c.code = cc) (hl : l.stackTraces = false) {own cls : String} {names : List String} {ik ic mc ms : Nat} {A : Nat → Prop}
    (hown : s.vm.findClass own = some m.cls) (hcls : Bundle.fit cls = true) (hnames : ∀ n ∈ names, Bundle.fit n = true)
    (hk : (Cond.classLink own ik cls).before args s = true) (hini : (Cond.initialized cls).before args s = true) (hat : ∀ w ∈ vx_at0 own ic cls names, w.before args s = true)
    (hgood : ∀ w ∈ Cond.classLink own ik cls :: Cond.initialized cls :: vx_at0 own ic cls names, vx_ot w = true)
    (hU : vx_Zq Bundle.tN "UNASSIGNED_STACK" Bundle.steD A s s.heap) (hN : vx_Zq Bundle.tN "SUPPRESSED_SENTINEL" Bundle.listD A s s.heap) (hS : va_S A s.heap H locs) (hsize : ls.size = c.maxLocals)
    (d0 : decode cc pc = .ok (.new ik, 3)) (d3 : decode cc (pc + 3) = .ok (.dup, 1)) (d4 : decode cc (pc + 4) = .ok (.invokespecial ic, 3)) (d7 : decode cc (pc + 7) = .ok (.athrow, 1))
    (hout : ∀ x ∈ c.exceptionTable.toList, covers x (pc + 7) = false)
    (hRframes : names.length + 3 < R.frames) (hRlocals : (rest.map fun v => v.category).sum + (13 * (names.length + 1) + 42) ≤ R.locals) (hRcells : cells + 1 ≤ R.cells) (hRslots : slots + 6 ≤ R.slots) (hlocks : meth.locks = false)
    (hx : ∀ t : State, s.vm.Alike t.vm → H.size ≤ t.heap.size → (∀ q : Nat, q < H.size → t.heap[q]? = H[q]?) → XC cls s t)
    (hf : ∀ z ∈ locs, free z.base) (hc : cells + 1 ≤ mc) (hs : slots + 6 ≤ ms) :
    W p l e R s m args below meth c H locs cells slots (vx_MQ below Qc XC args s mc ms free) (F0 m pc ls rest) := by
  intro T hT X
  have htr : e.platform.stackTraces = false := (show e.platform.stackTraces = l.stackTraces by rw [X.admits.platform]).trans hl
  have Y := vx_rebase X (R' := { frames := R.frames, locals := R.locals, cells := 1, slots := 6 }) (Nat.le_refl _) (Nat.le_refl _) hRcells hRslots
  obtain ⟨s', hA⟩ : ∃ z, z = (T.setVm s.vm).setFrames (.invoking m args :: below) := ⟨_, rfl⟩
  rw [← hA] at Y
  have hvm : s'.vm = s.vm := by rw [hA]; rfl
  have hhp : s'.heap = H := by rw [hA]; exact hT
  have hW0 : s.WarmedH s'.vm := by rw [hvm]; exact State.WarmedH.refl s
  have hat' : ∀ w ∈ vx_at0 own ic cls names, w.before args s' = true := fun w hw => vx_ot_at hW0 hvm.symm (hgood w (List.mem_cons_of_mem _ (List.mem_cons_of_mem _ hw))) (hat w hw)
  have hk' : (Cond.classLink own ik cls).before args s' = true := vx_ot_at hW0 hvm.symm (hgood _ List.mem_cons_self) hk
  have hini' : (Cond.initialized cls).before args s' = true := vx_ot_at hW0 hvm.symm (hgood _ (List.mem_cons_of_mem _ List.mem_cons_self)) hini
  have hU' : vx_Zq Bundle.tN "UNASSIGNED_STACK" Bundle.steD A s' s'.heap := by rw [hhp]; exact vx_Zq.moved hW0.alike (hU.kept hS.2.1)
  have hN' : vx_Zq Bundle.tN "SUPPRESSED_SENTINEL" Bundle.listD A s' s'.heap := by rw [hhp]; exact vx_Zq.moved hW0.alike (hN.kept hS.2.1)
  have h : ∀ w ∈ Bundle.ownAtoms0 own ic cls names, w.before args s' = true := vx_own hat' (vx_isRefq hU'.1) (vx_isRefq hN'.1) hU'.2.word hN'.2.word
  have hown' : s'.vm.findClass own = some m.cls := by rw [hvm]; exact hown
  have hins : (Cond.instantiable cls 6).before args s' = true := h _ (by simp [Bundle.ownAtoms0])
  obtain ⟨vm₁, cX, kX, hfX, hkX, -, -, X₁, st1⟩ := Y.newCold hexec (own := own) (C := cls) (index := ik) (n := 6) hown' hk' hins hini'
    (g := F0 m pc ls rest) rfl (by rw [hb]; exact d0) (Nat.le_refl _) (Nat.le_refl _)
  generalize hT1 : (T.setVm vm₁).pushCell { cls := cX, slots := kX.instanceTypes.map defaultValue, vm := .none } = T1 at X₁ st1
  have hcat : (Value.ref T.heap.size).category = 1 := rfl
  have hcellA : T1.heap[T.heap.size]? = some (freshCell cX kX) := by rw [← hT1]; exact State.heap_pushCell_size _ _
  have d3' : decode c.code (pc + 3) = .ok (.dup, 1) := by rw [hb]; exact d3
  obtain ⟨U, hsteps, hrun, hend, hW, hsame, ce, hce, hO⟩ := X₁.ctorThrow0 hexec htr (own := own) (cls := cls) (names := names) (ic := ic) hown' hcls hnames h (fun x hx => nomatch hx) hfX hkX hcellA (by rw [hhp, hT]; exact Nat.le_refl _)
    (g := { method := m, pc := pc + 4, locals := ls, stack := .ref T.heap.size :: .ref T.heap.size :: rest, locked := none }) rfl hsize rfl rfl (rest := rest) rfl
    (by rw [hb]; exact d4) (by rw [hb]; exact d7) hout hRframes (by simp only [List.map_cons, List.sum_cons, hcat]; omega) hlocks
  obtain ⟨f1, f2⟩ := vx_frame hsame
  rw [hhp] at f1 f2
  have hWs : s.WarmedH U.vm := State.WarmedH.trans hW0 hW
  have hcl : s.vm.findClass cls = some ce.cls := by
    have h9 := hO.cls
    rw [hvm] at h9
    exact h9
  have hall : s.sameButNew ({ U with vm := s.vm } : State) locs mc ms := by
    subst hA
    obtain ⟨e1, e2⟩ := hsame
    rw [State.setFrames_setFrames] at e1
    have h2 : (T.setVm s.vm).sameButNew ({ U with vm := s.vm } : State) [] (0 + 1) (0 + 6) := ⟨e1, e2⟩
    have h3 := X.same.trans h2
    rw [List.append_nil] at h3
    exact h3.mono hc hs
  refine ⟨U, ?_, .threw T.heap.size, hrun, hend, Or.inr ⟨T.heap.size, rfl, cls, ce, locs, hx U hWs.alike f1 (fun q hq => f2 q hq (fun z hz => nomatch hz)), hce, hO.vm, hcl, hWs, hall, hf⟩⟩
  refine st1 _ ?_
  show Steps p.tables e below (T1.setTop { method := m, pc := pc + 3, locals := ls, stack := .ref T.heap.size :: rest, locked := none }) _
  jvm_step X₁.here [X₁.here.top, hexec, d3', Value.category]
  exact hsteps
/-- 'throw new E("text")': new; dup; ldc; invokespecial; athrow -/
theorem vx_throwS {cc : ByteArray} {pc : Nat} (hexec : p.tables.exec = Jvm.exec) (hb : c.code = cc) (hl : l.stackTraces = false) {own cls text : String} {names : List String} {ik is ic mc ms sa : Nat} {A : Nat → Prop}
    (hown : s.vm.findClass own = some m.cls) (hcls : Bundle.fit cls = true) (hnames : ∀ n ∈ names, Bundle.fit n = true)
    (hk : (Cond.classLink own ik cls).before args s = true) (hini : (Cond.initialized cls).before args s = true) (hstr : vk_R own is text sa s) (hat : ∀ w ∈ vx_atS own ic cls names, w.before args s = true)
    (hgood : ∀ w ∈ Cond.classLink own ik cls :: Cond.initialized cls :: vx_atS own ic cls names, vx_ot w = true)
    (hU : vx_Zq Bundle.tN "UNASSIGNED_STACK" Bundle.steD A s s.heap) (hN : vx_Zq Bundle.tN "SUPPRESSED_SENTINEL" Bundle.listD A s s.heap) (hS : va_S A s.heap H locs) (hsize : ls.size = c.maxLocals)
    (d0 : decode cc pc = .ok (.new ik, 3)) (d3 : decode cc (pc + 3) = .ok (.dup, 1)) (d4 : decode cc (pc + 4) = .ok (.ldc is, 2)) (d6 : decode cc (pc + 6) = .ok (.invokespecial ic, 3)) (d9 : decode cc (pc + 9) = .ok (.athrow, 1))
    (hout : ∀ x ∈ c.exceptionTable.toList, covers x (pc + 9) = false)
    (hRframes : names.length + 3 < R.frames) (hRlocals : (rest.map fun v => v.category).sum + (13 * (names.length + 1) + 43) ≤ R.locals) (hRcells : cells + 1 ≤ R.cells) (hRslots : slots + 6 ≤ R.slots) (hlocks : meth.locks = false)
    (hx : ∀ t : State, s.vm.Alike t.vm → H.size ≤ t.heap.size → (∀ q : Nat, q < H.size → t.heap[q]? = H[q]?) → XC cls s t)
    (hf : ∀ z ∈ locs, free z.base) (hc : cells + 1 ≤ mc) (hs : slots + 6 ≤ ms) :
    W p l e R s m args below meth c H locs cells slots (vx_MQ below Qc XC args s mc ms free) (F0 m pc ls rest) := by
  intro T hT X
  have htr : e.platform.stackTraces = false := (show e.platform.stackTraces = l.stackTraces by rw [X.admits.platform]).trans hl
  have Y := vx_rebase X (R' := { frames := R.frames, locals := R.locals, cells := 1, slots := 6 }) (Nat.le_refl _) (Nat.le_refl _) hRcells hRslots
  obtain ⟨s', hA⟩ : ∃ z, z = (T.setVm s.vm).setFrames (.invoking m args :: below) := ⟨_, rfl⟩
  rw [← hA] at Y
  have hvm : s'.vm = s.vm := by rw [hA]; rfl
  have hhp : s'.heap = H := by rw [hA]; exact hT
  have hW0 : s.WarmedH s'.vm := by rw [hvm]; exact State.WarmedH.refl s
  have hat' : ∀ w ∈ vx_atS own ic cls names, w.before args s' = true := fun w hw => vx_ot_at hW0 hvm.symm (hgood w (List.mem_cons_of_mem _ (List.mem_cons_of_mem _ hw))) (hat w hw)
  have hk' : (Cond.classLink own ik cls).before args s' = true := vx_ot_at hW0 hvm.symm (hgood _ List.mem_cons_self) hk
  have hini' : (Cond.initialized cls).before args s' = true := vx_ot_at hW0 hvm.symm (hgood _ (List.mem_cons_of_mem _ List.mem_cons_self)) hini
  have hU' : vx_Zq Bundle.tN "UNASSIGNED_STACK" Bundle.steD A s' s'.heap := by rw [hhp]; exact vx_Zq.moved hW0.alike (hU.kept hS.2.1)
  have hN' : vx_Zq Bundle.tN "SUPPRESSED_SENTINEL" Bundle.listD A s' s'.heap := by rw [hhp]; exact vx_Zq.moved hW0.alike (hN.kept hS.2.1)
  have h : ∀ w ∈ Bundle.ownAtoms own ic cls names, w.before args s' = true := vx_own hat' (vx_isRefq hU'.1) (vx_isRefq hN'.1) hU'.2.word hN'.2.word
  have hown' : s'.vm.findClass own = some m.cls := by rw [hvm]; exact hown
  have hins : (Cond.instantiable cls 6).before args s' = true := h _ (by simp [Bundle.ownAtoms])
  obtain ⟨vm₁, cX, kX, hfX, hkX, -, -, X₁, st1⟩ := Y.newCold hexec (own := own) (C := cls) (index := ik) (n := 6) hown' hk' hins hini'
    (g := F0 m pc ls rest) rfl (by rw [hb]; exact d0) (Nat.le_refl _) (Nat.le_refl _)
  generalize hT1 : (T.setVm vm₁).pushCell { cls := cX, slots := kX.instanceTypes.map defaultValue, vm := .none } = T1 at X₁ st1
  have hcat : (Value.ref T.heap.size).category = 1 := rfl
  have hcellA : T1.heap[T.heap.size]? = some (freshCell cX kX) := by rw [← hT1]; exact State.heap_pushCell_size _ _
  have d3' : decode c.code (pc + 3) = .ok (.dup, 1) := by rw [hb]; exact d3
  have d4' : decode c.code (pc + 4) = .ok (.ldc is, 2) := by rw [hb]; exact d4
  have hstr' : vk_R own is text sa s' := vk_R.warm hW0 hstr
  obtain ⟨U, hsteps, hrun, hend, hW, hsame, ce, hce, hO⟩ := X₁.ctorThrowS hexec htr (own := own) (cls := cls) (names := names) (ic := ic) hown' hcls hnames h (fun x hx => nomatch hx) hfX hkX hcellA (by rw [hhp, hT]; exact Nat.le_refl _) (msg := .ref sa) rfl
    (g := { method := m, pc := pc + 6, locals := ls, stack := .ref sa :: .ref T.heap.size :: .ref T.heap.size :: rest, locked := none }) rfl hsize rfl rfl (rest := rest) rfl
    (by rw [hb]; exact d6) (by rw [hb]; exact d9) hout hRframes (by simp only [List.map_cons, List.sum_cons, hcat]; omega) hlocks
  obtain ⟨f1, f2⟩ := vx_frame hsame
  rw [hhp] at f1 f2
  have hWs : s.WarmedH U.vm := State.WarmedH.trans hW0 hW
  have hcl : s.vm.findClass cls = some ce.cls := by
    have h9 := hO.cls
    rw [hvm] at h9
    exact h9
  have hall : s.sameButNew ({ U with vm := s.vm } : State) locs mc ms := by
    subst hA
    obtain ⟨e1, e2⟩ := hsame
    rw [State.setFrames_setFrames] at e1
    have h2 : (T.setVm s.vm).sameButNew ({ U with vm := s.vm } : State) [] (0 + 1) (0 + 6) := ⟨e1, e2⟩
    have h3 := X.same.trans h2
    rw [List.append_nil] at h3
    exact h3.mono hc hs
  refine ⟨U, ?_, .threw T.heap.size, hrun, hend, Or.inr ⟨T.heap.size, rfl, cls, ce, locs, hx U hWs.alike f1 (fun q hq => f2 q hq (fun z hz => nomatch hz)), hce, hO.vm, hcl, hWs, hall, hf⟩⟩
  refine st1 _ ?_
  show Steps p.tables e below (T1.setTop { method := m, pc := pc + 3, locals := ls, stack := .ref T.heap.size :: rest, locked := none }) _
  jvm_step X₁.here [X₁.here.top, hexec, d3', Value.category]
  exact X₁.ldcString hexec (own := own) (text := text) (index := is) (a := sa) hown' hstr'.1 hstr'.2
    (g := { method := m, pc := pc + 4, locals := ls, stack := .ref T.heap.size :: .ref T.heap.size :: rest, locked := none }) rfl d4' _ hsteps
/-- 'throw new E("text")', the text by a wide index -/
theorem vx_throwSW {cc : ByteArray} {pc : Nat} (hexec : p.tables.exec = Jvm.exec) (hb : c.code = cc) (hl : l.stackTraces = false) {own cls text : String} {names : List String} {ik is ic mc ms sa : Nat} {A : Nat → Prop}
    (hown : s.vm.findClass own = some m.cls) (hcls : Bundle.fit cls = true) (hnames : ∀ n ∈ names, Bundle.fit n = true)
    (hk : (Cond.classLink own ik cls).before args s = true) (hini : (Cond.initialized cls).before args s = true) (hstr : vk_R own is text sa s) (hat : ∀ w ∈ vx_atS own ic cls names, w.before args s = true)
    (hgood : ∀ w ∈ Cond.classLink own ik cls :: Cond.initialized cls :: vx_atS own ic cls names, vx_ot w = true)
    (hU : vx_Zq Bundle.tN "UNASSIGNED_STACK" Bundle.steD A s s.heap) (hN : vx_Zq Bundle.tN "SUPPRESSED_SENTINEL" Bundle.listD A s s.heap) (hS : va_S A s.heap H locs) (hsize : ls.size = c.maxLocals)
    (d0 : decode cc pc = .ok (.new ik, 3)) (d3 : decode cc (pc + 3) = .ok (.dup, 1)) (d4 : decode cc (pc + 4) = .ok (.ldc_w is, 3)) (d7 : decode cc (pc + 7) = .ok (.invokespecial ic, 3)) (d10 : decode cc (pc + 10) = .ok (.athrow, 1))
    (hout : ∀ x ∈ c.exceptionTable.toList, covers x (pc + 10) = false)
    (hRframes : names.length + 3 < R.frames) (hRlocals : (rest.map fun v => v.category).sum + (13 * (names.length + 1) + 43) ≤ R.locals) (hRcells : cells + 1 ≤ R.cells) (hRslots : slots + 6 ≤ R.slots) (hlocks : meth.locks = false)
    (hx : ∀ t : State, s.vm.Alike t.vm → H.size ≤ t.heap.size → (∀ q : Nat, q < H.size → t.heap[q]? = H[q]?) → XC cls s t)
    (hf : ∀ z ∈ locs, free z.base) (hc : cells + 1 ≤ mc) (hs : slots + 6 ≤ ms) :
    W p l e R s m args below meth c H locs cells slots (vx_MQ below Qc XC args s mc ms free) (F0 m pc ls rest) := by
  intro T hT X
  have htr : e.platform.stackTraces = false := (show e.platform.stackTraces = l.stackTraces by rw [X.admits.platform]).trans hl
  have Y := vx_rebase X (R' := { frames := R.frames, locals := R.locals, cells := 1, slots := 6 }) (Nat.le_refl _) (Nat.le_refl _) hRcells hRslots
  obtain ⟨s', hA⟩ : ∃ z, z = (T.setVm s.vm).setFrames (.invoking m args :: below) := ⟨_, rfl⟩
  rw [← hA] at Y
  have hvm : s'.vm = s.vm := by rw [hA]; rfl
  have hhp : s'.heap = H := by rw [hA]; exact hT
  have hW0 : s.WarmedH s'.vm := by rw [hvm]; exact State.WarmedH.refl s
  have hat' : ∀ w ∈ vx_atS own ic cls names, w.before args s' = true := fun w hw => vx_ot_at hW0 hvm.symm (hgood w (List.mem_cons_of_mem _ (List.mem_cons_of_mem _ hw))) (hat w hw)
  have hk' : (Cond.classLink own ik cls).before args s' = true := vx_ot_at hW0 hvm.symm (hgood _ List.mem_cons_self) hk
  have hini' : (Cond.initialized cls).before args s' = true := vx_ot_at hW0 hvm.symm (hgood _ (List.mem_cons_of_mem _ List.mem_cons_self)) hini
  have hU' : vx_Zq Bundle.tN "UNASSIGNED_STACK" Bundle.steD A s' s'.heap := by rw [hhp]; exact vx_Zq.moved hW0.alike (hU.kept hS.2.1)
  have hN' : vx_Zq Bundle.tN "SUPPRESSED_SENTINEL" Bundle.listD A s' s'.heap := by rw [hhp]; exact vx_Zq.moved hW0.alike (hN.kept hS.2.1)
  have h : ∀ w ∈ Bundle.ownAtoms own ic cls names, w.before args s' = true := vx_own hat' (vx_isRefq hU'.1) (vx_isRefq hN'.1) hU'.2.word hN'.2.word
  have hown' : s'.vm.findClass own = some m.cls := by rw [hvm]; exact hown
  have hins : (Cond.instantiable cls 6).before args s' = true := h _ (by simp [Bundle.ownAtoms])
  obtain ⟨vm₁, cX, kX, hfX, hkX, -, -, X₁, st1⟩ := Y.newCold hexec (own := own) (C := cls) (index := ik) (n := 6) hown' hk' hins hini'
    (g := F0 m pc ls rest) rfl (by rw [hb]; exact d0) (Nat.le_refl _) (Nat.le_refl _)
  generalize hT1 : (T.setVm vm₁).pushCell { cls := cX, slots := kX.instanceTypes.map defaultValue, vm := .none } = T1 at X₁ st1
  have hcat : (Value.ref T.heap.size).category = 1 := rfl
  have hcellA : T1.heap[T.heap.size]? = some (freshCell cX kX) := by rw [← hT1]; exact State.heap_pushCell_size _ _
  have d3' : decode c.code (pc + 3) = .ok (.dup, 1) := by rw [hb]; exact d3
  have d4' : decode c.code (pc + 4) = .ok (.ldc_w is, 3) := by rw [hb]; exact d4
  have hstr' : vk_R own is text sa s' := vk_R.warm hW0 hstr
  obtain ⟨U, hsteps, hrun, hend, hW, hsame, ce, hce, hO⟩ := X₁.ctorThrowS hexec htr (own := own) (cls := cls) (names := names) (ic := ic) hown' hcls hnames h (fun x hx => nomatch hx) hfX hkX hcellA (by rw [hhp, hT]; exact Nat.le_refl _) (msg := .ref sa) rfl
    (g := { method := m, pc := pc + 7, locals := ls, stack := .ref sa :: .ref T.heap.size :: .ref T.heap.size :: rest, locked := none }) rfl hsize rfl rfl (rest := rest) rfl
    (by rw [hb]; exact d7) (by rw [hb]; exact d10) hout hRframes (by simp only [List.map_cons, List.sum_cons, hcat]; omega) hlocks
  obtain ⟨f1, f2⟩ := vx_frame hsame
  rw [hhp] at f1 f2
  have hWs : s.WarmedH U.vm := State.WarmedH.trans hW0 hW
  have hcl : s.vm.findClass cls = some ce.cls := by
    have h9 := hO.cls
    rw [hvm] at h9
    exact h9
  have hall : s.sameButNew ({ U with vm := s.vm } : State) locs mc ms := by
    subst hA
    obtain ⟨e1, e2⟩ := hsame
    rw [State.setFrames_setFrames] at e1
    have h2 : (T.setVm s.vm).sameButNew ({ U with vm := s.vm } : State) [] (0 + 1) (0 + 6) := ⟨e1, e2⟩
    have h3 := X.same.trans h2
    rw [List.append_nil] at h3
    exact h3.mono hc hs
  refine ⟨U, ?_, .threw T.heap.size, hrun, hend, Or.inr ⟨T.heap.size, rfl, cls, ce, locs, hx U hWs.alike f1 (fun q hq => f2 q hq (fun z hz => nomatch hz)), hce, hO.vm, hcl, hWs, hall, hf⟩⟩
  refine st1 _ ?_
  show Steps p.tables e below (T1.setTop { method := m, pc := pc + 3, locals := ls, stack := .ref T.heap.size :: rest, locked := none }) _
  jvm_step X₁.here [X₁.here.top, hexec, d3', Value.category]
  exact X₁.ldcStringW hexec (own := own) (text := text) (index := is) (a := sa) hown' hstr'.1 hstr'.2
    (g := { method := m, pc := pc + 4, locals := ls, stack := .ref T.heap.size :: .ref T.heap.size :: rest, locked := none }) rfl d4' _ hsteps
end Ends
section Bodies
variable {l : Launch}
theorem vx_ofW {y : MethodName} {ws ws' : List Cond} {rm : Room} {Pc : Array Value → State → Prop} {Qc : Array Value → State → Outcome → State → Prop} {XC : String → State → State → Prop} {mc ms : Nat} {free : Addr → Prop} {cc : ByteArray} {maxL : Nat} {ret : Option FieldType}
    (hy : plainName y.cls = true) (hw : ws = Cond.code y cc maxL ret :: ws')
    (body : ∀ p e s m args below meth c s₁, BodyLoose p l y (headSpec ws rm) cc maxL ret e s m args below meth c s₁ → c.maxLocals = maxL → (∀ x ∈ c.exceptionTable.toList, False) → Pc args s →
      W p l e (headSpec ws rm).room s m args below meth c s.heap [] 0 0 (vx_MQ below Qc XC args s mc ms free) (entryFrame m args maxL)) : vx_Met l y ws rm Pc Qc XC mc ms free := by
  refine MetFree.of_bodyS (code := cc) (maxLocals := maxL) (ret := ret) hy ?_ ?_
  · intro args s m h hn
    obtain ⟨meth, c, h1, h2, h3, h4, h5, h6, -, -⟩ := Cond.code_spec hn (atoms_spec (ws := ws) h _ (by rw [hw]; exact List.mem_cons_self))
    exact ⟨meth, c, h1, h2, h3, h4, h5, h6⟩
  · intro p e s m args below meth c s₁ B hml hP _
    have hh0 : s₁.heap = s.heap := by rw [B.state]; rfl
    have ht : ∀ x ∈ c.exceptionTable.toList, False := by
      obtain ⟨meth9, c9, h1, h2, -, -, -, -, h7, -⟩ := Cond.code_spec B.named (atoms_spec (ws := ws) B.pre _ (by rw [hw]; exact List.mem_cons_self))
      cases Option.some.inj (h1.symm.trans B.method)
      cases Option.some.inj (h2.symm.trans (Stand.of_body B).code)
      intro x hx
      rw [Array.isEmpty_iff.mp h7] at hx
      cases hx
    obtain ⟨t, a1, o, b1, b2, b3⟩ := body p e s m args below meth c s₁ B hml ht hP s₁ hh0 (Stand.of_body B)
    exact ⟨t, o, a1, b1, b2, b3⟩
/-- the table of a body with handlers -/
theorem vx_table {p : Program} {x y : MethodName} {S : Spec} {cc bytes : ByteArray} {maxL maxL' : Nat} {ret ret' : Option FieldType} {e : Env} {s s₁ : State} {m : MethodId} {args : Array Value} {below : List Frame} {meth : Method} {c : Code} {hh : List (Nat × Nat × Nat × Nat)}
    (B : BodyLoose p l y S cc maxL ret e s m args below meth c s₁) (h : (Cond.codeWith y bytes maxL' ret' hh).before args s = true) : c.exceptionTable.toList = tableOf hh := by
  obtain ⟨m9, meth9, c9, hn9, h1, h2, -, -, h6, -⟩ := Cond.codeWith_spec h
  cases Option.some.inj (hn9.symm.trans B.named)
  cases Option.some.inj (h1.symm.trans B.method)
  cases Option.some.inj (h2.symm.trans (Stand.of_body B).code)
  rw [← h6, table_eq]
end Bodies
end VXA
/-! ===== END ===== -/
/-! ===== BEGIN a static call of a method with an exception table ===== -/
section VXS
variable {p : Program} {l : Launch} {e : Env} {R : Room} {s : State} {m : MethodId} {args : Array Value} {below : List Frame} {meth : Method} {c : Code} {T : State} {H : Heap} {locs : List Loc} {cells slots : Nat}
abbrev vx_CSW (R : Room) (s : State) (args : Array Value) (own : String) (index : Nat) (y : MethodName) (bytes : ByteArray) (maxL : Nat) (ret : Option FieldType) (hh : List (Nat × Nat × Nat × Nat)) (ws : List Cond) (rm : Room) (mc ms n : Nat) : Prop :=
  (rm.cells = mc ∧ rm.slots = ms ∧ rm.frames + 1 ≤ R.frames ∧ 8 + (maxL + 11) + rm.locals ≤ R.locals ∧ (∀ w ∈ ws, ∀ (a' : Array Value) (U : State), s.WarmedH U.vm → w.before a' U = true) ∧ Cond.codeWith y bytes maxL ret hh ∈ ws) ∧
  (Cond.codeWith y bytes maxL ret hh).before args s = true ∧ (Cond.initialized y.cls).before args s = true ∧ (y.cls ≠ "java/lang/invoke/MethodHandle" ∧ y.cls ≠ "java/lang/invoke/VarHandle") ∧
  (∀ sig, parseMethodDescriptor y.desc = some sig → n = sig.parameters.length) ∧ (Cond.methodLink own index y).before args s = true ∧ (Cond.static y).before args s = true
theorem vx_cwSW {own : String} {index maxL mc ms : Nat} {y : MethodName} {bytes : ByteArray} {ret : Option FieldType} {hh : List (Nat × Nat × Nat × Nat)} {Ts ws ws' : List Cond} {rm : Room} (n : Nat) (ht : ∀ w ∈ Ts, w.before args s = true) (hT : GoodIn Ts (va_wsS own index y ws)) (hw : ws = Cond.codeWith y bytes maxL ret hh :: ws') (hrc : rm.cells = mc) (hrs : rm.slots = ms)
    (hd : y.cls ≠ "java/lang/invoke/MethodHandle" ∧ y.cls ≠ "java/lang/invoke/VarHandle" ∧ (parseMethodDescriptor y.desc).map (fun d => d.parameters.length) = some n) (hR : rm.frames + 1 ≤ R.frames ∧ 8 + (maxL + 11) + rm.locals ≤ R.locals) :
    vx_CSW R s args own index y bytes maxL ret hh ws rm mc ms n := by
  have ok : ∀ w ∈ va_wsS own index y ws, w.before args s = true := fun w h => ht w (hT w h).1
  have hG : GoodIn Ts ws := fun w h => hT w (by unfold va_wsS; exact List.mem_append_right _ h)
  have hc : Cond.codeWith y bytes maxL ret hh ∈ ws := by rw [hw]; exact List.mem_cons_self
  refine ⟨⟨hrc, hrs, hR.1, hR.2, pay_in ht hG, hc⟩, ht _ (hG _ hc).1, ok _ (by simp [va_wsS]), ⟨hd.1, hd.2.1⟩, fun sig h => ?_, ok _ (by simp [va_wsS]), ok _ (by simp [va_wsS])⟩
  have h2 := hd.2.2
  rw [h] at h2
  exact (Option.some.inj h2).symm
theorem vx_callSW (X : Stand p l e R s m args below meth c T locs cells slots) (hexec : p.tables.exec = Jvm.exec) {own : String} {index : Nat} {y : MethodName} {bytes : ByteArray} {maxL : Nat} {ret : Option FieldType} {hh : List (Nat × Nat × Nat × Nat)}
    (hown : s.vm.findClass own = some m.cls) (hlink : (Cond.methodLink own index y).before args s = true) (hstat : (Cond.static y).before args s = true) (hinit : (Cond.initialized y.cls).before args s = true)
    (hcode : (Cond.codeWith y bytes maxL ret hh).before args s = true) (hy : y.cls ≠ "java/lang/invoke/MethodHandle" ∧ y.cls ≠ "java/lang/invoke/VarHandle")
    {W9 : Nat} {Pre : Pt → Array Value → Prop} {Post : Pt → Array Value → Option Value → Pt → Prop} (hK : Back l R p e below s args y 3 W9 Pre Post)
    {g : JFrame} (hg : g.method = m) (hsize : g.locals.size = c.maxLocals) {argsL rest : List Value} (hlen : ∀ sig, parseMethodDescriptor y.desc = some sig → argsL.length = sig.parameters.length)
    (hstack : g.stack = argsL.reverse ++ rest) (hW : 2 * g.monitorRoom + (rest.map fun v => v.category).sum ≤ W9) (hdg : decode c.code g.pc = .ok (.invokestatic index, 3))
    (hpre : ∀ vm₁, s.WarmedH vm₁ → Pre ⟨T.setVm vm₁, locs, cells, slots⟩ argsL.toArray) :
    ∃ (v : Option Value) (vm₁ : Vm) (B : Pt), s.WarmedH vm₁ ∧ Stand p l e R s m args below meth c B.U B.locs B.cells B.slots ∧ Post ⟨T.setVm vm₁, locs, cells, slots⟩ argsL.toArray v B ∧
      ∀ target, Steps p.tables e below (B.U.setTop { g with pc := g.pc + 3, stack := v.toList ++ rest }) target → Steps p.tables e below (T.setTop g) target := by
  obtain ⟨mk, methM, cM, hnamed, hmethM, -, -, -, -, -, -, hsigM⟩ := Cond.codeWith_spec hcode
  have hstatic : methM.isStatic = true := Cond.static_spec hnamed hmethM hstat
  obtain ⟨kP, hkP, -⟩ := className_of_methodNamed hnamed
  have hinitP : kP.init = .initialized := Cond.initialized_spec (findClass_of_methodNamed hnamed) hkP hinit
  obtain ⟨vm₁, X₁, hstep₁⟩ := X.invokestatic hexec hown hlink hnamed hmethM hstatic hkP hinitP hy (g := g) hg (argsL := argsL) (rest := rest) (hlen _ hsigM) hstack hdg
  obtain ⟨v, B, X', hpost, hsteps⟩ := hK m meth c ⟨T.setVm vm₁, locs, cells, slots⟩ { g with stack := rest } (.invokestatic index) mk argsL.toArray X₁ hg hsize hdg hW (X₁.named hnamed) (hpre vm₁ X₁.warmed)
  exact ⟨v, vm₁, B, X₁.warmed, X', hpost, fun target h => hstep₁ _ fun acts => by rw [doInvoke_state]; exact hsteps.trans h⟩
theorem vx_runSW {y : MethodName} {bytes cc : ByteArray} {maxL nL mc ms n index : Nat} {ret : Option FieldType} {hh : List (Nat × Nat × Nat × Nat)} {ws : List Cond} {rm : Room} {Pc : Array Value → State → Prop} {Qc : Array Value → State → Outcome → State → Prop} {free : Addr → Prop} {Ts : List Cond} {own : String} {As rest : List Value} {g : JFrame}
    (S : CallFix p m c cc nL s args Ts own) (hM : Met l y ws rm Pc Qc mc ms free) (cw : vx_CSW R s args own index y bytes maxL ret hh ws rm mc ms n) (hp : PreS s H Pc As)
    (hg : g.method = m) (hn : As.length = n) (hsize : g.locals.size = nL) (hstack : g.stack = As.reverse ++ rest) (hW : 2 * g.monitorRoom + (rest.map fun v => v.category).sum ≤ 8) (hdg : decode cc g.pc = .ok (.invokestatic index, 3)) (hf : cells + mc ≤ R.cells ∧ slots + ms ≤ R.slots) :
    va_Run p l e R s m args below meth c H locs cells slots mc ms g rest (Qc As.toArray) (free) := by
  obtain ⟨⟨hrc, hrs, hfr, hlo, hws, hcw⟩, hcode, hini, hy, hlen, hl, hstt⟩ := cw
  have hK : Back l R p e below s args y 3 8 (PreOf R mc ms Pc) (PostOf Qc mc ms free) := va_backW (hh := hh) (bytes := bytes) (maxL := maxL) (ret := ret) hM hp.1 hrc hrs hfr hlo hws hcw (fun a' U hW => word_at hW (Or.inl (by first | rfl | simp [Cond.onTables, Cond.keeps, Cond.steady])) hini)
  obtain ⟨hx, hb, hml, ho, -⟩ := S
  intro T hT X
  obtain ⟨v, vm₁, ⟨U', l2, c2, s2⟩, hW₁, X', ⟨g', mk, t, L, e1, e2, hq, h1, hL, h2, h3⟩, st⟩ := vx_callSW X hx (hh := hh) (bytes := bytes) (maxL := maxL) (ret := ret) ho hl hstt hini hcode hy hK hg (hsize.trans hml.symm) (argsL := As) (rest := rest) (fun sig h => hn.trans (hlen sig h)) hstack hW (by rw [hb]; exact hdg)
    (fun vm₁ hW₁ => ⟨hf.1, hf.2, hp.2 (T.setVm vm₁) hT hW₁⟩)
  dsimp only [Pt.U, Pt.locs, Pt.cells, Pt.slots] at X' e1 e2 h1 h2 h3 st
  subst h1; subst h2; subst h3
  exact ⟨v, (T.setVm vm₁).calling g' mk As.toArray, t, U', L, hT, X', hL, e1, e2, hq, st⟩
/-- not caught here, past rows that name other classes: it goes on to the caller -/
theorem vx_outP {p : Program} {l : Launch} {e : Env} {R : Room} {s : State} {m : MethodId} {args : Array Value} {below : List Frame} {meth : Method} {c : Code} {H : Heap} {locs : List Loc} {cells slots : Nat} {free : Addr → Prop} {ls : Array Slot} {rest : List Value} {Qc : Array Value → State → Outcome → State → Prop} {XC : String → State → State → Prop}
    {pc : Nat} {own E : String} {ce : Cell} {q : Addr} {mc ms : Nat} (hown : s.vm.findClass own = some m.cls) (hlocks : meth.locks = false)
    (hpass : ∀ z ∈ c.exceptionTable.toList, covers z pc = false ∨ (z.catchType ≠ 0 ∧ ∃ nm : String, (Cond.classLink own z.catchType nm).before args s = true ∧ va_Nc E nm s)) (hcell : H[q]? = some ce) (hv : ce.vm = .none) (hcl : s.vm.findClass E = some ce.cls)
    (hx : ∀ t : State, t.heap = H → s.vm.Alike t.vm → XC E s t) (hf : ∀ z ∈ locs, free z.base) (hc : cells ≤ mc) (hs : slots ≤ ms) :
    vx_W p l e R s m args below meth c H locs cells slots (vx_MQ below Qc XC args s mc ms free) (F0 m pc ls rest) q := by
  intro T hT X
  have hpl : e.platform.magicAccessors = ({} : Platform).magicAccessors := by rw [X.admits.platform]
  obtain ⟨vm', hW', X', st⟩ := X.outThrough hlocks q (g := F0 m pc ls rest) rfl rfl rfl (cell := ce) (by rw [hT]; exact hcell) (by rw [hv]; rfl)
    (by obtain ⟨k9, h9, -⟩ := Vm.findClass_spec hcl; exact ⟨k9, h9⟩) (fun z hz => by
      rcases hpass z hz with h | ⟨hz0, nm, hl1, hn1⟩
      · exact Or.inl h
      · obtain ⟨c6, hc6, hcl6⟩ := Cond.classLink_spec hown hl1 e.platform hpl
        obtain ⟨a8, b8, h1, h2, h3⟩ := hn1
        cases Option.some.inj (h1.symm.trans hcl)
        cases Option.some.inj (h2.symm.trans hc6)
        exact Or.inr ⟨hz0, _, hcl6, h3⟩)
  obtain ⟨g₀, hfr⟩ := X'.frames_eq
  have hcell9 : ((T.setVm vm').setFrames (.throwing q :: below)).heap[q]? = some ce := by
    show T.heap[q]? = some ce
    rw [hT]; exact hcell
  have hend : Ended ((T.setVm vm').setFrames (.throwing q :: below)) below (.threw q) := State.frames_setFrames _ (State.cur_lt_of_frames hfr)
  refine ⟨(T.setVm vm').setFrames (.throwing q :: below), ?_, .threw q, X'.here.running, hend, Or.inr ⟨q, rfl, E, ce, locs, hx _ hT (X'.ends _).1.alike, hcell9, hv, hcl, (X'.ends _).1, (X'.ends _).2.mono hc hs, hf⟩⟩
  rw [X.pushThrowing_eq]
  exact st
/-- a thing of a world lies in the heap -/
theorem vx_lt {D : va_G} {cl : List vw_C} {ws : va_W} {H1 : Heap} (h : va_P D cl ws H1) {k : Nat} {q : Nat × va_E} (hk : ws[k]? = some q) : q.1 < H1.size := (h k q hk).lt
end VXS
/-! ===== END ===== -/
/-! ===== BEGIN methods with a table of their own: called by a name, returning or throwing ===== -/
section VXH
/-! vx_backW, vx_callVX, vx_callSX, vx_callVW, vx_runVW, vx_runVX, vx_runSX, vx_ofWH follow the same proofs as their sisters above (Free/Laws.lean, Shelf42/LK1.lean); vx_outP calls Shelf42/NT130.lean (outThrough). -/
section
variable {l : Launch} {R : Room} {p : Program} {e : Env} {below : List Frame} {s : State} {sargs : Array Value} {y : MethodName} {len W9 : Nat}
theorem vx_backW {ws : List Cond} {rm : Room} {Pc : Array Value → State → Prop} {Qc : Array Value → State → Outcome → State → Prop} {XC : String → State → State → Prop} {mc ms : Nat} {free : Addr → Prop} {bytes : ByteArray} {maxL : Nat} {ret : Option FieldType} {hh : List (Nat × Nat × Nat × Nat)}
    (hM : vx_Met l y ws rm Pc Qc XC mc ms free) (hblind : FrameBlind Pc) (hrc : rm.cells = mc) (hrs : rm.slots = ms)
    (hframes : rm.frames + 1 ≤ R.frames) (hlocals : W9 + (maxL + 11) + rm.locals ≤ R.locals)
    (hws : ∀ w ∈ ws, ∀ a' U, s.WarmedH U.vm → w.before a' U = true) (hcode : Cond.codeWith y bytes maxL ret hh ∈ ws) (hinit : ∀ a' U, s.WarmedH U.vm → (Cond.initialized y.cls).before a' U = true) :
    vx_Back l R p e below s sargs y len W9 (PreOf R mc ms Pc) (PostOf Qc mc ms free) (vx_Post XC mc ms free) := by
  intro m meth c A g ig mk a X hg hsize hdg hW hn hp
  have h1 : (headSpec ws rm).pre.before a A.U = true := atoms_intro fun w hw => hws w hw _ _ X.warmed
  have h2 : (Cond.codeWith y bytes maxL ret hh).before a A.U = true := hws _ hcode _ _ X.warmed
  have h3 : (Cond.initialized y.cls).before a A.U = true := hinit _ _ X.warmed
  have h4 : A.cells + (headSpec ws rm).room.cells ≤ R.cells := by rw [show (headSpec ws rm).room.cells = mc from hrc]; exact hp.1
  have h5 : A.slots + (headSpec ws rm).room.slots ≤ R.slots := by rw [show (headSpec ws rm).room.slots = ms from hrs]; exact hp.2.1
  have hPc : Pc a (A.U.calling g mk a) := hblind _ _ _ _ hp.2.2
  obtain ⟨U, Ls, c0, s0⟩ := A
  dsimp only [Pt.U, Pt.locs, Pt.cells, Pt.slots] at h1 h2 h3 h4 h5 X hn hPc ⊢
  obtain ⟨m9, methY, cY, hn9, hmY, hcY, -, hlY, -⟩ := Cond.codeWith_spec h2
  cases Option.some.inj (hn9.symm.trans hn)
  obtain ⟨kY, hkY, -⟩ := className_of_methodNamed hn
  have hinitY : kY.init = .initialized := Cond.initialized_spec (findClass_of_methodNamed hn) hkY h3
  have h : At U g.method c below := by rw [hg]; exact X.here
  have hlocals9 : W9 + (maxL + 11) + (headSpec ws rm).room.locals ≤ R.locals := hlocals
  have happ : (headSpec ws rm).appliesLoose y e.platform (U.calling g mk a) = true :=
    Spec.appliesLoose_calling (g := g) h hdg hn hkY hinitY
      (X.room_calling (g := g) (R' := (headSpec ws rm).room) hsize hmY hcY hframes (by rw [hlY]; omega) h4 h5) h1
  obtain ⟨mid, hmid⟩ := h.above
  have hfr : (U.setTop g).frames = (.java g :: mid) ++ below := by rw [State.frames_setTop' g h.top, hmid]; rfl
  obtain ⟨o, s₂, hsteps, -, hend, hq⟩ := Steps.callFree hM p X.admits X.cas X.clock (acts := []) hfr happ hPc trivial
  have hq' : vx_Q Qc XC mc ms free a (U.calling g mk a) o s₂ := hq
  rw [State.frames_setTop' g h.top] at hend
  obtain ⟨g₀, hg0⟩ := Option.isSome_iff_exists.mp h.top
  obtain ⟨r, hr⟩ := State.topJava?_eq_some.mp hg0
  have hr' : (({ U with heap := s₂.heap, slotsUsed := s₂.slotsUsed } : State).setVm s₂.vm).frames = .java g₀ :: r := hr
  rcases hq' with ⟨hqc, L, hfe, hL⟩ | ⟨q, rfl, E, ce, L, hx, hce, hcv, hcl, hW₂, hsm, hL⟩
  · obtain ⟨⟨v, rfl⟩, hW₂, e2, q2, q3, q4, q5, q6⟩ := id hfe
    have e3 : s₂ = ({ (U.calling g mk a).setFrames s₂.frames with heap := s₂.heap, slotsUsed := s₂.slotsUsed } : State).setVm s₂.vm := by
      have : s₂ = ({ s₂ with vm := (U.calling g mk a).vm } : State).setVm s₂.vm := rfl
      rw [e2] at this
      exact this
    obtain ⟨c₂, i₂, len₂, hc₂, hd₂, hf₂⟩ := hend
    have hW' : U.WarmedH s₂.vm := hW₂
    have hcc : c₂ = c := by
      have h1 : s₂.code? g.method = U.code? g.method := by
        rw [State.code?_eq, State.code?_eq, hW'.alike.method?]
      exact Option.some.inj (hc₂.symm.trans (h1.trans h.code))
    subst hcc
    have hlen : len₂ = len := by rw [hdg] at hd₂; cases hd₂; rfl
    subst hlen
    have hs₂ : s₂ = (({ U with heap := s₂.heap, slotsUsed := s₂.slotsUsed } : State).setVm s₂.vm).setTop { g with pc := g.pc + len₂, stack := v.toList ++ g.stack } := by
      refine e3.trans ?_
      rw [hf₂, State.calling_eq h.top, State.setFrames_setFrames, State.setTop_of_frames _ hr', hr]
      rfl
    have hsame : U.sameButNew ({ U with heap := s₂.heap, slotsUsed := s₂.slotsUsed } : State) L mc ms := by
      refine ⟨?_, q2, q3, q4, q5, q6⟩
      obtain ⟨t, ht, -⟩ := State.frames_cons hr
      show ({ U with heap := s₂.heap, slotsUsed := s₂.slotsUsed } : State) = { U.setFrames U.frames with heap := s₂.heap, slotsUsed := s₂.slotsUsed }
      rw [State.setFrames_self ht]
    subst hg
    refine Or.inl ⟨v, ⟨(({ U with heap := s₂.heap, slotsUsed := s₂.slotsUsed } : State).setVm s₂.vm), Ls ++ L, c0 + mc, s0 + ms⟩,
      ⟨X.admits, X.cas, X.clock, X.frames, X.room, X.hears, X.method, X.code, (X.here.setHeapUsed s₂.heap s₂.slotsUsed).setVm hW'.alike, X.tail, State.WarmedH.trans X.warmed hW', X.limits, X.bytes, X.same.trans (hsame.setVm s.vm)⟩,
      ⟨g, mk, s₂, L, rfl, rfl, hqc, rfl, hL, rfl, rfl⟩, ?_⟩
    show Steps p.tables e below _ ((({ U with heap := s₂.heap, slotsUsed := s₂.slotsUsed } : State).setVm s₂.vm).setTop { g with pc := g.pc + len₂, stack := v.toList ++ g.stack })
    rw [← hs₂]
    exact hsteps
  · obtain ⟨e2, q2, q3, q4, q5, q6⟩ := id hsm
    have e3 : s₂ = ({ (U.calling g mk a).setFrames s₂.frames with heap := s₂.heap, slotsUsed := s₂.slotsUsed } : State).setVm s₂.vm := by
      have : s₂ = ({ s₂ with vm := (U.calling g mk a).vm } : State).setVm s₂.vm := rfl
      rw [e2] at this
      exact this
    have hf₂ : s₂.frames = .throwing q :: .java g :: U.frames.tail := hend
    have hW' : U.WarmedH s₂.vm := hW₂
    have hs₂ : s₂ = ((({ U with heap := s₂.heap, slotsUsed := s₂.slotsUsed } : State).setVm s₂.vm).setTop g).pushFrame (.throwing q) := by
      refine e3.trans ?_
      rw [hf₂, State.calling_eq h.top, State.setFrames_setFrames, State.pushFrame, State.frames_setTop _ hr', State.setTop_of_frames _ hr', State.setFrames_setFrames, hr]
      rfl
    have hsame : U.sameButNew ({ U with heap := s₂.heap, slotsUsed := s₂.slotsUsed } : State) L mc ms := by
      refine ⟨?_, q2, q3, q4, q5, q6⟩
      obtain ⟨t, ht, -⟩ := State.frames_cons hr
      show ({ U with heap := s₂.heap, slotsUsed := s₂.slotsUsed } : State) = { U.setFrames U.frames with heap := s₂.heap, slotsUsed := s₂.slotsUsed }
      rw [State.setFrames_self ht]
    subst hg
    refine Or.inr ⟨q, ⟨(({ U with heap := s₂.heap, slotsUsed := s₂.slotsUsed } : State).setVm s₂.vm), Ls ++ L, c0 + mc, s0 + ms⟩,
      ⟨X.admits, X.cas, X.clock, X.frames, X.room, X.hears, X.method, X.code, (X.here.setHeapUsed s₂.heap s₂.slotsUsed).setVm hW'.alike, X.tail, State.WarmedH.trans X.warmed hW', X.limits, X.bytes, X.same.trans (hsame.setVm s.vm)⟩,
      ⟨g, mk, s₂, L, E, ce, rfl, rfl, hx, hce, hcv, hcl, rfl, hL, rfl, rfl⟩, ?_⟩
    show Steps p.tables e below _ (((({ U with heap := s₂.heap, slotsUsed := s₂.slotsUsed } : State).setVm s₂.vm).setTop g).pushFrame (.throwing q))
    rw [← hs₂]
    exact hsteps
end
variable {p : Program} {l : Launch} {e : Env} {R : Room} {s : State} {m : MethodId} {args : Array Value} {below : List Frame} {meth : Method} {c : Code} {T : State} {H : Heap} {locs : List Loc} {cells slots : Nat}
theorem vx_callVX (X : Stand p l e R s m args below meth c T locs cells slots) (hexec : p.tables.exec = Jvm.exec) {own C : String} {index : Nat} {y : MethodName} {bytes : ByteArray} {maxL : Nat} {ret : Option FieldType} {hh : List (Nat × Nat × Nat × Nat)}
    (hown : s.vm.findClass own = some m.cls) (hlink : (Cond.methodLink own index y).before args s = true) (hinst : (Cond.instanceMethod y).before args s = true) (hsel : (Cond.selects C y y).before args s = true)
    (hcode : (Cond.codeWith y bytes maxL ret hh).before args s = true) (hy : y.cls ≠ "java/lang/invoke/MethodHandle" ∧ y.cls ≠ "java/lang/invoke/VarHandle")
    {W9 : Nat} {Pre : Pt → Array Value → Prop} {Post : Pt → Array Value → Option Value → Pt → Prop} {PostX : Pt → Array Value → Addr → Pt → Prop} (hK : vx_Back l R p e below s args y 3 W9 Pre Post PostX)
    {b : Addr} {cellB : Cell} (hcell : T.heap[b]? = some cellB) (hobj : cellB.vm.isStatics = false) (hcls : s.vm.findClass C = some cellB.cls)
    {g : JFrame} (hg : g.method = m) (hsize : g.locals.size = c.maxLocals) {argsL rest : List Value} (hlen : ∀ sig, parseMethodDescriptor y.desc = some sig → argsL.length = sig.parameters.length)
    (hstack : g.stack = argsL.reverse ++ .ref b :: rest) (hW : 2 * g.monitorRoom + (rest.map fun v => v.category).sum ≤ W9) (hdg : decode c.code g.pc = .ok (.invokevirtual index, 3))
    (hpre : ∀ vm₁, s.WarmedH vm₁ → Pre ⟨T.setVm vm₁, locs, cells, slots⟩ (Value.ref b :: argsL).toArray) :
    (∃ (v : Option Value) (vm₁ : Vm) (B : Pt), s.WarmedH vm₁ ∧ Stand p l e R s m args below meth c B.U B.locs B.cells B.slots ∧ Post ⟨T.setVm vm₁, locs, cells, slots⟩ (Value.ref b :: argsL).toArray v B ∧
      ∀ target, Steps p.tables e below (B.U.setTop { g with pc := g.pc + 3, stack := v.toList ++ rest }) target → Steps p.tables e below (T.setTop g) target) ∨
    (∃ (q : Addr) (vm₁ : Vm) (B : Pt), s.WarmedH vm₁ ∧ Stand p l e R s m args below meth c B.U B.locs B.cells B.slots ∧ PostX ⟨T.setVm vm₁, locs, cells, slots⟩ (Value.ref b :: argsL).toArray q B ∧
      Steps p.tables e below (T.setTop g) ((B.U.setTop { g with stack := rest }).pushFrame (.throwing q))) := by
  obtain ⟨mk, methM, hnamed, hmethM, hstM, habM⟩ := Cond.instanceMethod_spec hinst
  obtain ⟨m8, methM', cM, hn8, hmethM', -, -, -, -, -, -, hsigM⟩ := Cond.codeWith_spec hcode
  cases Option.some.inj (hn8.symm.trans hnamed)
  cases hmethM.symm.trans hmethM'
  obtain ⟨c2, r2, m2, q1, q2, q3, q4, kP, hkP, hkPi⟩ := Cond.selects_spec hsel
  cases hcls.symm.trans q1
  cases (State.methodFound?_of_named hnamed hy).symm.trans q2
  cases hnamed.symm.trans q3
  have hselP : selectMethod e.platform s.vm cellB.cls mk = .method mk := by rw [Launch.admits_selectMethod X.admits]; exact q4
  obtain ⟨vm₁, X₁, hstep₁⟩ := X.invokevirtual hexec hown hlink hnamed hmethM hstM hkP hkPi hy (a := b) (cell := cellB) hcell
    (fun z h => by rw [h] at hobj; cases hobj) hselP hmethM habM hkP hkPi (g := g) hg (argsL := argsL) (rest := rest) (hlen _ hsigM) hstack hdg
  rcases hK m meth c ⟨T.setVm vm₁, locs, cells, slots⟩ { g with stack := rest } (.invokevirtual index) mk (Value.ref b :: argsL).toArray X₁ hg hsize hdg hW (X₁.named hnamed) (hpre vm₁ X₁.warmed) with ⟨v, B, X', hpost, hsteps⟩ | ⟨q, B, X', hpost, hsteps⟩
  · exact Or.inl ⟨v, vm₁, B, X₁.warmed, X', hpost, fun target h => hstep₁ _ fun acts => by rw [doInvoke_state]; exact hsteps.trans h⟩
  · exact Or.inr ⟨q, vm₁, B, X₁.warmed, X', hpost, hstep₁ _ fun acts => by rw [doInvoke_state]; exact hsteps⟩
theorem vx_callSX (X : Stand p l e R s m args below meth c T locs cells slots) (hexec : p.tables.exec = Jvm.exec) {own : String} {index : Nat} {y : MethodName} {bytes : ByteArray} {maxL : Nat} {ret : Option FieldType} {hh : List (Nat × Nat × Nat × Nat)}
    (hown : s.vm.findClass own = some m.cls) (hlink : (Cond.methodLink own index y).before args s = true) (hstat : (Cond.static y).before args s = true) (hinit : (Cond.initialized y.cls).before args s = true)
    (hcode : (Cond.codeWith y bytes maxL ret hh).before args s = true) (hy : y.cls ≠ "java/lang/invoke/MethodHandle" ∧ y.cls ≠ "java/lang/invoke/VarHandle")
    {W9 : Nat} {Pre : Pt → Array Value → Prop} {Post : Pt → Array Value → Option Value → Pt → Prop} {PostX : Pt → Array Value → Addr → Pt → Prop} (hK : vx_Back l R p e below s args y 3 W9 Pre Post PostX)
    {g : JFrame} (hg : g.method = m) (hsize : g.locals.size = c.maxLocals) {argsL rest : List Value} (hlen : ∀ sig, parseMethodDescriptor y.desc = some sig → argsL.length = sig.parameters.length)
    (hstack : g.stack = argsL.reverse ++ rest) (hW : 2 * g.monitorRoom + (rest.map fun v => v.category).sum ≤ W9) (hdg : decode c.code g.pc = .ok (.invokestatic index, 3))
    (hpre : ∀ vm₁, s.WarmedH vm₁ → Pre ⟨T.setVm vm₁, locs, cells, slots⟩ argsL.toArray) :
    (∃ (v : Option Value) (vm₁ : Vm) (B : Pt), s.WarmedH vm₁ ∧ Stand p l e R s m args below meth c B.U B.locs B.cells B.slots ∧ Post ⟨T.setVm vm₁, locs, cells, slots⟩ argsL.toArray v B ∧
      ∀ target, Steps p.tables e below (B.U.setTop { g with pc := g.pc + 3, stack := v.toList ++ rest }) target → Steps p.tables e below (T.setTop g) target) ∨
    (∃ (q : Addr) (vm₁ : Vm) (B : Pt), s.WarmedH vm₁ ∧ Stand p l e R s m args below meth c B.U B.locs B.cells B.slots ∧ PostX ⟨T.setVm vm₁, locs, cells, slots⟩ argsL.toArray q B ∧
      Steps p.tables e below (T.setTop g) ((B.U.setTop { g with stack := rest }).pushFrame (.throwing q))) := by
  obtain ⟨mk, methM, cM, hnamed, hmethM, -, -, -, -, -, -, hsigM⟩ := Cond.codeWith_spec hcode
  have hstatic : methM.isStatic = true := Cond.static_spec hnamed hmethM hstat
  obtain ⟨kP, hkP, -⟩ := className_of_methodNamed hnamed
  have hinitP : kP.init = .initialized := Cond.initialized_spec (findClass_of_methodNamed hnamed) hkP hinit
  obtain ⟨vm₁, X₁, hstep₁⟩ := X.invokestatic hexec hown hlink hnamed hmethM hstatic hkP hinitP hy (g := g) hg (argsL := argsL) (rest := rest) (hlen _ hsigM) hstack hdg
  rcases hK m meth c ⟨T.setVm vm₁, locs, cells, slots⟩ { g with stack := rest } (.invokestatic index) mk argsL.toArray X₁ hg hsize hdg hW (X₁.named hnamed) (hpre vm₁ X₁.warmed) with ⟨v, B, X', hpost, hsteps⟩ | ⟨q, B, X', hpost, hsteps⟩
  · exact Or.inl ⟨v, vm₁, B, X₁.warmed, X', hpost, fun target h => hstep₁ _ fun acts => by rw [doInvoke_state]; exact hsteps.trans h⟩
  · exact Or.inr ⟨q, vm₁, B, X₁.warmed, X', hpost, hstep₁ _ fun acts => by rw [doInvoke_state]; exact hsteps⟩
theorem vx_callVW (X : Stand p l e R s m args below meth c T locs cells slots) (hexec : p.tables.exec = Jvm.exec) {own C : String} {index : Nat} {y : MethodName} {bytes : ByteArray} {maxL : Nat} {ret : Option FieldType} {hh : List (Nat × Nat × Nat × Nat)}
    (hown : s.vm.findClass own = some m.cls) (hlink : (Cond.methodLink own index y).before args s = true) (hinst : (Cond.instanceMethod y).before args s = true) (hsel : (Cond.selects C y y).before args s = true)
    (hcode : (Cond.codeWith y bytes maxL ret hh).before args s = true) (hy : y.cls ≠ "java/lang/invoke/MethodHandle" ∧ y.cls ≠ "java/lang/invoke/VarHandle")
    {W9 : Nat} {Pre : Pt → Array Value → Prop} {Post : Pt → Array Value → Option Value → Pt → Prop} (hK : Back l R p e below s args y 3 W9 Pre Post)
    {b : Addr} {cellB : Cell} (hcell : T.heap[b]? = some cellB) (hobj : cellB.vm.isStatics = false) (hcls : s.vm.findClass C = some cellB.cls)
    {g : JFrame} (hg : g.method = m) (hsize : g.locals.size = c.maxLocals) {argsL rest : List Value} (hlen : ∀ sig, parseMethodDescriptor y.desc = some sig → argsL.length = sig.parameters.length)
    (hstack : g.stack = argsL.reverse ++ .ref b :: rest) (hW : 2 * g.monitorRoom + (rest.map fun v => v.category).sum ≤ W9) (hdg : decode c.code g.pc = .ok (.invokevirtual index, 3))
    (hpre : ∀ vm₁, s.WarmedH vm₁ → Pre ⟨T.setVm vm₁, locs, cells, slots⟩ (Value.ref b :: argsL).toArray) :
    ∃ (v : Option Value) (vm₁ : Vm) (B : Pt), s.WarmedH vm₁ ∧ Stand p l e R s m args below meth c B.U B.locs B.cells B.slots ∧ Post ⟨T.setVm vm₁, locs, cells, slots⟩ (Value.ref b :: argsL).toArray v B ∧
      ∀ target, Steps p.tables e below (B.U.setTop { g with pc := g.pc + 3, stack := v.toList ++ rest }) target → Steps p.tables e below (T.setTop g) target := by
  obtain ⟨mk, methM, hnamed, hmethM, hstM, habM⟩ := Cond.instanceMethod_spec hinst
  obtain ⟨m8, methM', cM, hn8, hmethM', -, -, -, -, -, -, hsigM⟩ := Cond.codeWith_spec hcode
  cases Option.some.inj (hn8.symm.trans hnamed)
  cases hmethM.symm.trans hmethM'
  obtain ⟨c2, r2, m2, q1, q2, q3, q4, kP, hkP, hkPi⟩ := Cond.selects_spec hsel
  cases hcls.symm.trans q1
  cases (State.methodFound?_of_named hnamed hy).symm.trans q2
  cases hnamed.symm.trans q3
  have hselP : selectMethod e.platform s.vm cellB.cls mk = .method mk := by rw [Launch.admits_selectMethod X.admits]; exact q4
  obtain ⟨vm₁, X₁, hstep₁⟩ := X.invokevirtual hexec hown hlink hnamed hmethM hstM hkP hkPi hy (a := b) (cell := cellB) hcell
    (fun z h => by rw [h] at hobj; cases hobj) hselP hmethM habM hkP hkPi (g := g) hg (argsL := argsL) (rest := rest) (hlen _ hsigM) hstack hdg
  obtain ⟨v, B, X', hpost, hsteps⟩ := hK m meth c ⟨T.setVm vm₁, locs, cells, slots⟩ { g with stack := rest } (.invokevirtual index) mk (Value.ref b :: argsL).toArray X₁ hg hsize hdg hW (X₁.named hnamed) (hpre vm₁ X₁.warmed)
  exact ⟨v, vm₁, B, X₁.warmed, X', hpost, fun target h => hstep₁ _ fun acts => by rw [doInvoke_state]; exact hsteps.trans h⟩
abbrev vx_CVW (R : Room) (s : State) (args : Array Value) (own C : String) (index : Nat) (y : MethodName) (bytes : ByteArray) (maxL : Nat) (ret : Option FieldType) (hh : List (Nat × Nat × Nat × Nat)) (ws : List Cond) (rm : Room) (mc ms n : Nat) : Prop :=
  (rm.cells = mc ∧ rm.slots = ms ∧ rm.frames + 1 ≤ R.frames ∧ 8 + (maxL + 11) + rm.locals ≤ R.locals ∧ (∀ w ∈ ws, ∀ (a' : Array Value) (U : State), s.WarmedH U.vm → w.before a' U = true) ∧ Cond.codeWith y bytes maxL ret hh ∈ ws) ∧
  (Cond.codeWith y bytes maxL ret hh).before args s = true ∧ (Cond.initialized y.cls).before args s = true ∧ (y.cls ≠ "java/lang/invoke/MethodHandle" ∧ y.cls ≠ "java/lang/invoke/VarHandle") ∧
  (∀ sig, parseMethodDescriptor y.desc = some sig → n = sig.parameters.length) ∧ (Cond.methodLink own index y).before args s = true ∧ (Cond.instanceMethod y).before args s = true ∧ (Cond.selects C y y).before args s = true
theorem vx_cwVW {own C : String} {index maxL mc ms : Nat} {y : MethodName} {bytes : ByteArray} {ret : Option FieldType} {hh : List (Nat × Nat × Nat × Nat)} {Ts ws ws' : List Cond} {rm : Room} (n : Nat) (ht : ∀ w ∈ Ts, w.before args s = true) (hT : GoodIn Ts (wsV own index C y ws)) (hw : ws = Cond.codeWith y bytes maxL ret hh :: ws') (hrc : rm.cells = mc) (hrs : rm.slots = ms)
    (hd : y.cls = C ∧ y.cls ≠ "java/lang/invoke/MethodHandle" ∧ y.cls ≠ "java/lang/invoke/VarHandle" ∧ (parseMethodDescriptor y.desc).map (fun d => d.parameters.length) = some n) (hR : rm.frames + 1 ≤ R.frames ∧ 8 + (maxL + 11) + rm.locals ≤ R.locals) :
    vx_CVW R s args own C index y bytes maxL ret hh ws rm mc ms n := by
  obtain ⟨hC, hd⟩ := hd
  subst hC
  have ok : ∀ w ∈ wsV own index y.cls y ws, w.before args s = true := fun w h => ht w (hT w h).1
  have hG : GoodIn Ts ws := fun w h => hT w (by unfold wsV; exact List.mem_append_right _ h)
  have hc : Cond.codeWith y bytes maxL ret hh ∈ ws := by rw [hw]; exact List.mem_cons_self
  refine ⟨⟨hrc, hrs, hR.1, hR.2, pay_in ht hG, hc⟩, ht _ (hG _ hc).1, ok _ (by simp [wsV]), ⟨hd.1, hd.2.1⟩, fun sig h => ?_, ok _ (by simp [wsV]), ok _ (by simp [wsV]), ok _ (by simp [wsV])⟩
  have h2 := hd.2.2
  rw [h] at h2
  exact (Option.some.inj h2).symm
theorem vx_runVW {y : MethodName} {bytes cc : ByteArray} {maxL nL mc ms n index : Nat} {ret : Option FieldType} {hh : List (Nat × Nat × Nat × Nat)} {ws : List Cond} {rm : Room} {Pc : Array Value → State → Prop} {Qc : Array Value → State → Outcome → State → Prop} {free : Addr → Prop} {Ts : List Cond} {own C : String} {b : Addr} {As rest : List Value} {g : JFrame}
    (S : CallFix p m c cc nL s args Ts own) (hM : Met l y ws rm Pc Qc mc ms free) (cw : vx_CVW R s args own C index y bytes maxL ret hh ws rm mc ms n) (hp : PreV s H C b Pc As)
    (hg : g.method = m) (hn : As.length = n) (hsize : g.locals.size = nL) (hstack : g.stack = As.reverse ++ .ref b :: rest) (hW : 2 * g.monitorRoom + (rest.map fun v => v.category).sum ≤ 8) (hdg : decode cc g.pc = .ok (.invokevirtual index, 3)) (hf : cells + mc ≤ R.cells ∧ slots + ms ≤ R.slots) :
    va_Run p l e R s m args below meth c H locs cells slots mc ms g rest (Qc (Value.ref b :: As).toArray) free := by
  obtain ⟨⟨hrc, hrs, hfr, hlo, hws, hcw⟩, hcode, hini, hy, hlen, hl, hin, hse⟩ := cw
  have hK : Back l R p e below s args y 3 8 (PreOf R mc ms Pc) (PostOf Qc mc ms free) := va_backW (hh := hh) (bytes := bytes) (maxL := maxL) (ret := ret) hM hp.1 hrc hrs hfr hlo hws hcw (fun a' U hW => word_at hW (Or.inl (by first | rfl | simp [Cond.onTables, Cond.keeps, Cond.steady])) hini)
  obtain ⟨hx, hb, hml, ho, -⟩ := S
  obtain ⟨-, ⟨cellB, hcB, hoB, hclB⟩, hPc⟩ := hp
  intro T hT X
  obtain ⟨v, vm₁, ⟨U', l2, c2, s2⟩, hW₁, X', ⟨g', mk, t, L, e1, e2, hq, h1, hL, h2, h3⟩, st⟩ := vx_callVW X hx (C := C) (hh := hh) (bytes := bytes) (maxL := maxL) (ret := ret) ho hl hin hse hcode hy hK (by rw [hT]; exact hcB) hoB hclB hg (hsize.trans hml.symm) (argsL := As) (rest := rest) (fun sig h => hn.trans (hlen sig h)) hstack hW (by rw [hb]; exact hdg)
    (fun vm₁ hW₁ => ⟨hf.1, hf.2, hPc (T.setVm vm₁) hT hW₁⟩)
  dsimp only [Pt.U, Pt.locs, Pt.cells, Pt.slots] at X' e1 e2 h1 h2 h3 st
  subst h1; subst h2; subst h3
  exact ⟨v, (T.setVm vm₁).calling g' mk (Value.ref b :: As).toArray, t, U', L, hT, X', hL, e1, e2, hq, st⟩
section
variable {y : MethodName} {bytes cc : ByteArray} {maxL nL mc ms n index : Nat} {ret : Option FieldType} {ws : List Cond} {rm : Room} {Pc : Array Value → State → Prop} {Qc : Array Value → State → Outcome → State → Prop} {XC : String → State → State → Prop} {free : Addr → Prop} {Ts : List Cond} {own C : String} {b : Addr} {As rest : List Value} {g : JFrame}
theorem vx_runVX {hh : List (Nat × Nat × Nat × Nat)} (S : CallFix p m c cc nL s args Ts own) (hM : vx_Met l y ws rm Pc Qc XC mc ms free) (cw : vx_CVW R s args own C index y bytes maxL ret hh ws rm mc ms n) (hp : PreV s H C b Pc As)
    (hg : g.method = m) (hn : As.length = n) (hsize : g.locals.size = nL) (hstack : g.stack = As.reverse ++ .ref b :: rest) (hW : 2 * g.monitorRoom + (rest.map fun v => v.category).sum ≤ 8) (hdg : decode cc g.pc = .ok (.invokevirtual index, 3)) (hf : cells + mc ≤ R.cells ∧ slots + ms ≤ R.slots) :
    vx_Run p l e R s m args below meth c H locs cells slots mc ms g rest (Qc (Value.ref b :: As).toArray) XC free := by
  obtain ⟨⟨hrc, hrs, hfr, hlo, hws, hcw⟩, hcode, hini, hy, hlen, hl, hin, hse⟩ := cw
  have hK : vx_Back l R p e below s args y 3 8 (PreOf R mc ms Pc) (PostOf Qc mc ms free) (vx_Post XC mc ms free) := vx_backW (hh := hh) (bytes := bytes) (maxL := maxL) (ret := ret) hM hp.1 hrc hrs hfr hlo hws hcw (fun a' U hW => word_at hW (Or.inl (by first | rfl | simp [Cond.onTables, Cond.keeps, Cond.steady])) hini)
  obtain ⟨hx, hb, hml, ho, -⟩ := S
  obtain ⟨-, ⟨cellB, hcB, hoB, hclB⟩, hPc⟩ := hp
  intro T hT X
  rcases vx_callVX X hx (C := C) (hh := hh) (bytes := bytes) (maxL := maxL) (ret := ret) ho hl hin hse hcode hy hK (by rw [hT]; exact hcB) hoB hclB hg (hsize.trans hml.symm) (argsL := As) (rest := rest) (fun sig h => hn.trans (hlen sig h)) hstack hW (by rw [hb]; exact hdg)
    (fun vm₁ hW₁ => ⟨hf.1, hf.2, hPc (T.setVm vm₁) hT hW₁⟩) with ⟨v, vm₁, ⟨U', l2, c2, s2⟩, hW₁, X', ⟨g', mk, t, L, e1, e2, hq, h1, hL, h2, h3⟩, st⟩ | ⟨q, vm₁, ⟨U', l2, c2, s2⟩, hW₁, X', ⟨g', mk, t, L, E, ce, e1, e2, hq, hce, hcv, hcl, h1, hL, h2, h3⟩, st⟩
  · dsimp only [Pt.U, Pt.locs, Pt.cells, Pt.slots] at X' e1 e2 h1 h2 h3 st
    subst h1; subst h2; subst h3
    exact Or.inl ⟨v, (T.setVm vm₁).calling g' mk (Value.ref b :: As).toArray, t, U', L, hT, X', hL, e1, e2, hq, st⟩
  · dsimp only [Pt.U, Pt.locs, Pt.cells, Pt.slots] at X' e1 e2 h1 h2 h3 st hcl
    subst h1; subst h2; subst h3
    exact Or.inr ⟨q, (T.setVm vm₁).calling g' mk (Value.ref b :: As).toArray, t, U', L, E, ce, hT, X', hL, e1, e2, hq, hce, hcv, vx_cls hW₁ hcl, st⟩
theorem vx_runSX {hh : List (Nat × Nat × Nat × Nat)} (S : CallFix p m c cc nL s args Ts own) (hM : vx_Met l y ws rm Pc Qc XC mc ms free) (cw : vx_CSW R s args own index y bytes maxL ret hh ws rm mc ms n) (hp : PreS s H Pc As)
    (hg : g.method = m) (hn : As.length = n) (hsize : g.locals.size = nL) (hstack : g.stack = As.reverse ++ rest) (hW : 2 * g.monitorRoom + (rest.map fun v => v.category).sum ≤ 8) (hdg : decode cc g.pc = .ok (.invokestatic index, 3)) (hf : cells + mc ≤ R.cells ∧ slots + ms ≤ R.slots) :
    vx_Run p l e R s m args below meth c H locs cells slots mc ms g rest (Qc As.toArray) XC free := by
  obtain ⟨⟨hrc, hrs, hfr, hlo, hws, hcw⟩, hcode, hini, hy, hlen, hl, hstt⟩ := cw
  have hK : vx_Back l R p e below s args y 3 8 (PreOf R mc ms Pc) (PostOf Qc mc ms free) (vx_Post XC mc ms free) := vx_backW (hh := hh) (bytes := bytes) (maxL := maxL) (ret := ret) hM hp.1 hrc hrs hfr hlo hws hcw (fun a' U hW => word_at hW (Or.inl (by first | rfl | simp [Cond.onTables, Cond.keeps, Cond.steady])) hini)
  obtain ⟨hx, hb, hml, ho, -⟩ := S
  intro T hT X
  rcases vx_callSX X hx (hh := hh) (bytes := bytes) (maxL := maxL) (ret := ret) ho hl hstt hini hcode hy hK hg (hsize.trans hml.symm) (argsL := As) (rest := rest) (fun sig h => hn.trans (hlen sig h)) hstack hW (by rw [hb]; exact hdg)
    (fun vm₁ hW₁ => ⟨hf.1, hf.2, hp.2 (T.setVm vm₁) hT hW₁⟩) with ⟨v, vm₁, ⟨U', l2, c2, s2⟩, hW₁, X', ⟨g', mk, t, L, e1, e2, hq, h1, hL, h2, h3⟩, st⟩ | ⟨q, vm₁, ⟨U', l2, c2, s2⟩, hW₁, X', ⟨g', mk, t, L, E, ce, e1, e2, hq, hce, hcv, hcl, h1, hL, h2, h3⟩, st⟩
  · dsimp only [Pt.U, Pt.locs, Pt.cells, Pt.slots] at X' e1 e2 h1 h2 h3 st
    subst h1; subst h2; subst h3
    exact Or.inl ⟨v, (T.setVm vm₁).calling g' mk As.toArray, t, U', L, hT, X', hL, e1, e2, hq, st⟩
  · dsimp only [Pt.U, Pt.locs, Pt.cells, Pt.slots] at X' e1 e2 h1 h2 h3 st hcl
    subst h1; subst h2; subst h3
    exact Or.inr ⟨q, (T.setVm vm₁).calling g' mk As.toArray, t, U', L, E, ce, hT, X', hL, e1, e2, hq, hce, hcv, vx_cls hW₁ hcl, st⟩
end
end VXH
theorem vx_ofWH {l : Launch} {y : MethodName} {ws ws' : List Cond} {rm : Room} {Pc : Array Value → State → Prop} {Qc : Array Value → State → Outcome → State → Prop} {XC : String → State → State → Prop} {mc ms : Nat} {free : Addr → Prop} {cc : ByteArray} {maxL : Nat} {ret : Option FieldType} {hh : List (Nat × Nat × Nat × Nat)}
    (hy : plainName y.cls = true) (hw : ws = Cond.codeWith y cc maxL ret hh :: ws')
    (body : ∀ p e s m args below meth c s₁, BodyLoose p l y (headSpec ws rm) cc maxL ret e s m args below meth c s₁ → c.maxLocals = maxL → Pc args s →
      W p l e (headSpec ws rm).room s m args below meth c s.heap [] 0 0 (vx_MQ below Qc XC args s mc ms free) (entryFrame m args maxL)) : vx_Met l y ws rm Pc Qc XC mc ms free := by
  refine MetFree.of_bodyS (code := cc) (maxLocals := maxL) (ret := ret) hy ?_ ?_
  · intro args s m h hn
    obtain ⟨m9, meth, c, hn9, h1, h2, h3, h4, -, h5, h6, -⟩ := Cond.codeWith_spec (atoms_spec (ws := ws) h _ (by rw [hw]; exact List.mem_cons_self))
    cases hn.symm.trans hn9
    exact ⟨meth, c, h1, h2, h3, h4, h5, h6⟩
  · intro p e s m args below meth c s₁ B hml hP _
    have hh0 : s₁.heap = s.heap := by rw [B.state]; rfl
    obtain ⟨t, a1, o, b1, b2, b3⟩ := body p e s m args below meth c s₁ B hml hP s₁ hh0 (Stand.of_body B)
    exact ⟨t, o, a1, b1, b2, b3⟩
/-! ===== END ===== -/
end
section
def R_Fo : String := "LabelRouter$Forest"
def F_Fo : u_T := fun k => match k with
  | 0 => ("LabelRouter$Forest", "network", "LLabelRouter$Network;", true)
  | 1 => ("LabelRouter$Forest", "ways", "LLabelRouter$Ways;", true)
  | 2 => ("LabelRouter$Forest", "places", "[[I", true)
  | 3 => ("LabelRouter$Forest", "sizes", "[[I", true)
  | 4 => ("LabelRouter$Forest", "heavies", "[[I", true)
  | 5 => ("LabelRouter$Forest", "lights", "[[I", true)
  | _ => ("LabelRouter$Forest", "parents", "[I", true)
def t_Fo : Nat → FieldType := fun k => match k with
  | 0 => .object "LabelRouter$Network"
  | 1 => .object "LabelRouter$Ways"
  | 2 => .array (.array .int)
  | 3 => .array (.array .int)
  | 4 => .array (.array .int)
  | 5 => .array (.array .int)
  | _ => .array .int
theorem n_Fo : ∀ a, a < 7 → ∀ b, b < 7 → a ≠ b → (F_Fo a).2.1 ≠ (F_Fo b).2.1 := by decide +kernel
theorem t_Fo_ok : ∀ k, k < 7 → parseFieldDescriptor (F_Fo k).2.2.1 = some (t_Fo k) := by decide +kernel
def R_La : String := "LabelRouter$Landmarks"
def F_La : u_T := fun k => match k with
  | 0 => ("LabelRouter$Landmarks", "network", "LLabelRouter$Network;", true)
  | 1 => ("LabelRouter$Landmarks", "ways", "LLabelRouter$Ways;", true)
  | 2 => ("LabelRouter$Landmarks", "balls", "[J", true)
  | 3 => ("LabelRouter$Landmarks", "clusters", "[J", true)
  | 4 => ("LabelRouter$Landmarks", "own", "[I", true)
  | 5 => ("LabelRouter$Landmarks", "inBalls", "[I", true)
  | _ => ("LabelRouter$Landmarks", "chosen", "J", false)
def t_La : Nat → FieldType := fun k => match k with
  | 0 => .object "LabelRouter$Network"
  | 1 => .object "LabelRouter$Ways"
  | 2 => .array .long
  | 3 => .array .long
  | 4 => .array .int
  | 5 => .array .int
  | _ => .long
theorem n_La : ∀ a, a < 7 → ∀ b, b < 7 → a ≠ b → (F_La a).2.1 ≠ (F_La b).2.1 := by decide +kernel
theorem t_La_ok : ∀ k, k < 7 → parseFieldDescriptor (F_La k).2.2.1 = some (t_La k) := by decide +kernel
def R_Ne : String := "LabelRouter$Network"
def F_Ne : u_T := fun k => match k with
  | 0 => ("LabelRouter$Network", "behind", "[[I", true)
  | 1 => ("LabelRouter$Network", "weights", "[[I", true)
  | _ => ("LabelRouter$Network", "count", "I", false)
def t_Ne : Nat → FieldType := fun k => match k with
  | 0 => .array (.array .int)
  | 1 => .array (.array .int)
  | _ => .int
theorem n_Ne : ∀ a, a < 3 → ∀ b, b < 3 → a ≠ b → (F_Ne a).2.1 ≠ (F_Ne b).2.1 := by decide +kernel
theorem t_Ne_ok : ∀ k, k < 3 → parseFieldDescriptor (F_Ne k).2.2.1 = some (t_Ne k) := by decide +kernel
def R_Pa : String := "LabelRouter$Packets"
def F_Pa : u_T := fun k => match k with
  | 0 => ("LabelRouter$Packets", "at", "[I", true)
  | 1 => ("LabelRouter$Packets", "aims", "[I", true)
  | 2 => ("LabelRouter$Packets", "sums", "[I", true)
  | 3 => ("LabelRouter$Packets", "next", "I", false)
  | _ => ("LabelRouter$Packets", "count", "I", false)
def t_Pa : Nat → FieldType := fun k => match k with
  | 0 => .array .int
  | 1 => .array .int
  | 2 => .array .int
  | 3 => .int
  | _ => .int
theorem n_Pa : ∀ a, a < 5 → ∀ b, b < 5 → a ≠ b → (F_Pa a).2.1 ≠ (F_Pa b).2.1 := by decide +kernel
theorem t_Pa_ok : ∀ k, k < 5 → parseFieldDescriptor (F_Pa k).2.2.1 = some (t_Pa k) := by decide +kernel
def R_Sc : String := "LabelRouter$Scheme"
def F_Sc : u_T := fun k => match k with
  | 0 => ("LabelRouter$Scheme", "network", "LLabelRouter$Network;", true)
  | 1 => ("LabelRouter$Scheme", "ways", "LLabelRouter$Ways;", true)
  | 2 => ("LabelRouter$Scheme", "landmarks", "LLabelRouter$Landmarks;", true)
  | 3 => ("LabelRouter$Scheme", "forest", "LLabelRouter$Forest;", true)
  | _ => ("LabelRouter$Scheme", "labels", "[[I", true)
def t_Sc : Nat → FieldType := fun k => match k with
  | 0 => .object "LabelRouter$Network"
  | 1 => .object "LabelRouter$Ways"
  | 2 => .object "LabelRouter$Landmarks"
  | 3 => .object "LabelRouter$Forest"
  | _ => .array (.array .int)
theorem n_Sc : ∀ a, a < 5 → ∀ b, b < 5 → a ≠ b → (F_Sc a).2.1 ≠ (F_Sc b).2.1 := by decide +kernel
theorem t_Sc_ok : ∀ k, k < 5 → parseFieldDescriptor (F_Sc k).2.2.1 = some (t_Sc k) := by decide +kernel
def R_Wa : String := "LabelRouter$Ways"
def F_Wa : u_T := fun k => match k with
  | 0 => ("LabelRouter$Ways", "network", "LLabelRouter$Network;", true)
  | 1 => ("LabelRouter$Ways", "far", "[[I", true)
  | _ => ("LabelRouter$Ways", "order", "[[I", true)
def t_Wa : Nat → FieldType := fun k => match k with
  | 0 => .object "LabelRouter$Network"
  | 1 => .array (.array .int)
  | _ => .array (.array .int)
theorem n_Wa : ∀ a, a < 3 → ∀ b, b < 3 → a ≠ b → (F_Wa a).2.1 ≠ (F_Wa b).2.1 := by decide +kernel
theorem t_Wa_ok : ∀ k, k < 3 → parseFieldDescriptor (F_Wa k).2.2.1 = some (t_Wa k) := by decide +kernel
def R_LR : String := "LabelRouter"
def F_LR : u_T := fun k => match k with
  | 0 => ("LabelRouter", "network", "LLabelRouter$Network;", true)
  | 1 => ("LabelRouter", "scheme", "LLabelRouter$Scheme;", true)
  | 2 => ("LabelRouter", "packets", "LLabelRouter$Packets;", true)
  | 3 => ("LabelRouter", "nowFar", "[I", true)
  | 4 => ("LabelRouter", "nowOrder", "[I", true)
  | _ => ("LabelRouter", "built", "Z", false)
def t_LR : Nat → FieldType := fun k => match k with
  | 0 => .object "LabelRouter$Network"
  | 1 => .object "LabelRouter$Scheme"
  | 2 => .object "LabelRouter$Packets"
  | 3 => .array .int
  | 4 => .array .int
  | _ => .boolean
theorem n_LR : ∀ a, a < 6 → ∀ b, b < 6 → a ≠ b → (F_LR a).2.1 ≠ (F_LR b).2.1 := by decide +kernel
theorem t_LR_ok : ∀ k, k < 6 → parseFieldDescriptor (F_LR k).2.2.1 = some (t_LR k) := by decide +kernel
def R_Mo : String := "LabelRouterModel"
def F_Mo : u_T := fun k => match k with
  | 0 => ("LabelRouterModel", "thrown", "I", false)
  | 1 => ("LabelRouterModel", "n", "I", false)
  | 2 => ("LabelRouterModel", "weights", "[I", true)
  | 3 => ("LabelRouterModel", "ports", "[I", true)
  | 4 => ("LabelRouterModel", "oldWeights", "[I", true)
  | 5 => ("LabelRouterModel", "oldPorts", "[I", true)
  | 6 => ("LabelRouterModel", "now", "[I", true)
  | 7 => ("LabelRouterModel", "then", "[I", true)
  | 8 => ("LabelRouterModel", "built", "Z", false)
  | 9 => ("LabelRouterModel", "isMark", "[Z", true)
  | 10 => ("LabelRouterModel", "ball", "[Z", true)
  | 11 => ("LabelRouterModel", "served", "[Z", true)
  | 12 => ("LabelRouterModel", "own", "[I", true)
  | 13 => ("LabelRouterModel", "parents", "[I", true)
  | 14 => ("LabelRouterModel", "sent", "I", false)
  | 15 => ("LabelRouterModel", "packets", "I", false)
  | 16 => ("LabelRouterModel", "places", "[I", true)
  | 17 => ("LabelRouterModel", "goals", "[I", true)
  | _ => ("LabelRouterModel", "paid", "[I", true)
def t_Mo : Nat → FieldType := fun k => match k with
  | 0 => .int
  | 1 => .int
  | 2 => .array .int
  | 3 => .array .int
  | 4 => .array .int
  | 5 => .array .int
  | 6 => .array .int
  | 7 => .array .int
  | 8 => .boolean
  | 9 => .array .boolean
  | 10 => .array .boolean
  | 11 => .array .boolean
  | 12 => .array .int
  | 13 => .array .int
  | 14 => .int
  | 15 => .int
  | 16 => .array .int
  | 17 => .array .int
  | _ => .array .int
theorem n_Mo : ∀ a, a < 19 → ∀ b, b < 19 → a ≠ b → (F_Mo a).2.1 ≠ (F_Mo b).2.1 := by decide +kernel
theorem t_Mo_ok : ∀ k, k < 19 → parseFieldDescriptor (F_Mo k).2.2.1 = some (t_Mo k) := by decide +kernel
def R_Lw : String := "LabelRouterLaw"
def R_Ar : String := "java/util/Arrays"
def R_Lo : String := "java/lang/Long"
abbrev qCl : List vw_C := [(R_Fo, F_Fo, 7), (R_La, F_La, 7), (R_Ne, F_Ne, 3), (R_Pa, F_Pa, 5), (R_Sc, F_Sc, 5), (R_Wa, F_Wa, 3), (R_LR, F_LR, 6), (R_Mo, F_Mo, 19)]
abbrev c_LR_init : ByteArray := prog_1_method_1_code
def y_LR_init : MethodName := ⟨"LabelRouter", "<init>", "()V"⟩
abbrev c_Ne_init : ByteArray := prog_4_method_1_code
def y_Ne_init : MethodName := ⟨"LabelRouter$Network", "<init>", "()V"⟩
abbrev c_Ne_clear : ByteArray := prog_4_method_2_code
def y_Ne_clear : MethodName := ⟨"LabelRouter$Network", "clear", "(I)V"⟩
abbrev c_Ar_fill : ByteArray := prog_20_method_103_code
def y_Ar_fill : MethodName := ⟨"java/util/Arrays", "fill", "([II)V"⟩
abbrev c_Sc_init : ByteArray := prog_6_method_1_code
def y_Sc_init : MethodName := ⟨"LabelRouter$Scheme", "<init>", "()V"⟩
abbrev c_Wa_init : ByteArray := prog_7_method_1_code
def y_Wa_init : MethodName := ⟨"LabelRouter$Ways", "<init>", "(LLabelRouter$Network;)V"⟩
abbrev c_La_init : ByteArray := prog_3_method_1_code
def y_La_init : MethodName := ⟨"LabelRouter$Landmarks", "<init>", "(LLabelRouter$Network;LLabelRouter$Ways;)V"⟩
abbrev c_Fo_init : ByteArray := prog_2_method_1_code
def y_Fo_init : MethodName := ⟨"LabelRouter$Forest", "<init>", "(LLabelRouter$Network;LLabelRouter$Ways;)V"⟩
abbrev c_Pa_init : ByteArray := prog_5_method_1_code
def y_Pa_init : MethodName := ⟨"LabelRouter$Packets", "<init>", "()V"⟩
abbrev c_Lw_nodes : ByteArray := method_3_code
def y_Lw_nodes : MethodName := ⟨"LabelRouterLaw", "nodes", "(LLabelRouter;I)I"⟩
abbrev c_LR_nodes : ByteArray := prog_1_method_2_code
def y_LR_nodes : MethodName := ⟨"LabelRouter", "nodes", "(I)V"⟩
abbrev c_Pa_clear : ByteArray := prog_5_method_2_code
def y_Pa_clear : MethodName := ⟨"LabelRouter$Packets", "clear", "()V"⟩
abbrev c_Lw_edge : ByteArray := method_4_code
def y_Lw_edge : MethodName := ⟨"LabelRouterLaw", "edge", "(LLabelRouter;III[J)I"⟩
abbrev c_LR_edge : ByteArray := prog_1_method_3_code
def y_LR_edge : MethodName := ⟨"LabelRouter", "edge", "(III)I"⟩
abbrev c_LR_needNode : ByteArray := prog_1_method_17_code
def y_LR_needNode : MethodName := ⟨"LabelRouter", "needNode", "(I)V"⟩
abbrev c_Ne_size : ByteArray := prog_4_method_4_code
def y_Ne_size : MethodName := ⟨"LabelRouter$Network", "size", "()I"⟩
abbrev c_LR_needBelow : ByteArray := prog_1_method_18_code
def y_LR_needBelow : MethodName := ⟨"LabelRouter", "needBelow", "(II)V"⟩
abbrev c_Ne_portTo : ByteArray := prog_4_method_7_code
def y_Ne_portTo : MethodName := ⟨"LabelRouter$Network", "portTo", "(II)I"⟩
abbrev c_Ne_freePort : ByteArray := prog_4_method_8_code
def y_Ne_freePort : MethodName := ⟨"LabelRouter$Network", "freePort", "(I)I"⟩
abbrev c_Ne_join : ByteArray := prog_4_method_10_code
def y_Ne_join : MethodName := ⟨"LabelRouter$Network", "join", "(II)V"⟩
abbrev c_Ne_connect : ByteArray := prog_4_method_12_code
def y_Ne_connect : MethodName := ⟨"LabelRouter$Network", "connect", "(III)V"⟩
abbrev c_Ne_setWeight : ByteArray := prog_4_method_13_code
def y_Ne_setWeight : MethodName := ⟨"LabelRouter$Network", "setWeight", "(III)V"⟩
abbrev c_Ne_weigh : ByteArray := prog_4_method_14_code
def y_Ne_weigh : MethodName := ⟨"LabelRouter$Network", "weigh", "(III)V"⟩
abbrev c_Lw_cut : ByteArray := method_5_code
def y_Lw_cut : MethodName := ⟨"LabelRouterLaw", "cut", "(LLabelRouter;II[J)I"⟩
abbrev c_LR_cut : ByteArray := prog_1_method_4_code
def y_LR_cut : MethodName := ⟨"LabelRouter", "cut", "(II)I"⟩
abbrev c_Ne_weightTo : ByteArray := prog_4_method_9_code
def y_Ne_weightTo : MethodName := ⟨"LabelRouter$Network", "weightTo", "(II)I"⟩
abbrev c_Ne_part : ByteArray := prog_4_method_11_code
def y_Ne_part : MethodName := ⟨"LabelRouter$Network", "part", "(II)V"⟩
abbrev c_Lw_port : ByteArray := method_6_code
def y_Lw_port : MethodName := ⟨"LabelRouterLaw", "port", "(LLabelRouter;II[J)I"⟩
abbrev c_LR_port : ByteArray := prog_1_method_5_code
def y_LR_port : MethodName := ⟨"LabelRouter", "port", "(II)I"⟩
abbrev c_Ne_behindPort : ByteArray := prog_4_method_5_code
def y_Ne_behindPort : MethodName := ⟨"LabelRouter$Network", "behindPort", "(II)I"⟩
abbrev c_Lw_build : ByteArray := method_7_code
def y_Lw_build : MethodName := ⟨"LabelRouterLaw", "build", "(LLabelRouter;I[J)I"⟩
abbrev c_LR_build : ByteArray := prog_1_method_6_code
def y_LR_build : MethodName := ⟨"LabelRouter", "build", "(I)I"⟩
abbrev c_Ne_spread : ByteArray := prog_4_method_15_code
def y_Ne_spread : MethodName := ⟨"LabelRouter$Network", "spread", "(I[I[I)I"⟩
abbrev c_Ne_nearestLeft : ByteArray := prog_4_method_16_code
def y_Ne_nearestLeft : MethodName := ⟨"LabelRouter$Network", "nearestLeft", "([IJ)I"⟩
abbrev c_Ne_reachFrom : ByteArray := prog_4_method_17_code
def y_Ne_reachFrom : MethodName := ⟨"LabelRouter$Network", "reachFrom", "(I[I)V"⟩
abbrev c_Sc_rebuild : ByteArray := prog_6_method_2_code
def y_Sc_rebuild : MethodName := ⟨"LabelRouter$Scheme", "rebuild", "(LLabelRouter$Network;I)V"⟩
abbrev c_Ne_copyFrom : ByteArray := prog_4_method_3_code
def y_Ne_copyFrom : MethodName := ⟨"LabelRouter$Network", "copyFrom", "(LLabelRouter$Network;)V"⟩
abbrev c_Wa_measure : ByteArray := prog_7_method_2_code
def y_Wa_measure : MethodName := ⟨"LabelRouter$Ways", "measure", "()V"⟩
abbrev c_La_choose : ByteArray := prog_3_method_2_code
def y_La_choose : MethodName := ⟨"LabelRouter$Landmarks", "choose", "(I)V"⟩
abbrev c_La_fillBalls : ByteArray := prog_3_method_10_code
def y_La_fillBalls : MethodName := ⟨"LabelRouter$Landmarks", "fillBalls", "(I)V"⟩
abbrev c_Wa_nearest : ByteArray := prog_7_method_4_code
def y_Wa_nearest : MethodName := ⟨"LabelRouter$Ways", "nearest", "(II)I"⟩
abbrev c_La_chooseFirst : ByteArray := prog_3_method_11_code
def y_La_chooseFirst : MethodName := ⟨"LabelRouter$Landmarks", "chooseFirst", "()V"⟩
abbrev c_La_mostWanted : ByteArray := prog_3_method_12_code
def y_La_mostWanted : MethodName := ⟨"LabelRouter$Landmarks", "mostWanted", "()I"⟩
abbrev c_La_countInBalls : ByteArray := prog_3_method_13_code
def y_La_countInBalls : MethodName := ⟨"LabelRouter$Landmarks", "countInBalls", "()V"⟩
abbrev c_La_has : ByteArray := prog_3_method_9_code
def y_La_has : MethodName := ⟨"LabelRouter$Landmarks", "has", "(JI)Z"⟩
abbrev c_La_chooseMore : ByteArray := prog_3_method_14_code
def y_La_chooseMore : MethodName := ⟨"LabelRouter$Landmarks", "chooseMore", "()V"⟩
abbrev c_La_howMany : ByteArray := prog_3_method_3_code
def y_La_howMany : MethodName := ⟨"LabelRouter$Landmarks", "howMany", "()I"⟩
abbrev c_Lo_bitCount : ByteArray := prog_14_method_50_code
def y_Lo_bitCount : MethodName := ⟨"java/lang/Long", "bitCount", "(J)I"⟩
abbrev c_La_findOwn : ByteArray := prog_3_method_16_code
def y_La_findOwn : MethodName := ⟨"LabelRouter$Landmarks", "findOwn", "()V"⟩
abbrev c_La_nearestLandmark : ByteArray := prog_3_method_17_code
def y_La_nearestLandmark : MethodName := ⟨"LabelRouter$Landmarks", "nearestLandmark", "(I)I"⟩
abbrev c_La_fillClusters : ByteArray := prog_3_method_18_code
def y_La_fillClusters : MethodName := ⟨"LabelRouter$Landmarks", "fillClusters", "()V"⟩
abbrev c_Wa_far : ByteArray := prog_7_method_3_code
def y_Wa_far : MethodName := ⟨"LabelRouter$Ways", "far", "(II)I"⟩
abbrev c_La_lowestCrowded : ByteArray := prog_3_method_15_code
def y_La_lowestCrowded : MethodName := ⟨"LabelRouter$Landmarks", "lowestCrowded", "(I)I"⟩
abbrev c_La_clusterSize : ByteArray := prog_3_method_7_code
def y_La_clusterSize : MethodName := ⟨"LabelRouter$Landmarks", "clusterSize", "(I)I"⟩
abbrev c_La_isLandmark : ByteArray := prog_3_method_5_code
def y_La_isLandmark : MethodName := ⟨"LabelRouter$Landmarks", "isLandmark", "(I)Z"⟩
abbrev c_Fo_grow : ByteArray := prog_2_method_2_code
def y_Fo_grow : MethodName := ⟨"LabelRouter$Forest", "grow", "(I)V"⟩
abbrev c_Fo_findParents : ByteArray := prog_2_method_9_code
def y_Fo_findParents : MethodName := ⟨"LabelRouter$Forest", "findParents", "(I)V"⟩
abbrev c_Fo_parentOf : ByteArray := prog_2_method_6_code
def y_Fo_parentOf : MethodName := ⟨"LabelRouter$Forest", "parentOf", "(II)I"⟩
abbrev c_Wa_next : ByteArray := prog_7_method_5_code
def y_Wa_next : MethodName := ⟨"LabelRouter$Ways", "next", "(II)I"⟩
abbrev c_Ne_portWeight : ByteArray := prog_4_method_6_code
def y_Ne_portWeight : MethodName := ⟨"LabelRouter$Network", "portWeight", "(II)I"⟩
abbrev c_Fo_addSizes : ByteArray := prog_2_method_10_code
def y_Fo_addSizes : MethodName := ⟨"LabelRouter$Forest", "addSizes", "(I)V"⟩
abbrev c_Fo_findHeavies : ByteArray := prog_2_method_11_code
def y_Fo_findHeavies : MethodName := ⟨"LabelRouter$Forest", "findHeavies", "(I)V"⟩
abbrev c_Fo_givePlaces : ByteArray := prog_2_method_12_code
def y_Fo_givePlaces : MethodName := ⟨"LabelRouter$Forest", "givePlaces", "(I)V"⟩
abbrev c_Fo_placeChildren : ByteArray := prog_2_method_13_code
def y_Fo_placeChildren : MethodName := ⟨"LabelRouter$Forest", "placeChildren", "(II)V"⟩
abbrev c_La_ownOf : ByteArray := prog_3_method_6_code
def y_La_ownOf : MethodName := ⟨"LabelRouter$Landmarks", "ownOf", "(I)I"⟩
abbrev c_Sc_writeLabel : ByteArray := prog_6_method_5_code
def y_Sc_writeLabel : MethodName := ⟨"LabelRouter$Scheme", "writeLabel", "(II)V"⟩
abbrev c_Fo_placeOf : ByteArray := prog_2_method_3_code
def y_Fo_placeOf : MethodName := ⟨"LabelRouter$Forest", "placeOf", "(II)I"⟩
abbrev c_Fo_lightsAbove : ByteArray := prog_2_method_7_code
def y_Fo_lightsAbove : MethodName := ⟨"LabelRouter$Forest", "lightsAbove", "(II)I"⟩
abbrev c_Sc_lightPorts : ByteArray := prog_6_method_6_code
def y_Sc_lightPorts : MethodName := ⟨"LabelRouter$Scheme", "lightPorts", "(II)I"⟩
abbrev c_Fo_heavyOf : ByteArray := prog_2_method_5_code
def y_Fo_heavyOf : MethodName := ⟨"LabelRouter$Forest", "heavyOf", "(II)I"⟩
abbrev c_Lw_landmark : ByteArray := method_8_code
def y_Lw_landmark : MethodName := ⟨"LabelRouterLaw", "landmark", "(LLabelRouter;I[J)I"⟩
abbrev c_LR_landmark : ByteArray := prog_1_method_7_code
def y_LR_landmark : MethodName := ⟨"LabelRouter", "landmark", "(I)I"⟩
abbrev c_LR_needBuilt : ByteArray := prog_1_method_19_code
def y_LR_needBuilt : MethodName := ⟨"LabelRouter", "needBuilt", "()V"⟩
abbrev c_La_at : ByteArray := prog_3_method_4_code
def y_La_at : MethodName := ⟨"LabelRouter$Landmarks", "at", "(I)I"⟩
abbrev c_Lw_table : ByteArray := method_9_code
def y_Lw_table : MethodName := ⟨"LabelRouterLaw", "table", "(LLabelRouter;II[J)I"⟩
abbrev c_LR_table : ByteArray := prog_1_method_8_code
def y_LR_table : MethodName := ⟨"LabelRouter", "table", "(II)I"⟩
abbrev c_Lw_row : ByteArray := method_10_code
def y_Lw_row : MethodName := ⟨"LabelRouterLaw", "row", "(LLabelRouter;II[J)I"⟩
abbrev c_LR_row : ByteArray := prog_1_method_9_code
def y_LR_row : MethodName := ⟨"LabelRouter", "row", "(II)I"⟩
abbrev c_La_hasRow : ByteArray := prog_3_method_8_code
def y_La_hasRow : MethodName := ⟨"LabelRouter$Landmarks", "hasRow", "(II)Z"⟩
abbrev c_Sc_rowPort : ByteArray := prog_6_method_4_code
def y_Sc_rowPort : MethodName := ⟨"LabelRouter$Scheme", "rowPort", "(II)I"⟩
abbrev c_Lw_label : ByteArray := method_11_code
def y_Lw_label : MethodName := ⟨"LabelRouterLaw", "label", "(LLabelRouter;II[J)I"⟩
abbrev c_LR_label : ByteArray := prog_1_method_10_code
def y_LR_label : MethodName := ⟨"LabelRouter", "label", "(II)I"⟩
abbrev c_Sc_labelOf : ByteArray := prog_6_method_3_code
def y_Sc_labelOf : MethodName := ⟨"LabelRouter$Scheme", "labelOf", "(I)[I"⟩
abbrev c_Lw_tree : ByteArray := method_12_code
def y_Lw_tree : MethodName := ⟨"LabelRouterLaw", "tree", "(LLabelRouter;III[J)I"⟩
abbrev c_LR_tree : ByteArray := prog_1_method_11_code
def y_LR_tree : MethodName := ⟨"LabelRouter", "tree", "(III)I"⟩
abbrev c_Fo_sizeOf : ByteArray := prog_2_method_4_code
def y_Fo_sizeOf : MethodName := ⟨"LabelRouter$Forest", "sizeOf", "(II)I"⟩
abbrev c_Lw_send : ByteArray := method_13_code
def y_Lw_send : MethodName := ⟨"LabelRouterLaw", "send", "(LLabelRouter;II[J)I"⟩
abbrev c_LR_send : ByteArray := prog_1_method_12_code
def y_LR_send : MethodName := ⟨"LabelRouter", "send", "(II)I"⟩
abbrev c_Pa_add : ByteArray := prog_5_method_4_code
def y_Pa_add : MethodName := ⟨"LabelRouter$Packets", "add", "(II)I"⟩
abbrev c_Lw_hop : ByteArray := method_14_code
def y_Lw_hop : MethodName := ⟨"LabelRouterLaw", "hop", "(LLabelRouter;I[J)I"⟩
abbrev c_LR_hop : ByteArray := prog_1_method_13_code
def y_LR_hop : MethodName := ⟨"LabelRouter", "hop", "(I)I"⟩
abbrev c_LR_needPacket : ByteArray := prog_1_method_20_code
def y_LR_needPacket : MethodName := ⟨"LabelRouter", "needPacket", "(I)V"⟩
abbrev c_Pa_has : ByteArray := prog_5_method_3_code
def y_Pa_has : MethodName := ⟨"LabelRouter$Packets", "has", "(I)Z"⟩
abbrev c_Pa_placeOf : ByteArray := prog_5_method_5_code
def y_Pa_placeOf : MethodName := ⟨"LabelRouter$Packets", "placeOf", "(I)I"⟩
abbrev c_Pa_aimOf : ByteArray := prog_5_method_6_code
def y_Pa_aimOf : MethodName := ⟨"LabelRouter$Packets", "aimOf", "(I)I"⟩
abbrev c_Sc_onward : ByteArray := prog_6_method_7_code
def y_Sc_onward : MethodName := ⟨"LabelRouter$Scheme", "onward", "(II)I"⟩
abbrev c_Sc_alongTree : ByteArray := prog_6_method_8_code
def y_Sc_alongTree : MethodName := ⟨"LabelRouter$Scheme", "alongTree", "(I[I)I"⟩
abbrev c_Fo_holds : ByteArray := prog_2_method_8_code
def y_Fo_holds : MethodName := ⟨"LabelRouter$Forest", "holds", "(III)Z"⟩
abbrev c_Sc_hopWeight : ByteArray := prog_6_method_9_code
def y_Sc_hopWeight : MethodName := ⟨"LabelRouter$Scheme", "hopWeight", "(II)I"⟩
abbrev c_Pa_move : ByteArray := prog_5_method_7_code
def y_Pa_move : MethodName := ⟨"LabelRouter$Packets", "move", "(III)V"⟩
abbrev c_Lw_weight : ByteArray := method_15_code
def y_Lw_weight : MethodName := ⟨"LabelRouterLaw", "weight", "(LLabelRouter;I[J)I"⟩
abbrev c_LR_weight : ByteArray := prog_1_method_14_code
def y_LR_weight : MethodName := ⟨"LabelRouter", "weight", "(I)I"⟩
abbrev c_Pa_weighed : ByteArray := prog_5_method_8_code
def y_Pa_weighed : MethodName := ⟨"LabelRouter$Packets", "weighed", "(I)I"⟩
abbrev c_Lw_distance : ByteArray := method_16_code
def y_Lw_distance : MethodName := ⟨"LabelRouterLaw", "distance", "(LLabelRouter;II[J)I"⟩
abbrev c_LR_distance : ByteArray := prog_1_method_15_code
def y_LR_distance : MethodName := ⟨"LabelRouter", "distance", "(II)I"⟩
abbrev c_Lw_walk : ByteArray := method_17_code
def y_Lw_walk : MethodName := ⟨"LabelRouterLaw", "walk", "(LLabelRouter;III[J)I"⟩
abbrev c_LR_walk : ByteArray := prog_1_method_16_code
def y_LR_walk : MethodName := ⟨"LabelRouter", "walk", "(III)I"⟩
abbrev c_Sc_wayTotal : ByteArray := prog_6_method_10_code
def y_Sc_wayTotal : MethodName := ⟨"LabelRouter$Scheme", "wayTotal", "(IIZ)I"⟩
abbrev c_Sc_wayStretch : ByteArray := prog_6_method_11_code
def y_Sc_wayStretch : MethodName := ⟨"LabelRouter$Scheme", "wayStretch", "(II)I"⟩
abbrev c_Mo_init : ByteArray := prog_9_method_1_code
def y_Mo_init : MethodName := ⟨"LabelRouterModel", "<init>", "()V"⟩
abbrev c_Mo_thrown : ByteArray := prog_9_method_2_code
def y_Mo_thrown : MethodName := ⟨"LabelRouterModel", "thrown", "()I"⟩
abbrev c_Mo_nodes : ByteArray := prog_9_method_4_code
def y_Mo_nodes : MethodName := ⟨"LabelRouterModel", "nodes", "(I)V"⟩
abbrev c_Mo_edge : ByteArray := prog_9_method_6_code
def y_Mo_edge : MethodName := ⟨"LabelRouterModel", "edge", "(III)I"⟩
abbrev c_Mo_isNode : ByteArray := prog_9_method_3_code
def y_Mo_isNode : MethodName := ⟨"LabelRouterModel", "isNode", "(I)Z"⟩
abbrev c_Mo_portOf : ByteArray := prog_9_method_5_code
def y_Mo_portOf : MethodName := ⟨"LabelRouterModel", "portOf", "([III)I"⟩
abbrev c_Mo_cut : ByteArray := prog_9_method_7_code
def y_Mo_cut : MethodName := ⟨"LabelRouterModel", "cut", "(II)I"⟩
abbrev c_Mo_port : ByteArray := prog_9_method_8_code
def y_Mo_port : MethodName := ⟨"LabelRouterModel", "port", "(II)I"⟩
abbrev c_Mo_distance : ByteArray := prog_9_method_10_code
def y_Mo_distance : MethodName := ⟨"LabelRouterModel", "distance", "(II)I"⟩
abbrev c_Mo_measure : ByteArray := prog_9_method_9_code
def y_Mo_measure : MethodName := ⟨"LabelRouterModel", "measure", "()V"⟩
abbrev c_Mo_build : ByteArray := prog_9_method_20_code
def y_Mo_build : MethodName := ⟨"LabelRouterModel", "build", "(I)I"⟩
abbrev c_Mo_firstMarks : ByteArray := prog_9_method_14_code
def y_Mo_firstMarks : MethodName := ⟨"LabelRouterModel", "firstMarks", "(I)I"⟩
abbrev c_Mo_ahead : ByteArray := prog_9_method_12_code
def y_Mo_ahead : MethodName := ⟨"LabelRouterModel", "ahead", "(II)I"⟩
abbrev c_Mo_d : ByteArray := prog_9_method_11_code
def y_Mo_d : MethodName := ⟨"LabelRouterModel", "d", "(II)I"⟩
abbrev c_Mo_inBalls : ByteArray := prog_9_method_13_code
def y_Mo_inBalls : MethodName := ⟨"LabelRouterModel", "inBalls", "(I)I"⟩
abbrev c_Mo_findOwn : ByteArray := prog_9_method_15_code
def y_Mo_findOwn : MethodName := ⟨"LabelRouterModel", "findOwn", "()V"⟩
abbrev c_Mo_cluster : ByteArray := prog_9_method_17_code
def y_Mo_cluster : MethodName := ⟨"LabelRouterModel", "cluster", "(I)I"⟩
abbrev c_Mo_isNear : ByteArray := prog_9_method_16_code
def y_Mo_isNear : MethodName := ⟨"LabelRouterModel", "isNear", "(II)Z"⟩
abbrev c_Mo_towards : ByteArray := prog_9_method_19_code
def y_Mo_towards : MethodName := ⟨"LabelRouterModel", "towards", "(II)I"⟩
abbrev c_Mo_marks : ByteArray := prog_9_method_18_code
def y_Mo_marks : MethodName := ⟨"LabelRouterModel", "marks", "()I"⟩
abbrev c_Mo_landmark : ByteArray := prog_9_method_22_code
def y_Mo_landmark : MethodName := ⟨"LabelRouterModel", "landmark", "(I)I"⟩
abbrev c_Mo_isBuilt : ByteArray := prog_9_method_21_code
def y_Mo_isBuilt : MethodName := ⟨"LabelRouterModel", "isBuilt", "()Z"⟩
abbrev c_Mo_table : ByteArray := prog_9_method_23_code
def y_Mo_table : MethodName := ⟨"LabelRouterModel", "table", "(II)I"⟩
abbrev c_Mo_row : ByteArray := prog_9_method_24_code
def y_Mo_row : MethodName := ⟨"LabelRouterModel", "row", "(II)I"⟩
abbrev c_Mo_tree : ByteArray := prog_9_method_32_code
def y_Mo_tree : MethodName := ⟨"LabelRouterModel", "tree", "(III)I"⟩
abbrev c_Mo_placeOf : ByteArray := prog_9_method_30_code
def y_Mo_placeOf : MethodName := ⟨"LabelRouterModel", "placeOf", "(II)I"⟩
abbrev c_Mo_behind : ByteArray := prog_9_method_29_code
def y_Mo_behind : MethodName := ⟨"LabelRouterModel", "behind", "(II)I"⟩
abbrev c_Mo_heavy : ByteArray := prog_9_method_27_code
def y_Mo_heavy : MethodName := ⟨"LabelRouterModel", "heavy", "(II)I"⟩
abbrev c_Mo_sizeOf : ByteArray := prog_9_method_26_code
def y_Mo_sizeOf : MethodName := ⟨"LabelRouterModel", "sizeOf", "(II)I"⟩
abbrev c_Mo_isBelow : ByteArray := prog_9_method_25_code
def y_Mo_isBelow : MethodName := ⟨"LabelRouterModel", "isBelow", "(III)Z"⟩
abbrev c_Mo_label : ByteArray := prog_9_method_35_code
def y_Mo_label : MethodName := ⟨"LabelRouterModel", "label", "(II)I"⟩
abbrev c_Mo_word : ByteArray := prog_9_method_34_code
def y_Mo_word : MethodName := ⟨"LabelRouterModel", "word", "(II)I"⟩
abbrev c_Mo_lights : ByteArray := prog_9_method_31_code
def y_Mo_lights : MethodName := ⟨"LabelRouterModel", "lights", "(II)I"⟩
abbrev c_Mo_isLight : ByteArray := prog_9_method_28_code
def y_Mo_isLight : MethodName := ⟨"LabelRouterModel", "isLight", "(II)Z"⟩
abbrev c_Mo_lightPorts : ByteArray := prog_9_method_33_code
def y_Mo_lightPorts : MethodName := ⟨"LabelRouterModel", "lightPorts", "(II)I"⟩
abbrev c_Mo_send : ByteArray := prog_9_method_37_code
def y_Mo_send : MethodName := ⟨"LabelRouterModel", "send", "(II)I"⟩
abbrev c_Mo_hop : ByteArray := prog_9_method_39_code
def y_Mo_hop : MethodName := ⟨"LabelRouterModel", "hop", "(I)I"⟩
abbrev c_Mo_isPacket : ByteArray := prog_9_method_38_code
def y_Mo_isPacket : MethodName := ⟨"LabelRouterModel", "isPacket", "(I)Z"⟩
abbrev c_Mo_hops : ByteArray := prog_9_method_36_code
def y_Mo_hops : MethodName := ⟨"LabelRouterModel", "hops", "(II)I"⟩
abbrev c_Mo_weight : ByteArray := prog_9_method_40_code
def y_Mo_weight : MethodName := ⟨"LabelRouterModel", "weight", "(I)I"⟩
abbrev c_Mo_walk : ByteArray := prog_9_method_41_code
def y_Mo_walk : MethodName := ⟨"LabelRouterModel", "walk", "(III)I"⟩
def lw_good : List Cond := lw_tbl.filter goodWord
theorem tw_len : (k2_sels lw_privs).length = 49 := by decide +kernel
theorem tw_at {w : Cond} (i : Nat) (h : tables_1[i]? = some w) (g : goodWord w = true) : w ∈ lw_good := List.mem_filter.mpr ⟨List.mem_append_right _ (List.mem_of_getElem? h), g⟩
theorem tw_pv {q : MethodName × Nat} (h : q ∈ lw_privs) (g : goodWord (Cond.selects q.1.cls q.1 q.1) = true) : Cond.selects q.1.cls q.1 q.1 ∈ lw_good := List.mem_filter.mpr ⟨List.mem_append_left _ (List.mem_map.mpr ⟨q, h, rfl⟩), g⟩
end
section
/-! pure words: the first number with a property, counts, sums -/
noncomputable def zz_dec (P : Prop) : Bool := @decide P (Classical.propDecidable P)
theorem zz_dec_t {P : Prop} (h : P) : zz_dec P = true := by unfold zz_dec; simp [h]
theorem zz_dec_f {P : Prop} (h : ¬ P) : zz_dec P = false := by unfold zz_dec; simp [h]
theorem zz_dec_iff {P : Prop} : zz_dec P = true ↔ P := by unfold zz_dec; simp
/-- r is the first number below n with P, or -1 -/
def zf_is (P : Nat → Prop) (n : Nat) (r : Int) : Prop := (∃ i : Nat, i < n ∧ r = (i : Int) ∧ P i ∧ ∀ j : Nat, j < i → ¬ P j) ∨ (r = -1 ∧ ∀ j : Nat, j < n → ¬ P j)
theorem zf_uniq {P : Nat → Prop} {n : Nat} {r q : Int} (h : zf_is P n r) (g : zf_is P n q) : r = q := by
  rcases h with ⟨i, h1, h2, h3, h4⟩ | ⟨h1, h2⟩ <;> rcases g with ⟨j, g1, g2, g3, g4⟩ | ⟨g1, g2⟩
  · have : i = j := by
      rcases Nat.lt_trichotomy i j with q | q | q
      · exact absurd h3 (g4 i q)
      · exact q
      · exact absurd g3 (h4 j q)
    subst this
    rw [h2, g2]
  · exact absurd h3 (g2 i h1)
  · exact absurd g3 (h2 j g1)
  · rw [h1, g1]
theorem zf_ex (P : Nat → Prop) (n : Nat) : ∃ r, zf_is P n r := by
  induction n with
  | zero => exact ⟨-1, Or.inr ⟨rfl, fun j h => absurd h (Nat.not_lt_zero j)⟩⟩
  | succ n ih =>
    obtain ⟨r, h⟩ := ih
    rcases h with ⟨i, h1, h2, h3, h4⟩ | ⟨h1, h2⟩
    · exact ⟨r, Or.inl ⟨i, by omega, h2, h3, h4⟩⟩
    · by_cases hp : P n
      · exact ⟨(n : Int), Or.inl ⟨n, by omega, rfl, hp, h2⟩⟩
      · refine ⟨-1, Or.inr ⟨rfl, fun j hj => ?_⟩⟩
        rcases Nat.lt_or_ge j n with q | q
        · exact h2 j q
        · have : j = n := by omega
          subst this
          exact hp
noncomputable def zf (P : Nat → Prop) (n : Nat) : Int := Classical.choose (zf_ex P n)
theorem zf_spec (P : Nat → Prop) (n : Nat) : zf_is P n (zf P n) := Classical.choose_spec (zf_ex P n)
theorem zf_eq {P : Nat → Prop} {n : Nat} {r : Int} (h : zf_is P n r) : r = zf P n := zf_uniq h (zf_spec P n)
theorem zf_congr {P Q : Nat → Prop} {n : Nat} (h : ∀ j, j < n → (P j ↔ Q j)) : zf P n = zf Q n := by
  refine zf_eq ?_
  rcases zf_spec P n with ⟨i, h1, h2, h3, h4⟩ | ⟨h1, h2⟩
  · exact Or.inl ⟨i, h1, h2, (h i h1).mp h3, fun j hj hq => h4 j hj ((h j (by omega)).mpr hq)⟩
  · exact Or.inr ⟨h1, fun j hj hq => h2 j hj ((h j hj).mpr hq)⟩
theorem zf_found {P : Nat → Prop} {n i : Nat} (hi : i < n) (hp : P i) (hl : ∀ j, j < i → ¬ P j) : zf P n = (i : Int) := (zf_eq (Or.inl ⟨i, hi, rfl, hp, hl⟩)).symm
theorem zf_none {P : Nat → Prop} {n : Nat} (h : ∀ j, j < n → ¬ P j) : zf P n = -1 := (zf_eq (Or.inr ⟨rfl, h⟩)).symm
theorem zf_some {P : Nat → Prop} {n : Nat} (h : ∃ j, j < n ∧ P j) : ∃ i : Nat, i < n ∧ zf P n = (i : Int) ∧ P i ∧ ∀ j, j < i → ¬ P j := by
  rcases zf_spec P n with ⟨i, h1, h2, h3, h4⟩ | ⟨h1, h2⟩
  · exact ⟨i, h1, h2, h3, h4⟩
  · obtain ⟨j, hj, hp⟩ := h
    exact absurd hp (h2 j hj)
theorem zf_range (P : Nat → Prop) (n : Nat) : zf P n = -1 ∨ (0 ≤ zf P n ∧ zf P n < n) := by
  rcases zf_spec P n with ⟨i, h1, h2, h3, h4⟩ | ⟨h1, h2⟩
  · right; omega
  · exact Or.inl h1
/-- how many below n have P -/
noncomputable def zc (P : Nat → Prop) : Nat → Nat
  | 0 => 0
  | n + 1 => zc P n + (if zz_dec (P n) = true then 1 else 0)
theorem zc_t {P : Nat → Prop} {n : Nat} (h : P n) : zc P (n + 1) = zc P n + 1 := by simp [zc, zz_dec_t h]
theorem zc_f {P : Nat → Prop} {n : Nat} (h : ¬ P n) : zc P (n + 1) = zc P n := by simp [zc, zz_dec_f h]
theorem zc_le (P : Nat → Prop) (n : Nat) : zc P n ≤ n := by
  induction n with
  | zero => exact Nat.le_refl 0
  | succ n ih =>
    by_cases h : P n
    · rw [zc_t h]; omega
    · rw [zc_f h]; omega
theorem zc_congr {P Q : Nat → Prop} {n : Nat} (h : ∀ j, j < n → (P j ↔ Q j)) : zc P n = zc Q n := by
  induction n with
  | zero => rfl
  | succ n ih =>
    have e := ih (fun j hj => h j (by omega))
    by_cases hp : P n
    · rw [zc_t hp, zc_t ((h n (by omega)).mp hp), e]
    · rw [zc_f hp, zc_f (fun q => hp ((h n (by omega)).mpr q)), e]
theorem zc_mono {P Q : Nat → Prop} {n : Nat} (h : ∀ j, j < n → P j → Q j) : zc P n ≤ zc Q n := by
  induction n with
  | zero => exact Nat.le_refl _
  | succ n ih =>
    have e := ih (fun j hj => h j (by omega))
    by_cases hp : P n
    · rw [zc_t hp, zc_t (h n (by omega) hp)]; omega
    · rw [zc_f hp]
      by_cases hq : Q n
      · rw [zc_t hq]; omega
      · rw [zc_f hq]; omega
theorem zc_zero {P : Nat → Prop} {n : Nat} (h : ∀ j, j < n → ¬ P j) : zc P n = 0 := by
  induction n with
  | zero => rfl
  | succ n ih => rw [zc_f (h n (by omega)), ih (fun j hj => h j (by omega))]
theorem zc_pos {P : Nat → Prop} {n i : Nat} (hi : i < n) (hp : P i) : 0 < zc P n := by
  induction n with
  | zero => omega
  | succ n ih =>
    by_cases hq : P n
    · rw [zc_t hq]; omega
    · rw [zc_f hq]
      refine ih ?_
      rcases Nat.lt_or_ge i n with q | q
      · exact q
      · have : i = n := by omega
        subst this
        exact absurd hp hq
theorem zc_ex {P : Nat → Prop} {n : Nat} (h : 0 < zc P n) : ∃ i, i < n ∧ P i := by
  induction n with
  | zero => simp [zc] at h
  | succ n ih =>
    by_cases hq : P n
    · exact ⟨n, by omega, hq⟩
    · rw [zc_f hq] at h
      obtain ⟨i, h1, h2⟩ := ih h
      exact ⟨i, by omega, h2⟩
/-- apart: counts add up -/
theorem zc_or {P Q : Nat → Prop} {n : Nat} (h : ∀ j, j < n → P j → ¬ Q j) : zc (fun j => P j ∨ Q j) n = zc P n + zc Q n := by
  induction n with
  | zero => rfl
  | succ n ih =>
    have e := ih (fun j hj => h j (by omega))
    by_cases hp : P n
    · rw [zc_t (P := fun j => P j ∨ Q j) (Or.inl hp), zc_t hp, zc_f (h n (by omega) hp), e]; omega
    · by_cases hq : Q n
      · rw [zc_t (P := fun j => P j ∨ Q j) (Or.inr hq), zc_f hp, zc_t hq, e]; omega
      · rw [zc_f (P := fun j => P j ∨ Q j) (fun q => q.elim hp hq), zc_f hp, zc_f hq, e]
theorem zc_one {n i : Nat} (hi : i < n) : zc (fun j => j = i) n = 1 := by
  induction n with
  | zero => omega
  | succ n ih =>
    by_cases hq : n = i
    · rw [zc_t (P := fun j => j = i) hq, zc_zero (fun j hj h => by omega)]
    · rw [zc_f (P := fun j => j = i) hq]
      exact ih (by omega)
/-- strictly fewer -/
theorem zc_lt {P Q : Nat → Prop} {n i : Nat} (h : ∀ j, j < n → P j → Q j) (hi : i < n) (hp : ¬ P i) (hq : Q i) : zc P n < zc Q n := by
  have h1 : zc (fun j => P j ∨ j = i) n = zc P n + zc (fun j => j = i) n := zc_or (fun j _ hj e => hp (e ▸ hj))
  have h2 : zc (fun j => P j ∨ j = i) n ≤ zc Q n := zc_mono (fun j hj x => x.elim (h j hj) (fun e => e ▸ hq))
  rw [h1, zc_one hi] at h2
  omega
/-- the images of an injection are as many -/
theorem zc_img {n : Nat} (o : Nat → Nat) (k : Nat) (ho : ∀ i, i < k → o i < n) (hinj : ∀ i j, i < k → j < k → o i = o j → i = j) : zc (fun c => ∃ j, j < k ∧ o j = c) n = k := by
  induction k with
  | zero => exact zc_zero (fun j _ ⟨i, h, _⟩ => absurd h (Nat.not_lt_zero i))
  | succ k ih =>
    have e := ih (fun i hi => ho i (by omega)) (fun i j hi hj => hinj i j (by omega) (by omega))
    have h1 : zc (fun c => (∃ j, j < k ∧ o j = c) ∨ c = o k) n = zc (fun c => ∃ j, j < k ∧ o j = c) n + zc (fun c => c = o k) n :=
      zc_or (fun c _ ⟨j, hj, hc⟩ e => by
        have := hinj j k (by omega) (by omega) (by rw [hc, e])
        omega)
    rw [e, zc_one (ho k (by omega))] at h1
    rw [← h1]
    refine zc_congr (fun c _ => ⟨fun ⟨j, hj, hc⟩ => ?_, fun h => ?_⟩)
    · rcases Nat.lt_or_ge j k with q | q
      · exact Or.inl ⟨j, q, hc⟩
      · have : j = k := by omega
        subst this
        exact Or.inr hc.symm
    · rcases h with ⟨j, hj, hc⟩ | h
      · exact ⟨j, by omega, hc⟩
      · exact ⟨k, by omega, h.symm⟩
/-- sums -/
def zs (f : Nat → Int) : Nat → Int
  | 0 => 0
  | n + 1 => zs f n + f n
theorem zs_congr {f g : Nat → Int} {n : Nat} (h : ∀ j, j < n → f j = g j) : zs f n = zs g n := by
  induction n with
  | zero => rfl
  | succ n ih => simp only [zs]; rw [ih (fun j hj => h j (by omega)), h n (by omega)]
end
section
/-! least weights: the reference's closing over middle nodes, phase by phase; and what makes a table of least weights one -/
def zm (x y : Int) : Int := if x < y then x else y
theorem zm_l (x y : Int) : zm x y ≤ x := by unfold zm; split <;> omega
theorem zm_r (x y : Int) : zm x y ≤ y := by unfold zm; split <;> omega
theorem zm_or (x y : Int) : zm x y = x ∨ zm x y = y := by unfold zm; split <;> simp
/-- a network's weights: 0 where there is no edge -/
def zg_ok (n : Nat) (Wt : Nat → Nat → Int) : Prop := (∀ a b, a < n → b < n → 0 ≤ Wt a b ∧ Wt a b ≤ 1000 ∧ Wt a b = Wt b a) ∧ ∀ a, a < n → Wt a a = 0
def zw0 (Wt : Nat → Nat → Int) : Nat → Nat → Int := fun a b => if a = b then 0 else if 0 < Wt a b then Wt a b else 1000000
def zw (Wt : Nat → Nat → Int) : Nat → Nat → Nat → Int
  | 0 => zw0 Wt
  | k + 1 => fun a b => zm (zw Wt k a k + zw Wt k k b) (zw Wt k a b)
theorem zw_s (Wt : Nat → Nat → Int) (k a b : Nat) : zw Wt (k + 1) a b = zm (zw Wt k a k + zw Wt k k b) (zw Wt k a b) := rfl
theorem zw_bd {n : Nat} {Wt : Nat → Nat → Int} (hg : zg_ok n Wt) : ∀ (k : Nat), k ≤ n → ∀ a b, a < n → b < n → 0 ≤ zw Wt k a b ∧ zw Wt k a b ≤ 1000000 := by
  intro k
  induction k with
  | zero =>
    intro _ a b ha hb
    have h := hg.1 a b ha hb
    show 0 ≤ zw0 Wt a b ∧ zw0 Wt a b ≤ 1000000
    unfold zw0
    split
    · omega
    · split <;> omega
  | succ k ih =>
    intro hk a b ha hb
    have h1 := ih (by omega) a b ha hb
    have h2 := ih (by omega) a k ha (by omega)
    have h3 := ih (by omega) k b (by omega) hb
    rw [zw_s]
    have h4 := zm_r (zw Wt k a k + zw Wt k k b) (zw Wt k a b)
    rcases zm_or (zw Wt k a k + zw Wt k k b) (zw Wt k a b) with q | q <;> rw [q] at h4 ⊢ <;> omega
theorem zw_aa {n : Nat} {Wt : Nat → Nat → Int} (hg : zg_ok n Wt) : ∀ (k : Nat), k ≤ n → ∀ a, a < n → zw Wt k a a = 0 := by
  intro k
  induction k with
  | zero => intro _ a _; show zw0 Wt a a = 0; unfold zw0; simp
  | succ k ih =>
    intro hk a ha
    have h1 := ih (by omega) a ha
    have h2 := zw_bd hg k (by omega) a k ha (by omega)
    have h3 := zw_bd hg k (by omega) k a (by omega) ha
    rw [zw_s, h1]
    unfold zm
    split <;> omega
/-- row k and column k stay in phase k -/
theorem zw_col {n : Nat} {Wt : Nat → Nat → Int} (hg : zg_ok n Wt) {k a : Nat} (hk : k < n) : zw Wt (k + 1) a k = zw Wt k a k := by
  have h1 := zw_aa hg k (by omega) k hk
  rw [zw_s, h1]
  unfold zm
  split <;> omega
theorem zw_row {n : Nat} {Wt : Nat → Nat → Int} (hg : zg_ok n Wt) {k b : Nat} (hk : k < n) : zw Wt (k + 1) k b = zw Wt k k b := by
  have h1 := zw_aa hg k (by omega) k hk
  rw [zw_s, h1]
  unfold zm
  split <;> omega
theorem zw_sym {n : Nat} {Wt : Nat → Nat → Int} (hg : zg_ok n Wt) : ∀ (k : Nat), k ≤ n → ∀ a b, a < n → b < n → zw Wt k a b = zw Wt k b a := by
  intro k
  induction k with
  | zero =>
    intro _ a b ha hb
    show zw0 Wt a b = zw0 Wt b a
    unfold zw0
    have h := (hg.1 a b ha hb).2.2
    by_cases e : a = b
    · subst e; rfl
    · rw [if_neg e, if_neg (show ¬ b = a from fun q => e q.symm), h]
  | succ k ih =>
    intro hk a b ha hb
    rw [zw_s, zw_s, ih (by omega) a b ha hb, ih (by omega) a k ha (by omega), ih (by omega) k b (by omega) hb, Int.add_comm]
theorem zw_mono {Wt : Nat → Nat → Int} (k a b : Nat) : zw Wt (k + 1) a b ≤ zw Wt k a b := by rw [zw_s]; exact zm_r _ _
theorem zw_le0 {Wt : Nat → Nat → Int} (k a b : Nat) : zw Wt k a b ≤ zw0 Wt a b := by
  induction k with
  | zero => exact Int.le_refl _
  | succ k ih => exact Int.le_trans (zw_mono k a b) ih
/-- what phase k closes -/
theorem zw_tri {n : Nat} {Wt : Nat → Nat → Int} (hg : zg_ok n Wt) : ∀ (k : Nat), k ≤ n → ∀ j, j < k → ∀ a b, a < n → b < n → zw Wt k a b ≤ zw Wt k a j + zw Wt k j b := by
  intro k
  induction k with
  | zero => intro _ j hj; omega
  | succ k ih =>
    intro hk j hj a b ha hb
    have kk : k < n := by omega
    rcases Nat.lt_or_ge j k with q | q
    · have jj : j < n := by omega
      have t1 := ih (by omega) j q a b ha hb
      have t2 := ih (by omega) j q k b kk hb
      have t3 := ih (by omega) j q a k ha kk
      have t4 := ih (by omega) j q k k kk kk
      have n1 := zw_bd hg k (by omega) k j kk jj
      have n2 := zw_bd hg k (by omega) j k jj kk
      have l1 : zw Wt (k + 1) a b ≤ zw Wt k a k + zw Wt k k b := by rw [zw_s]; exact zm_l _ _
      have l2 : zw Wt (k + 1) a b ≤ zw Wt k a b := zw_mono k a b
      have c1 : zw Wt (k + 1) a j = zw Wt k a k + zw Wt k k j ∨ zw Wt (k + 1) a j = zw Wt k a j := by rw [zw_s]; exact zm_or _ _
      have c2 : zw Wt (k + 1) j b = zw Wt k j k + zw Wt k k b ∨ zw Wt (k + 1) j b = zw Wt k j b := by rw [zw_s]; exact zm_or _ _
      rcases c1 with c1 | c1 <;> rcases c2 with c2 | c2 <;> rw [c1, c2] <;> omega
    · have e : j = k := by omega
      subst e
      rw [zw_col hg kk, zw_row hg kk, zw_s]
      exact zm_l _ _
/-- each finite entry has a last edge -/
theorem zw_last {n : Nat} {Wt : Nat → Nat → Int} (hg : zg_ok n Wt) : ∀ (k : Nat), k ≤ n → ∀ a b, a < n → b < n → a ≠ b → zw Wt k a b < 1000000 → ∃ c, c < n ∧ 0 < Wt c b ∧ zw Wt k a c + Wt c b ≤ zw Wt k a b := by
  intro k
  induction k with
  | zero =>
    intro _ a b ha hb hne hlt
    have e : zw Wt 0 a b = if 0 < Wt a b then Wt a b else 1000000 := by
      show zw0 Wt a b = _
      unfold zw0
      rw [if_neg hne]
    rw [e] at hlt ⊢
    by_cases hp : 0 < Wt a b
    · rw [if_pos hp] at hlt ⊢
      refine ⟨a, ha, hp, ?_⟩
      rw [zw_aa hg 0 (by omega) a ha]
      omega
    · rw [if_neg hp] at hlt
      omega
  | succ k ih =>
    intro hk a b ha hb hne hlt
    have kk : k < n := by omega
    have ek : zw Wt (k + 1) a b = zw Wt k a k + zw Wt k k b ∨ zw Wt (k + 1) a b = zw Wt k a b := by rw [zw_s]; exact zm_or _ _
    by_cases e : zw Wt (k + 1) a b = zw Wt k a b
    · rw [e] at hlt ⊢
      obtain ⟨c, hc, hw, hl⟩ := ih (by omega) a b ha hb hne hlt
      have := zw_mono (Wt := Wt) k a c
      exact ⟨c, hc, hw, by omega⟩
    · have e2 : zw Wt (k + 1) a b = zw Wt k a k + zw Wt k k b := by
        rcases ek with q | q
        · exact q
        · exact absurd q e
      have hkb : k ≠ b := by
        intro q
        subst q
        rw [zw_aa hg k (by omega) k kk] at e2
        omega
      have n1 := zw_bd hg k (by omega) a k ha kk
      obtain ⟨c, hc, hw, hl⟩ := ih (by omega) k b kk hb hkb (by omega)
      have t : zw Wt (k + 1) a c ≤ zw Wt k a k + zw Wt k k c := by rw [zw_s]; exact zm_l _ _
      exact ⟨c, hc, hw, by omega⟩
/-- the least weights; 1000000: no way -/
def zd (n : Nat) (Wt : Nat → Nat → Int) : Nat → Nat → Int := zw Wt n
theorem zd_bd {n : Nat} {Wt : Nat → Nat → Int} (hg : zg_ok n Wt) {a b : Nat} (ha : a < n) (hb : b < n) : 0 ≤ zd n Wt a b ∧ zd n Wt a b ≤ 1000000 := zw_bd hg n (Nat.le_refl n) a b ha hb
theorem zd_aa {n : Nat} {Wt : Nat → Nat → Int} (hg : zg_ok n Wt) {a : Nat} (ha : a < n) : zd n Wt a a = 0 := zw_aa hg n (Nat.le_refl n) a ha
theorem zd_sym {n : Nat} {Wt : Nat → Nat → Int} (hg : zg_ok n Wt) {a b : Nat} (ha : a < n) (hb : b < n) : zd n Wt a b = zd n Wt b a := zw_sym hg n (Nat.le_refl n) a b ha hb
theorem zd_tri {n : Nat} {Wt : Nat → Nat → Int} (hg : zg_ok n Wt) {a b j : Nat} (ha : a < n) (hb : b < n) (hj : j < n) : zd n Wt a b ≤ zd n Wt a j + zd n Wt j b := zw_tri hg n (Nat.le_refl n) j hj a b ha hb
theorem zd_edge {n : Nat} {Wt : Nat → Nat → Int} (hg : zg_ok n Wt) {a b c : Nat} (ha : a < n) (hb : b < n) (hc : c < n) (hw : 0 < Wt c b) : zd n Wt a b ≤ zd n Wt a c + Wt c b := by
  have h1 := zd_tri hg ha hb hc
  have h2 : zd n Wt c b ≤ zw0 Wt c b := zw_le0 n c b
  have hne : c ≠ b := by
    intro q
    subst q
    rw [hg.2 c hc] at hw
    omega
  unfold zw0 at h2
  rw [if_neg hne, if_pos hw] at h2
  omega
theorem zd_last {n : Nat} {Wt : Nat → Nat → Int} (hg : zg_ok n Wt) {a b : Nat} (ha : a < n) (hb : b < n) (hne : a ≠ b) (hlt : zd n Wt a b < 1000000) : ∃ c, c < n ∧ 0 < Wt c b ∧ zd n Wt a b = zd n Wt a c + Wt c b := by
  obtain ⟨c, hc, hw, hl⟩ := zw_last hg n (Nat.le_refl n) a b ha hb hne hlt
  have h := zd_edge hg ha hb hc hw
  exact ⟨c, hc, hw, Int.le_antisymm h hl⟩
theorem zd_pos {n : Nat} {Wt : Nat → Nat → Int} (hg : zg_ok n Wt) {a b : Nat} (ha : a < n) (hb : b < n) (hne : a ≠ b) : 0 < zd n Wt a b := by
  by_cases hlt : zd n Wt a b < 1000000
  · obtain ⟨c, hc, hw, he⟩ := zd_last hg ha hb hne hlt
    have := zd_bd hg ha hc
    omega
  · omega
/-- what the class's measuring from a node comes to: -1 where there is no way -/
def zl_ok (n : Nat) (Wt : Nat → Nat → Int) (from_ : Nat) (F : Nat → Int) : Prop :=
  F from_ = 0 ∧ (∀ b, b < n → -1 ≤ F b ∧ F b < 1000000) ∧ (∀ c b, c < n → b < n → F c ≠ -1 → 0 < Wt c b → F b ≠ -1 ∧ F b ≤ F c + Wt c b) ∧
  ∀ b, b < n → b ≠ from_ → F b ≠ -1 → ∃ c, c < n ∧ 0 < Wt c b ∧ F c ≠ -1 ∧ F b = F c + Wt c b
/-- the two say the same -/
theorem zl_eq {n : Nat} {Wt : Nat → Nat → Int} (hg : zg_ok n Wt) {a : Nat} (ha : a < n) {F : Nat → Int} (h : zl_ok n Wt a F) {b : Nat} (hb : b < n) : F b = if zd n Wt a b < 1000000 then zd n Wt a b else -1 := by
  obtain ⟨h0, hbd, he, hl⟩ := h
  have up : ∀ (k : Nat) (b : Nat), b < n → zd n Wt a b < 1000000 → zd n Wt a b < (k : Int) → F b ≠ -1 ∧ F b ≤ zd n Wt a b := by
    intro k
    induction k with
    | zero =>
      intro b hb h1 h2
      have := zd_bd hg ha hb
      omega
    | succ k ih =>
      intro b hb h1 h2
      by_cases e : a = b
      · subst e
        rw [h0, zd_aa hg ha]
        omega
      · obtain ⟨c, hc, hw, hd⟩ := zd_last hg ha hb e h1
        obtain ⟨i1, i2⟩ := ih c hc (by omega) (by omega)
        obtain ⟨j1, j2⟩ := he c b hc hb i1 hw
        exact ⟨j1, by omega⟩
  have dn : ∀ (k : Nat) (b : Nat), b < n → F b ≠ -1 → F b < (k : Int) → zd n Wt a b ≤ F b := by
    intro k
    induction k with
    | zero =>
      intro b hb h1 h2
      have := hbd b hb
      omega
    | succ k ih =>
      intro b hb h1 h2
      by_cases e : b = a
      · subst e
        rw [h0, zd_aa hg ha]
        omega
      · obtain ⟨c, hc, hw, hf, hd⟩ := hl b hb e h1
        have := ih c hc hf (by omega)
        have := zd_edge hg ha hb hc hw
        omega
  have hb1 := hbd b hb
  by_cases hf : F b = -1
  · rw [if_neg, hf]
    intro q
    have := zd_bd hg ha hb
    exact (up (zd n Wt a b).toNat.succ b hb q (by omega)).1 hf
  · have h1 := dn (F b).toNat.succ b hb hf (by omega)
    have h2 : zd n Wt a b < 1000000 := by omega
    have := zd_bd hg ha hb
    rw [if_pos h2]
    have h3 := (up (zd n Wt a b).toNat.succ b hb h2 (by omega)).2
    omega
end
section
/-! measuring from a node by taking the nearest one again and again -/
theorem zc_full {P : Nat → Prop} {n : Nat} (h : zc P n = n) : ∀ j, j < n → P j := by
  intro j hj
  refine Classical.byContradiction (fun hp => ?_)
  have h1 : zc P n < zc (fun _ => True) n := zc_lt (fun _ _ _ => trivial) hj hp trivial
  have h2 := zc_le (fun _ => True) n
  omega
def zx (F : Nat → Int) (u v : Nat) : Prop := F u < F v ∨ (F u = F v ∧ u < v)
theorem zx_irr {F : Nat → Int} {u : Nat} : ¬ zx F u u := by unfold zx; omega
theorem zx_tr {F : Nat → Int} {u v w : Nat} (h : zx F u v) (g : zx F v w) : zx F u w := by unfold zx at *; omega
theorem zx_tri (F : Nat → Int) (u v : Nat) : zx F u v ∨ u = v ∨ zx F v u := by unfold zx; omega
/-- the measuring, r nodes taken: T, in the order O -/
def zk_inv (n : Nat) (Wt : Nat → Nat → Int) (s : Nat) (F : Nat → Int) (T : Nat → Prop) (r : Nat) (O : Nat → Nat) : Prop :=
  F s = 0 ∧ (∀ b, b < n → -1 ≤ F b ∧ F b ≤ 1000 * (r : Int)) ∧ (∀ x, T x → x < n ∧ F x ≠ -1) ∧
  (∀ c b, b < n → T c → 0 < Wt c b → F b ≠ -1 ∧ F b ≤ F c + Wt c b) ∧
  (∀ b, b < n → b ≠ s → F b ≠ -1 → ∃ c, T c ∧ 0 < Wt c b ∧ F b = F c + Wt c b) ∧
  (∀ t u, u < n → T t → ¬ T u → F u ≠ -1 → zx F t u) ∧
  (∀ i, i < r → T (O i)) ∧ (∀ x, T x → ∃ i, i < r ∧ O i = x) ∧ (∀ i j, i < j → j < r → zx F (O i) (O j))
theorem zk_0 {n : Nat} {Wt : Nat → Nat → Int} {s : Nat} {F : Nat → Int} {O : Nat → Nat} (h0 : F s = 0) (hF : ∀ b, b < n → b ≠ s → F b = -1) : zk_inv n Wt s F (fun _ => False) 0 O := by
  refine ⟨h0, fun b hb => ?_, fun x h => h.elim, fun c b _ h => h.elim, fun b hb hs hf => absurd (hF b hb hs) hf, fun t u _ h => h.elim, fun i hi => absurd hi (Nat.not_lt_zero i), fun x h => h.elim, fun i j _ hj => absurd hj (Nat.not_lt_zero j)⟩
  by_cases e : b = s
  · subst e; omega
  · rw [hF b hb e]; omega
/-- all that is joined to x comes as near as x makes it -/
def zk_rel (Wt : Nat → Nat → Int) (x : Nat) (F F' : Nat → Int) (n : Nat) : Prop := ∀ b, b < n → (0 < Wt x b ∧ (F b = -1 ∨ F x + Wt x b < F b) ∧ F' b = F x + Wt x b) ∨ (¬ (0 < Wt x b ∧ (F b = -1 ∨ F x + Wt x b < F b)) ∧ F' b = F b)
/-- x is the nearest that is left, of those as near the lowest -/
def zk_nearest (n : Nat) (F : Nat → Int) (T : Nat → Prop) (x : Nat) : Prop := x < n ∧ ¬ T x ∧ F x ≠ -1 ∧ ∀ u, u < n → ¬ T u → F u ≠ -1 → u ≠ x → zx F x u
theorem zk_step {n : Nat} {Wt : Nat → Nat → Int} (hg : zg_ok n Wt) {s : Nat} (hs : s < n) {F F' : Nat → Int} {T : Nat → Prop} {r x : Nat} {O : Nat → Nat} (h : zk_inv n Wt s F T r O) (hx : zk_nearest n F T x) (hr : zk_rel Wt x F F' n) :
    zk_inv n Wt s F' (fun y => T y ∨ y = x) (r + 1) (fun i => if i = r then x else O i) := by
  obtain ⟨h0, hbd, hT, hc, hd, he, hf1, hf2, hf3⟩ := h
  obtain ⟨x1, x2, x3, x4⟩ := hx
  have fx : 0 ≤ F x := by have := hbd x x1; omega
  -- what is taken stays, and x itself
  have kept : ∀ y, T y ∨ y = x → F' y = F y := by
    intro y hy
    have hyn : y < n := by
      rcases hy with q | q
      · exact (hT y q).1
      · rw [q]; exact x1
    rcases hr y hyn with ⟨q1, q2, q3⟩ | ⟨_, q⟩
    · exfalso
      rcases hy with hy | hy
      · have h1 := (hT y hy).2
        have h2 := he y x x1 hy x2 x3
        unfold zx at h2
        omega
      · rw [hy, hg.2 x x1] at q1
        omega
    · exact q
  have low : ∀ b, b < n → F b ≠ -1 → F' b ≠ -1 ∧ F' b ≤ F b := by
    intro b hb hfb
    have := hbd b hb
    rcases hr b hb with ⟨q1, q2, q3⟩ | ⟨_, q⟩
    · omega
    · rw [q]; exact ⟨hfb, Int.le_refl _⟩
  have s0 : F' s = 0 := by
    rcases hr s hs with ⟨q1, q2, q3⟩ | ⟨_, q⟩
    · omega
    · rw [q]; exact h0
  refine ⟨s0, fun b hb => ?_, fun y hy => ?_, fun c b hb hcT hw => ?_, fun b hb hbs hfb => ?_, fun t u hu ht hnu hfu => ?_, fun i hi => ?_, fun y hy => ?_, fun i j hij hj => ?_⟩
  · have h1 := hbd b hb
    have h2 := hbd x x1
    have h3 := (hg.1 x b x1 hb).2.1
    rcases hr b hb with ⟨q1, q2, q3⟩ | ⟨_, q⟩
    · omega
    · omega
  · rw [kept y hy]
    rcases hy with q | q
    · exact hT y q
    · subst q; exact ⟨x1, x3⟩
  · rw [kept c hcT]
    rcases hcT with q | q
    · obtain ⟨a1, a2⟩ := hc c b hb q hw
      obtain ⟨b1, b2⟩ := low b hb a1
      exact ⟨b1, by omega⟩
    · subst q
      rcases hr b hb with ⟨q1, q2, q3⟩ | ⟨q1, q⟩
      · omega
      · have hq : ¬ (F b = -1 ∨ F c + Wt c b < F b) := fun z => q1 ⟨hw, z⟩
        rw [q]
        omega
  · rcases hr b hb with ⟨q1, q2, q3⟩ | ⟨q1, q⟩
    · exact ⟨x, Or.inr rfl, q1, by rw [kept x (Or.inr rfl)]; exact q3⟩
    · rw [q] at hfb
      obtain ⟨c, c1, c2, c3⟩ := hd b hb hbs hfb
      exact ⟨c, Or.inl c1, c2, by rw [kept c (Or.inl c1), q]; exact c3⟩
  · have nu : ¬ T u := fun z => hnu (Or.inl z)
    have ux : u ≠ x := fun z => hnu (Or.inr z)
    have kt := kept t ht
    have htx : F t ≤ F x := by
      rcases ht with q | q
      · have := he t x x1 q x2 x3
        unfold zx at this
        omega
      · rw [q]; exact Int.le_refl _
    unfold zx
    rw [kt]
    rcases hr u hu with ⟨q1, q2, q3⟩ | ⟨q1, q⟩
    · left; omega
    · rw [q] at hfu ⊢
      rcases ht with z | z
      · exact he t u hu z nu hfu
      · rw [z]; exact x4 u hu nu hfu ux
  · show T (if i = r then x else O i) ∨ (if i = r then x else O i) = x
    by_cases e : i = r
    · rw [if_pos e]; exact Or.inr rfl
    · rw [if_neg e]; exact Or.inl (hf1 i (by omega))
  · rcases hy with q | q
    · obtain ⟨i, i1, i2⟩ := hf2 y q
      exact ⟨i, by omega, by show (if i = r then x else O i) = y; rw [if_neg (by omega)]; exact i2⟩
    · exact ⟨r, by omega, by show (if r = r then x else O r) = y; rw [if_pos rfl]; exact q.symm⟩
  · have ni : i ≠ r := by omega
    have ti : T (O i) := hf1 i (by omega)
    show zx F' (if i = r then x else O i) (if j = r then x else O j)
    rw [if_neg ni]
    by_cases e : j = r
    · rw [if_pos e]
      have := he (O i) x x1 ti x2 x3
      unfold zx at this ⊢
      rw [kept _ (Or.inl ti), kept x (Or.inr rfl)]
      exact this
    · rw [if_neg e]
      have := hf3 i j hij (by omega)
      have tj : T (O j) := hf1 j (by omega)
      unfold zx at this ⊢
      rw [kept _ (Or.inl ti), kept _ (Or.inl tj)]
      exact this
/-- the order: rising by distance, then by number; all that are joined to s -/
def zo_ok (n : Nat) (F : Nat → Int) (r : Nat) (O : Nat → Nat) : Prop := (∀ i, i < r → O i < n ∧ F (O i) ≠ -1) ∧ (∀ x, x < n → F x ≠ -1 → ∃ i, i < r ∧ O i = x) ∧ ∀ i j, i < j → j < r → zx F (O i) (O j)
theorem zo_inj {n : Nat} {F : Nat → Int} {r : Nat} {O : Nat → Nat} (h : zo_ok n F r O) : ∀ i j, i < r → j < r → O i = O j → i = j := by
  intro i j hi hj e
  rcases Nat.lt_trichotomy i j with q | q | q
  · have := h.2.2 i j q hj
    rw [e] at this
    exact absurd this zx_irr
  · exact q
  · have := h.2.2 j i q hi
    rw [e] at this
    exact absurd this zx_irr
theorem zk_end {n : Nat} {Wt : Nat → Nat → Int} {s : Nat} {F : Nat → Int} {T : Nat → Prop} {r : Nat} {O : Nat → Nat} (hn : n ≤ 40) (h : zk_inv n Wt s F T r O) (hr : r ≤ n) (hend : r = n ∨ ∀ u, u < n → ¬ T u → F u = -1) :
    zl_ok n Wt s F ∧ zo_ok n F r O ∧ (r = n ↔ ∀ b, b < n → F b ≠ -1) := by
  obtain ⟨h0, hbd, hT, hc, hd, he, hf1, hf2, hf3⟩ := h
  have inj : ∀ i j, i < r → j < r → O i = O j → i = j := by
    intro i j hi hj e
    rcases Nat.lt_trichotomy i j with q | q | q
    · have := hf3 i j q hj
      rw [e] at this
      exact absurd this zx_irr
    · exact q
    · have := hf3 j i q hi
      rw [e] at this
      exact absurd this zx_irr
  have img := zc_img (n := n) O r (fun i hi => (hT _ (hf1 i hi)).1) inj
  have all : ∀ u, u < n → F u ≠ -1 → T u := by
    intro u hu hfu
    rcases hend with q | q
    · rw [q] at img
      obtain ⟨j, j1, j2⟩ := zc_full img u hu
      rw [← j2]
      exact hf1 j (by omega)
    · exact Classical.byContradiction (fun z => hfu (q u hu z))
  refine ⟨⟨h0, fun b hb => ?_, fun c b hc1 hb hfc hw => hc c b hb (all c hc1 hfc) hw, fun b hb hbs hfb => ?_⟩, ⟨fun i hi => hT _ (hf1 i hi), fun x hx hfx => hf2 x (all x hx hfx), hf3⟩, fun e b hb => ?_, fun hall => ?_⟩
  · have := hbd b hb; omega
  · obtain ⟨c, c1, c2, c3⟩ := hd b hb hbs hfb
    exact ⟨c, (hT c c1).1, c2, (hT c c1).2, c3⟩
  · rw [e] at img
    obtain ⟨j, j1, j2⟩ := zc_full img b hb
    rw [← j2]
    exact (hT _ (hf1 j (by omega))).2
  · have e : zc (fun c => ∃ j, j < r ∧ O j = c) n = zc (fun _ => True) n := zc_congr (fun c hcn => ⟨fun _ => trivial, fun _ => hf2 c (all c hcn (hall c hcn))⟩)
    have f : zc (fun _ => True) n = n := by
      clear hall hend img all hr hbd hT hc hd he hf1 hf2 hf3 inj e h0 hn
      induction n with
      | zero => rfl
      | succ n ih => rw [zc_t trivial, ih]
    omega
/-- in a joined network: how many come ahead of the i-th -/
theorem zo_ahead {n : Nat} {F : Nat → Int} {O : Nat → Nat} (h : zo_ok n F n O) (hall : ∀ b, b < n → F b ≠ -1) {i : Nat} (hi : i < n) : zc (fun c => zx F c (O i)) n = i := by
  have inj := zo_inj h
  have img := zc_img (n := n) O i (fun j hj => (h.1 j (by omega)).1) (fun a b ha hb => inj a b (by omega) (by omega))
  refine Eq.trans (zc_congr (fun c hc => ⟨fun q => ?_, fun q => ?_⟩)) img
  · obtain ⟨j, j1, j2⟩ := h.2.1 c hc (hall c hc)
    refine ⟨j, ?_, j2⟩
    rcases Nat.lt_trichotomy j i with z | z | z
    · exact z
    · subst z; rw [j2] at q; exact absurd q zx_irr
    · have := h.2.2 i j z j1
      rw [j2] at this
      exact absurd (zx_tr q this) zx_irr
  · obtain ⟨j, j1, j2⟩ := q
    rw [← j2]
    exact h.2.2 j i j1 hi
end
section
/-! ports: the class's lists of ports and the reference's table of weights -/
def zn_ok (n : Nat) (bh wt Wt : Nat → Nat → Int) : Prop :=
  zg_ok n Wt ∧ (∀ a p, a < n → p < 16 → bh a p = -1 ∨ (0 ≤ bh a p ∧ bh a p < n)) ∧
  (∀ a p, a < n → p < 16 → bh a p ≠ -1 → Wt a (bh a p).toNat = wt a p ∧ 0 < wt a p ∧ wt a p ≤ 1000) ∧
  (∀ a b, a < n → b < n → 0 < Wt a b → ∃ p, p < 16 ∧ bh a p = (b : Int)) ∧
  ∀ a p q, a < n → p < 16 → q < 16 → bh a p ≠ -1 → bh a p = bh a q → p = q
/-- the first port of a behind which b is -/
noncomputable def zp (bh : Nat → Nat → Int) (a : Nat) (b : Int) : Int := zf (fun p => bh a p = b) 16
theorem zp_range (bh : Nat → Nat → Int) (a : Nat) (b : Int) : zp bh a b = -1 ∨ (0 ≤ zp bh a b ∧ zp bh a b < 16) := zf_range _ 16
theorem zp_at {bh : Nat → Nat → Int} {a : Nat} {b : Int} (h : zp bh a b ≠ -1) : ∃ p : Nat, p < 16 ∧ zp bh a b = (p : Int) ∧ bh a p = b ∧ ∀ q, q < p → bh a q ≠ b := by
  rcases zf_spec (fun p => bh a p = b) 16 with ⟨i, h1, h2, h3, h4⟩ | ⟨h1, h2⟩
  · exact ⟨i, h1, h2, h3, h4⟩
  · exact absurd h1 h
theorem zp_none {bh : Nat → Nat → Int} {a : Nat} {b : Int} (h : zp bh a b = -1) {p : Nat} (hp : p < 16) : bh a p ≠ b := by
  intro e
  rcases zf_spec (fun p => bh a p = b) 16 with ⟨i, h1, h2, h3, h4⟩ | ⟨h1, h2⟩
  · have : zp bh a b = (i : Int) := h2
    omega
  · exact h2 p hp e
/-- an edge has just one port -/
theorem zp_edge {n : Nat} {bh wt Wt : Nat → Nat → Int} (h : zn_ok n bh wt Wt) {a b : Nat} (ha : a < n) (hb : b < n) : (zp bh a (b : Int) ≠ -1 ↔ 0 < Wt a b) := by
  obtain ⟨hg, h1, h2, h3, h4⟩ := h
  constructor
  · intro hz
    obtain ⟨p, hp, e, hbp, hl⟩ := zp_at hz
    have := h2 a p ha hp (by omega)
    rw [hbp] at this
    simp only [Int.toNat_natCast] at this
    omega
  · intro hw hz
    obtain ⟨p, hp, e⟩ := h3 a b ha hb hw
    exact zp_none hz hp e
theorem zp_wt {n : Nat} {bh wt Wt : Nat → Nat → Int} (h : zn_ok n bh wt Wt) {a b p : Nat} (ha : a < n) (hp : p < 16) (e : bh a p = (b : Int)) : wt a p = Wt a b := by
  have := (h.2.2.1 a p ha hp (by omega)).1
  rw [e] at this
  simp only [Int.toNat_natCast] at this
  exact this.symm
theorem zp_one {n : Nat} {bh wt Wt : Nat → Nat → Int} (h : zn_ok n bh wt Wt) {a b p : Nat} (ha : a < n) (hp : p < 16) (e : bh a p = (b : Int)) : zp bh a (b : Int) = (p : Int) := by
  refine (zf_eq (Or.inl ⟨p, hp, rfl, e, fun j hj hj2 => ?_⟩)).symm
  have := h.2.2.2.2 a p j ha hp (by omega) (by omega) (by rw [e, hj2])
  omega
/-- the next node towards another, as the reference has it -/
noncomputable def ztw (n : Nat) (Wt d : Nat → Nat → Int) (a b : Nat) : Int := zf (fun c => 0 < Wt a c ∧ Wt a c + d c b = d a b) n
/-- as the class finds it, over the ports: V p, the port p leads nearer -/
def zt_is (bh wt d : Nat → Nat → Int) (a b : Nat) (k : Nat) (r : Int) : Prop :=
  (r = -1 ∧ ∀ p, p < k → ¬ (bh a p ≠ -1 ∧ wt a p + d (bh a p).toNat b = d a b)) ∨
  (∃ p, p < k ∧ (bh a p ≠ -1 ∧ wt a p + d (bh a p).toNat b = d a b) ∧ r = bh a p ∧ ∀ q, q < k → (bh a q ≠ -1 ∧ wt a q + d (bh a q).toNat b = d a b) → bh a p ≤ bh a q)
theorem zt_eq {n : Nat} {bh wt Wt d : Nat → Nat → Int} (h : zn_ok n bh wt Wt) {a b : Nat} (ha : a < n) {r : Int} (hr : zt_is bh wt d a b 16 r) : r = ztw n Wt d a b := by
  refine zf_eq ?_
  have key : ∀ c, c < n → (0 < Wt a c ∧ Wt a c + d c b = d a b) → ∃ p, p < 16 ∧ bh a p = (c : Int) ∧ (bh a p ≠ -1 ∧ wt a p + d (bh a p).toNat b = d a b) := by
    intro c hc hw
    obtain ⟨p, hp, e⟩ := h.2.2.2.1 a c ha hc hw.1
    refine ⟨p, hp, e, by omega, ?_⟩
    rw [zp_wt h ha hp e, e]
    simp only [Int.toNat_natCast]
    exact hw.2
  rcases hr with ⟨h1, h2⟩ | ⟨p, hp, hv, he, hl⟩
  · refine Or.inr ⟨h1, fun c hc hw => ?_⟩
    obtain ⟨p, hp, -, hv⟩ := key c hc hw
    exact h2 p hp hv
  · have hb := h.2.1 a p ha hp
    obtain ⟨c, hc⟩ : ∃ c : Nat, bh a p = (c : Int) := ⟨(bh a p).toNat, by omega⟩
    have hcn : c < n := by omega
    have hw := h.2.2.1 a p ha hp hv.1
    rw [hc] at hw
    simp only [Int.toNat_natCast] at hw
    refine Or.inl ⟨c, hcn, by rw [he, hc], ⟨by omega, ?_⟩, fun j hj hw2 => ?_⟩
    · have := hv.2
      rw [hc] at this
      simp only [Int.toNat_natCast] at this
      rw [hw.1]
      exact this
    · obtain ⟨q, hq, e, hv2⟩ := key j (by omega) hw2
      have := hl q hq hv2
      omega
/-- in a joined network a node that isn't there yet has a next one, nearer by an edge -/
theorem ztw_some {n : Nat} {Wt : Nat → Nat → Int} (hg : zg_ok n Wt) (hall : ∀ x y, x < n → y < n → zd n Wt x y < 1000000) {a b : Nat} (ha : a < n) (hb : b < n) (hne : a ≠ b) :
    ∃ c : Nat, c < n ∧ ztw n Wt (zd n Wt) a b = (c : Int) ∧ 0 < Wt a c ∧ Wt a c + zd n Wt c b = zd n Wt a b := by
  obtain ⟨c, hc, hw, he⟩ := zd_last hg hb ha (fun q => hne q.symm) (hall b a hb ha)
  obtain ⟨i, h1, h2, h3, -⟩ := zf_some (P := fun c => 0 < Wt a c ∧ Wt a c + zd n Wt c b = zd n Wt a b) (n := n) ⟨c, hc, by rw [← (hg.1 c a hc ha).2.2]; exact hw, by
    rw [zd_sym hg hc hb, zd_sym hg ha hb, ← (hg.1 c a hc ha).2.2, he, Int.add_comm]⟩
  exact ⟨i, h1, h2, h3.1, h3.2⟩
theorem ztw_self {n : Nat} {Wt : Nat → Nat → Int} (hg : zg_ok n Wt) {a : Nat} (ha : a < n) : ztw n Wt (zd n Wt) a a = -1 := by
  refine zf_none (fun c hc hw => ?_)
  have := zd_bd hg hc ha
  have := zd_aa hg ha
  omega
end
section
/-! trees: parents (−1 at the root), ranks that fall towards it -/
def zt_ok (n m : Nat) (par : Nat → Int) (rk : Nat → Nat) : Prop := m < n ∧ par m = -1 ∧ (∀ a, a < n → a ≠ m → ∃ q : Nat, par a = (q : Int) ∧ q < n ∧ rk q < rk a) ∧ ∀ a, a < n → rk a < n
/-- j steps up -/
def zu (par : Nat → Int) : Nat → Nat → Int
  | 0, a => (a : Int)
  | j + 1, a => if par a = -1 then -1 else zu par j (par a).toNat
/-- t is a or above it -/
def zB (par : Nat → Int) (a t : Nat) : Prop := ∃ j, zu par j a = (t : Int)
theorem zB_self (par : Nat → Int) (a : Nat) : zB par a a := ⟨0, rfl⟩
theorem zB_iff {par : Nat → Int} {a t : Nat} : zB par a t ↔ a = t ∨ (par a ≠ -1 ∧ zB par (par a).toNat t) := by
  constructor
  · rintro ⟨j, h⟩
    cases j with
    | zero => left; simp only [zu] at h; omega
    | succ j =>
      right
      simp only [zu] at h
      by_cases e : par a = -1
      · rw [if_pos e] at h; omega
      · rw [if_neg e] at h; exact ⟨e, j, h⟩
  · rintro (h | ⟨h1, j, h2⟩)
    · subst h; exact zB_self par a
    · exact ⟨j + 1, by simp only [zu]; rw [if_neg h1]; exact h2⟩
theorem zB_up {par : Nat → Int} {a q t : Nat} (hp : par a = (q : Int)) (h : zB par q t) : zB par a t := zB_iff.mpr (Or.inr ⟨by omega, by rw [hp]; simpa using h⟩)
theorem zB_dn {par : Nat → Int} {a q t : Nat} (hp : par a = (q : Int)) (h : zB par a t) (hne : a ≠ t) : zB par q t := by
  rcases zB_iff.mp h with e | ⟨-, h2⟩
  · exact absurd e hne
  · rw [hp] at h2; simpa using h2
section ZT
variable {n m : Nat} {par : Nat → Int} {rk : Nat → Nat}
/-- induction from the root downwards -/
theorem zt_ind (h : zt_ok n m par rk) {P : Nat → Prop} (h0 : P m) (hs : ∀ a q, a < n → q < n → a ≠ m → par a = (q : Int) → P q → P a) : ∀ a, a < n → P a := by
  have key : ∀ k a, a < n → rk a < k → P a := by
    intro k
    induction k with
    | zero => intro a _ hk; omega
    | succ k ih =>
      intro a ha hk
      by_cases e : a = m
      · rw [e]; exact h0
      · obtain ⟨q, h1, h2, h3⟩ := h.2.2.1 a ha e
        exact hs a q ha h2 e h1 (ih q h2 (by omega))
  exact fun a ha => key (rk a + 1) a ha (by omega)
theorem zB_root (h : zt_ok n m par rk) : ∀ a, a < n → zB par a m := zt_ind h (zB_self par m) (fun _ _ _ _ _ hp ih => zB_up hp ih)
theorem zB_rk (h : zt_ok n m par rk) : ∀ a, a < n → ∀ t, zB par a t → t < n ∧ (a = t ∨ rk t < rk a) := by
  refine zt_ind h (fun t ht => ?_) (fun a q ha hq hne hp ih t ht => ?_)
  · rcases zB_iff.mp ht with e | ⟨e, -⟩
    · exact ⟨by rw [← e]; exact h.1, Or.inl e⟩
    · exact absurd h.2.1 e
  · by_cases e : a = t
    · exact ⟨by rw [← e]; exact ha, Or.inl e⟩
    · obtain ⟨h1, h2⟩ := ih t (zB_dn hp ht e)
      obtain ⟨q', e1, -, e2⟩ := h.2.2.1 a ha hne
      have : q' = q := by omega
      subst this
      refine ⟨h1, Or.inr ?_⟩
      rcases h2 with z | z
      · rw [← z]; exact e2
      · omega
theorem zB_tr (h : zt_ok n m par rk) {t s : Nat} (hts : zB par t s) : ∀ a, a < n → zB par a t → zB par a s := by
  refine zt_ind h (fun ht => ?_) (fun a q ha hq hne hp ih ht => ?_)
  · rcases zB_iff.mp ht with e | ⟨e, -⟩
    · rw [e]; exact hts
    · exact absurd h.2.1 e
  · by_cases e : a = t
    · rw [e]; exact hts
    · exact zB_up hp (ih (zB_dn hp ht e))
theorem zB_anti (h : zt_ok n m par rk) {a t : Nat} (ha : a < n) (h1 : zB par a t) (h2 : zB par t a) : a = t := by
  obtain ⟨ht, q⟩ := zB_rk h a ha t h1
  obtain ⟨-, q2⟩ := zB_rk h t ht a h2
  omega
/-- two that lie above one lie above each other -/
theorem zB_lin (h : zt_ok n m par rk) {s t : Nat} : ∀ a, a < n → zB par a s → zB par a t → zB par s t ∨ zB par t s := by
  refine zt_ind h (fun hs ht => ?_) (fun a q ha hq hne hp ih hs ht => ?_)
  · rcases zB_iff.mp hs with e | ⟨e, -⟩
    · rw [← e]; exact Or.inl ht
    · exact absurd h.2.1 e
  · by_cases e : a = s
    · rw [← e]; exact Or.inl ht
    · by_cases e2 : a = t
      · rw [← e2]; exact Or.inr hs
      · exact ih (zB_dn hp hs e) (zB_dn hp ht e2)
/-- under different children of one node there is nothing in common -/
theorem zB_apart (h : zt_ok n m par rk) {p c c' a : Nat} (ha : a < n) (hc : par c = (p : Int)) (hc' : par c' = (p : Int)) (h1 : zB par a c) (h2 : zB par a c') : c = c' := by
  have hcn := (zB_rk h a ha c h1).1
  have hcn' := (zB_rk h a ha c' h2).1
  have key : ∀ x y, x < n → y < n → par x = (p : Int) → par y = (p : Int) → zB par x y → x = y := by
    intro x y hx hy hpx hpy hxy
    refine Classical.byContradiction (fun hne => ?_)
    have h3 := zB_dn hpx hxy hne
    have hxm : x ≠ m := by intro e; rw [e, h.2.1] at hpx; omega
    have hym : y ≠ m := by intro e; rw [e, h.2.1] at hpy; omega
    obtain ⟨q', e1, e2, e3⟩ := h.2.2.1 y hy hym
    obtain ⟨q, g1, g2, g3⟩ := h.2.2.1 x hx hxm
    have : q = p := by omega
    have : q' = p := by omega
    subst q q'
    rcases (zB_rk h p g2 y h3).2 with z | z
    · rw [z] at e3; omega
    · omega
  rcases zB_lin h a ha h1 h2 with q | q
  · exact key c c' hcn hcn' hc hc' q
  · exact (key c' c hcn' hcn hc' hc q).symm
/-- a node above another one has a child on the way -/
theorem zB_child (h : zt_ok n m par rk) {t : Nat} : ∀ a, a < n → zB par a t → a ≠ t → ∃ c, c < n ∧ par c = (t : Int) ∧ zB par a c := by
  refine zt_ind h (fun ht hne => ?_) (fun a q ha hq hna hp ih ht hne => ?_)
  · rcases zB_iff.mp ht with e | ⟨e, -⟩
    · exact absurd e hne
    · exact absurd h.2.1 e
  · by_cases e : q = t
    · exact ⟨a, ha, by rw [hp, e], zB_self par a⟩
    · obtain ⟨c, c1, c2, c3⟩ := ih (zB_dn hp ht hne) e
      exact ⟨c, c1, c2, zB_up hp c3⟩
/-- sizes -/
noncomputable def zS (n : Nat) (par : Nat → Int) (t : Nat) : Nat := zc (fun a => zB par a t) n
theorem zS_pos {t : Nat} (ht : t < n) : 0 < zS n par t := zc_pos ht (zB_self par t)
theorem zS_le (t : Nat) : zS n par t ≤ n := zc_le _ n
theorem zS_root (h : zt_ok n m par rk) : zS n par m = n := by
  have : zS n par m = zc (fun _ => True) n := zc_congr (fun a ha => ⟨fun _ => trivial, fun _ => zB_root h a ha⟩)
  rw [this]
  clear this h
  have : ∀ k, zc (fun _ => True) k = k := by
    intro k
    induction k with
    | zero => rfl
    | succ k ih => rw [zc_t trivial, ih]
  exact this n
/-- what lies under the first k children of p -/
noncomputable def zSc (n : Nat) (par : Nat → Int) (p k : Nat) : Nat := zc (fun a => ∃ c, c < k ∧ par c = (p : Int) ∧ zB par a c) n
theorem zSc_0 (p : Nat) : zSc n par p 0 = 0 := zc_zero (fun _ _ ⟨c, hc, _⟩ => absurd hc (Nat.not_lt_zero c))
theorem zSc_t (h : zt_ok n m par rk) {p k : Nat} (hp : par k = (p : Int)) : zSc n par p (k + 1) = zSc n par p k + zS n par k := by
  have := zc_or (P := fun a => ∃ c, c < k ∧ par c = (p : Int) ∧ zB par a c) (Q := fun a => zB par a k) (n := n) (fun a ha ⟨c, c1, c2, c3⟩ q => by
    have := zB_apart h ha c2 hp c3 q
    omega)
  unfold zSc zS
  rw [← this]
  refine zc_congr (fun a ha => ⟨fun ⟨c, c1, c2, c3⟩ => ?_, fun q => ?_⟩)
  · by_cases e : c = k
    · right; rw [← e]; exact c3
    · left; exact ⟨c, by omega, c2, c3⟩
  · rcases q with ⟨c, c1, c2, c3⟩ | q
    · exact ⟨c, by omega, c2, c3⟩
    · exact ⟨k, by omega, hp, q⟩
theorem zSc_f {p k : Nat} (hp : par k ≠ (p : Int)) : zSc n par p (k + 1) = zSc n par p k := by
  refine zc_congr (fun a ha => ⟨fun ⟨c, c1, c2, c3⟩ => ⟨c, ?_, c2, c3⟩, fun ⟨c, c1, c2, c3⟩ => ⟨c, by omega, c2, c3⟩⟩)
  rcases Nat.lt_or_ge c k with q | q
  · exact q
  · have : c = k := by omega
    rw [this] at c2
    exact absurd c2 hp
theorem zSc_all (h : zt_ok n m par rk) {p : Nat} (hp : p < n) : zS n par p = 1 + zSc n par p n := by
  have := zc_or (P := fun a => a = p) (Q := fun a => ∃ c, c < n ∧ par c = (p : Int) ∧ zB par a c) (n := n) (fun a ha e ⟨c, c1, c2, c3⟩ => by
    have hcm : c ≠ m := by intro e; rw [e, h.2.1] at c2; omega
    obtain ⟨q, g1, g2, g3⟩ := h.2.2.1 c c1 hcm
    have : q = p := by omega
    subst this
    rw [e] at c3
    rcases (zB_rk h q hp c c3).2 with z | z
    · rw [z] at g3; omega
    · omega)
  rw [zc_one hp] at this
  unfold zSc zS
  rw [← this]
  refine zc_congr (fun a ha => ⟨fun q => ?_, fun q => ?_⟩)
  · by_cases e : a = p
    · exact Or.inl e
    · exact Or.inr (zB_child h a ha q e)
  · rcases q with q | ⟨c, c1, c2, c3⟩
    · rw [q]; exact zB_self par p
    · exact zB_tr h (zB_up c2 (zB_self par p)) a ha c3
theorem zSc_mono {p : Nat} {k k' : Nat} (hk : k ≤ k') : zSc n par p k ≤ zSc n par p k' := zc_mono (fun a _ ⟨c, c1, c2, c3⟩ => ⟨c, by omega, c2, c3⟩)
theorem zS_child (h : zt_ok n m par rk) {p c : Nat} (hc : c < n) (hp : par c = (p : Int)) (hpn : p < n) : zS n par c < zS n par p := by
  have h1 := zSc_all h hpn
  have h2 := zSc_t h hp
  have h3 := zSc_mono (n := n) (par := par) (p := p) (show c + 1 ≤ n by omega)
  omega
/-- the heavy child -/
noncomputable def zh (n : Nat) (par : Nat → Int) (t : Nat) : Int := zf (fun c => par c = (t : Int) ∧ ∀ c', c' < n → par c' = (t : Int) → zS n par c' ≤ zS n par c) n
theorem zh_none {t : Nat} (h : zh n par t = -1) : ∀ c, c < n → par c ≠ (t : Int) := by
  intro c hc hp
  -- a greatest one exists
  have key : ∀ k, k ≤ n → (∃ c, c < k ∧ par c = (t : Int)) → ∃ c, c < k ∧ par c = (t : Int) ∧ ∀ c', c' < k → par c' = (t : Int) → zS n par c' ≤ zS n par c := by
    intro k
    induction k with
    | zero => intro _ ⟨c, hc, _⟩; omega
    | succ k ih =>
      intro hk ⟨c, hc, hp⟩
      by_cases hx : ∃ c, c < k ∧ par c = (t : Int)
      · obtain ⟨b, b1, b2, b3⟩ := ih (by omega) hx
        by_cases hkp : par k = (t : Int) ∧ zS n par b < zS n par k
        · refine ⟨k, by omega, hkp.1, fun c' hc' hp' => ?_⟩
          by_cases e : c' = k
          · rw [e]; exact Nat.le_refl _
          · have := b3 c' (by omega) hp'
            have := hkp.2
            omega
        · refine ⟨b, by omega, b2, fun c' hc' hp' => ?_⟩
          by_cases e : c' = k
          · subst e
            have : ¬ zS n par b < zS n par c' := fun z => hkp ⟨hp', z⟩
            omega
          · exact b3 c' (by omega) hp'
      · have e : c = k := by
          rcases Nat.lt_or_ge c k with q | q
          · exact absurd ⟨c, q, hp⟩ hx
          · omega
        subst e
        refine ⟨c, by omega, hp, fun c' hc' hp' => ?_⟩
        by_cases e : c' = c
        · rw [e]; exact Nat.le_refl _
        · exact absurd ⟨c', by omega, hp'⟩ hx
  obtain ⟨b, b1, b2, b3⟩ := key n (Nat.le_refl n) ⟨c, hc, hp⟩
  obtain ⟨i, h1, h2, -⟩ := zf_some (P := fun c => par c = (t : Int) ∧ ∀ c', c' < n → par c' = (t : Int) → zS n par c' ≤ zS n par c) (n := n) ⟨b, b1, b2, b3⟩
  have : zh n par t = (i : Int) := h2
  omega
theorem zh_some {t : Nat} (h : zh n par t ≠ -1) : ∃ b : Nat, b < n ∧ zh n par t = (b : Int) ∧ par b = (t : Int) ∧ ∀ c', c' < n → par c' = (t : Int) → zS n par c' ≤ zS n par b := by
  rcases zf_spec (fun c => par c = (t : Int) ∧ ∀ c', c' < n → par c' = (t : Int) → zS n par c' ≤ zS n par c) n with ⟨i, h1, h2, h3, h4⟩ | ⟨h1, h2⟩
  · exact ⟨i, h1, h2, h3.1, h3.2⟩
  · exact absurd h1 h
end ZT
end
section
/-! places: what lies under the children that come before one -/
section ZP
variable {n m : Nat} {par : Nat → Int} {rk : Nat → Nat}
noncomputable def zSx (n : Nat) (par : Nat → Int) (p : Nat) (X : Nat → Prop) (k : Nat) : Nat := zc (fun a => ∃ c, c < k ∧ par c = (p : Int) ∧ X c ∧ zB par a c) n
theorem zSx_0 (p : Nat) (X : Nat → Prop) : zSx n par p X 0 = 0 := zc_zero (fun _ _ ⟨c, hc, _⟩ => absurd hc (Nat.not_lt_zero c))
theorem zSx_t (h : zt_ok n m par rk) {p k : Nat} {X : Nat → Prop} (hp : par k = (p : Int)) (hX : X k) : zSx n par p X (k + 1) = zSx n par p X k + zS n par k := by
  have := zc_or (P := fun a => ∃ c, c < k ∧ par c = (p : Int) ∧ X c ∧ zB par a c) (Q := fun a => zB par a k) (n := n) (fun a ha ⟨c, c1, c2, _, c3⟩ q => by
    have := zB_apart h ha c2 hp c3 q
    omega)
  unfold zSx zS
  rw [← this]
  refine zc_congr (fun a ha => ⟨fun ⟨c, c1, c2, cx, c3⟩ => ?_, fun q => ?_⟩)
  · by_cases e : c = k
    · right; rw [← e]; exact c3
    · left; exact ⟨c, by omega, c2, cx, c3⟩
  · rcases q with ⟨c, c1, c2, cx, c3⟩ | q
    · exact ⟨c, by omega, c2, cx, c3⟩
    · exact ⟨k, by omega, hp, hX, q⟩
theorem zSx_f {p k : Nat} {X : Nat → Prop} (hp : ¬ (par k = (p : Int) ∧ X k)) : zSx n par p X (k + 1) = zSx n par p X k := by
  refine zc_congr (fun a ha => ⟨fun ⟨c, c1, c2, cx, c3⟩ => ⟨c, ?_, c2, cx, c3⟩, fun ⟨c, c1, c2, cx, c3⟩ => ⟨c, by omega, c2, cx, c3⟩⟩)
  rcases Nat.lt_or_ge c k with q | q
  · exact q
  · have : c = k := by omega
    rw [this] at c2 cx
    exact absurd ⟨c2, cx⟩ hp
theorem zSx_congr {p k : Nat} {X Y : Nat → Prop} (h : ∀ c, c < k → par c = (p : Int) → (X c ↔ Y c)) : zSx n par p X k = zSx n par p Y k :=
  zc_congr (fun _ _ => ⟨fun ⟨c, c1, c2, cx, c3⟩ => ⟨c, c1, c2, (h c c1 c2).mp cx, c3⟩, fun ⟨c, c1, c2, cx, c3⟩ => ⟨c, c1, c2, (h c c1 c2).mpr cx, c3⟩⟩)
/-- one more child -/
theorem zSx_add (h : zt_ok n m par rk) {p v : Nat} {X : Nat → Prop} (hv : v < n) (hp : par v = (p : Int)) (hX : ¬ X v) : zSx n par p (fun c => X c ∨ c = v) n = zSx n par p X n + zS n par v := by
  have := zc_or (P := fun a => ∃ c, c < n ∧ par c = (p : Int) ∧ X c ∧ zB par a c) (Q := fun a => zB par a v) (n := n) (fun a ha ⟨c, c1, c2, cx, c3⟩ q => by
    have := zB_apart h ha c2 hp c3 q
    subst this
    exact hX cx)
  unfold zSx zS
  rw [← this]
  refine zc_congr (fun a ha => ⟨fun ⟨c, c1, c2, cx, c3⟩ => ?_, fun q => ?_⟩)
  · rcases cx with cx | cx
    · left; exact ⟨c, c1, c2, cx, c3⟩
    · right; rw [← cx]; exact c3
  · rcases q with ⟨c, c1, c2, cx, c3⟩ | q
    · exact ⟨c, c1, c2, Or.inl cx, c3⟩
    · exact ⟨v, hv, hp, Or.inr rfl, q⟩
theorem zSx_mono {p k : Nat} {X Y : Nat → Prop} (h : ∀ c, c < k → par c = (p : Int) → X c → Y c) : zSx n par p X k ≤ zSx n par p Y k :=
  zc_mono (fun _ _ ⟨c, c1, c2, cx, c3⟩ => ⟨c, c1, c2, h c c1 c2 cx, c3⟩)
/-- c comes before v among the children of p -/
def zbf (n : Nat) (par : Nat → Int) (p v : Nat) (c : Nat) : Prop := (c : Int) = zh n par p ∨ c < v
/-- how far behind its parent's place a child's lies -/
noncomputable def zbh (n : Nat) (par : Nat → Int) (p v : Nat) : Nat := if zz_dec ((v : Int) = zh n par p) = true then 1 else 1 + zSx n par p (zbf n par p v) n
theorem zbh_h {p v : Nat} (h : (v : Int) = zh n par p) : zbh n par p v = 1 := by unfold zbh; rw [zz_dec_t h]; simp
theorem zbh_l {p v : Nat} (h : (v : Int) ≠ zh n par p) : zbh n par p v = 1 + zSx n par p (zbf n par p v) n := by unfold zbh; rw [zz_dec_f h]; simp
theorem zbh_in (h : zt_ok n m par rk) {p v : Nat} (hv : v < n) (hp : par v = (p : Int)) (hpn : p < n) : 1 ≤ zbh n par p v ∧ zbh n par p v + zS n par v ≤ zS n par p := by
  have ha := zSc_all h hpn
  have hc : zSc n par p n = zSx n par p (fun _ => True) n := zc_congr (fun a _ => ⟨fun ⟨c, c1, c2, c3⟩ => ⟨c, c1, c2, trivial, c3⟩, fun ⟨c, c1, c2, _, c3⟩ => ⟨c, c1, c2, c3⟩⟩)
  by_cases e : (v : Int) = zh n par p
  · rw [zbh_h e]
    have h1 := zS_child h hv hp hpn
    omega
  · rw [zbh_l e]
    have h1 := zSx_add h hv hp (X := zbf n par p v) (fun q => q.elim e (Nat.lt_irrefl v))
    have h2 := zSx_mono (n := n) (par := par) (p := p) (k := n) (X := fun c => zbf n par p v c ∨ c = v) (Y := fun _ => True) (fun _ _ _ _ => trivial)
    omega
theorem zbh_apart (h : zt_ok n m par rk) {p v w : Nat} (hv : v < n) (hw : w < n) (hpv : par v = (p : Int)) (hpw : par w = (p : Int)) (hne : v ≠ w) : zbh n par p v + zS n par v ≤ zbh n par p w ∨ zbh n par p w + zS n par w ≤ zbh n par p v := by
  have key : ∀ v w : Nat, v < n → par v = (p : Int) → (w : Int) ≠ zh n par p → zbf n par p w v → v ≠ w → zbh n par p v + zS n par v ≤ zbh n par p w := by
    intro v w hv hp hw hb hne
    rw [zbh_l hw]
    by_cases e : (v : Int) = zh n par p
    · rw [zbh_h e]
      have h1 := zSx_add h hv hp (X := fun _ => False) (fun q => q)
      have h2 := zSx_mono (n := n) (par := par) (p := p) (k := n) (X := fun c => False ∨ c = v) (Y := zbf n par p w) (fun c _ _ q => q.elim False.elim (fun q => q ▸ hb))
      omega
    · rw [zbh_l e]
      have hlt : v < w := hb.elim (fun q => absurd q e) id
      have h1 := zSx_add h hv hp (X := zbf n par p v) (fun q => q.elim e (Nat.lt_irrefl v))
      have h2 := zSx_mono (n := n) (par := par) (p := p) (k := n) (X := fun c => zbf n par p v c ∨ c = v) (Y := zbf n par p w) (fun c _ _ q => by
        rcases q with (q | q) | q
        · exact Or.inl q
        · exact Or.inr (by omega)
        · exact Or.inr (by omega))
      omega
  by_cases ev : (v : Int) = zh n par p
  · have ew : (w : Int) ≠ zh n par p := by omega
    exact Or.inl (key v w hv hpv ew (Or.inl ev) hne)
  · by_cases ew : (w : Int) = zh n par p
    · exact Or.inr (key w v hw hpw ev (Or.inl ew) (fun q => hne q.symm))
    · rcases Nat.lt_or_ge v w with q | q
      · exact Or.inl (key v w hv hpv ew (Or.inr q) hne)
      · exact Or.inr (key w v hw hpw ev (Or.inr (by omega)) (fun q => hne q.symm))
/-- climbing from a node to the root, with g at each node but the root -/
def zcl (par : Nat → Int) (g : Nat → Int → Int) : Nat → Nat → Int → Int
  | 0, _, w => w
  | k + 1, a, w => if par a = -1 then w else zcl par g k (par a).toNat (g a w)
theorem zcl_root {g : Nat → Int → Int} {k : Nat} {a : Nat} {w : Int} (h : par a = -1) : zcl par g k a w = w := by
  cases k with
  | zero => rfl
  | succ k => simp only [zcl]; rw [if_pos h]
theorem zcl_up {g : Nat → Int → Int} {k : Nat} {a q : Nat} {w : Int} (h : par a = (q : Int)) : zcl par g (k + 1) a w = zcl par g k q (g a w) := by
  simp only [zcl]
  rw [if_neg (by omega), h]
  simp
theorem zcl_fuel (h : zt_ok n m par rk) (g : Nat → Int → Int) : ∀ a, a < n → ∀ (k k' : Nat) (w : Int), rk a ≤ k → rk a ≤ k' → zcl par g k a w = zcl par g k' a w := by
  refine zt_ind h (fun k k' w _ _ => ?_) (fun a q ha hq hne hp ih k k' w hk hk' => ?_)
  · rw [zcl_root h.2.1, zcl_root h.2.1]
  · obtain ⟨q', e1, -, e2⟩ := h.2.2.1 a ha hne
    have : q' = q := by omega
    subst this
    obtain ⟨j, rfl⟩ : ∃ j, k = j + 1 := ⟨k - 1, by omega⟩
    obtain ⟨j', rfl⟩ : ∃ j', k' = j' + 1 := ⟨k' - 1, by omega⟩
    rw [zcl_up hp, zcl_up hp]
    exact ih j j' _ (by omega) (by omega)
/-- the whole climb -/
def zC (par : Nat → Int) (g : Nat → Int → Int) (a : Nat) (w : Int) : Int := zcl par g 40 a w
theorem zC_root {g : Nat → Int → Int} {a : Nat} {w : Int} (h : par a = -1) : zC par g a w = w := zcl_root h
theorem zC_up (h : zt_ok n m par rk) (hn : n ≤ 40) {g : Nat → Int → Int} {a q : Nat} {w : Int} (ha : a < n) (hp : par a = (q : Int)) : zC par g a w = zC par g q (g a w) := by
  have hne : a ≠ m := by intro e; rw [e, h.2.1] at hp; omega
  obtain ⟨q', e1, e3, e2⟩ := h.2.2.1 a ha hne
  have : q' = q := by omega
  subst this
  have h4 := h.2.2.2 a ha
  unfold zC
  rw [zcl_up (k := 39) hp]
  exact zcl_fuel h g q' e3 39 40 _ (by omega) (by omega)
/-- places -/
noncomputable def zpg (n : Nat) (par : Nat → Int) : Nat → Int → Int := fun v w => w + (zbh n par (par v).toNat v : Int)
noncomputable def zpl (n : Nat) (par : Nat → Int) (a : Nat) : Int := zC par (zpg n par) a 0
theorem zpl_add (h : zt_ok n m par rk) (hn : n ≤ 40) : ∀ a, a < n → ∀ w, zC par (zpg n par) a w = w + zpl n par a := by
  refine zt_ind h (fun w => ?_) (fun a q ha hq hne hp ih w => ?_)
  · unfold zpl; rw [zC_root h.2.1, zC_root h.2.1]; omega
  · unfold zpl
    rw [zC_up h hn ha hp, zC_up h hn ha hp, ih, ih]
    unfold zpg
    omega
theorem zpl_root (h : zt_ok n m par rk) : zpl n par m = 0 := zC_root h.2.1
theorem zpl_up (h : zt_ok n m par rk) (hn : n ≤ 40) {a q : Nat} (ha : a < n) (hq : q < n) (hp : par a = (q : Int)) : zpl n par a = zpl n par q + (zbh n par q a : Int) := by
  have : zpl n par a = zC par (zpg n par) q (zpg n par a 0) := zC_up h hn ha hp
  rw [this, zpl_add h hn q hq]
  unfold zpg
  rw [hp]
  simp
  omega
/-- a place at or below a node -/
def zI (n : Nat) (par : Nat → Int) (u : Nat) (x : Int) : Prop := zpl n par u ≤ x ∧ x < zpl n par u + (zS n par u : Int)
theorem zI_child (h : zt_ok n m par rk) (hn : n ≤ 40) {a q : Nat} (ha : a < n) (hq : q < n) (hp : par a = (q : Int)) {x : Int} (hx : zI n par a x) : zI n par q x ∧ x ≠ zpl n par q := by
  have h1 := zpl_up h hn ha hq hp
  have h2 := zbh_in h ha hp hq
  unfold zI at *
  omega
theorem zI_of (h : zt_ok n m par rk) (hn : n ≤ 40) {u : Nat} : ∀ a, a < n → zB par a u → ∀ x, zI n par a x → zI n par u x := by
  refine zt_ind h (fun ht x hx => ?_) (fun a q ha hq hne hp ih ht x hx => ?_)
  · rcases zB_iff.mp ht with e | ⟨e, -⟩
    · rw [← e]; exact hx
    · exact absurd h.2.1 e
  · by_cases e : a = u
    · rw [← e]; exact hx
    · exact ih (zB_dn hp ht e) x (zI_child h hn ha hq hp hx).1
theorem zI_self {a : Nat} (ha : a < n) : zI n par a (zpl n par a) := by
  have := zS_pos (n := n) (par := par) ha
  unfold zI
  omega
/-- whose place lies at or below a node lies at or below it -/
theorem zI_iff (h : zt_ok n m par rk) (hn : n ≤ 40) {v : Nat} (hv : v < n) : ∀ u, u < n → (zI n par u (zpl n par v) ↔ zB par v u) := by
  have fwd : ∀ u, u < n → zI n par u (zpl n par v) → zB par v u := by
    refine zt_ind h (fun _ => zB_root h v hv) (fun u q hu hq hne hp ih hx => ?_)
    obtain ⟨h1, h2⟩ := zI_child h hn hu hq hp hx
    have h3 := ih h1
    have hvq : v ≠ q := fun e => h2 (by rw [e])
    obtain ⟨c, c1, c2, c3⟩ := zB_child h v hv h3 hvq
    by_cases e : c = u
    · rw [← e]; exact c3
    · exfalso
      have h4 := zI_of h hn v hv c3 _ (zI_self hv)
      have h5 := zbh_apart h c1 hu c2 hp e
      have h6 := zpl_up h hn c1 hq c2
      have h7 := zpl_up h hn hu hq hp
      unfold zI at *
      omega
  exact fun u hu => ⟨fwd u hu, fun q => zI_of h hn v hv q _ (zI_self hv)⟩
theorem zpl_bd (h : zt_ok n m par rk) (hn : n ≤ 40) {a : Nat} (ha : a < n) : 0 ≤ zpl n par a ∧ zpl n par a < n := by
  have := zI_of h hn a ha (zB_root h a ha) _ (zI_self ha)
  unfold zI at this
  rw [zpl_root h, zS_root h] at this
  omega
end ZP
end
section
/-! light nodes and the word of their ports -/
section ZL
variable {n m : Nat} {par : Nat → Int} {rk : Nat → Nat}
def zlt (n : Nat) (par : Nat → Int) (v : Nat) : Prop := par v ≠ -1 ∧ zh n par (par v).toNat ≠ (v : Int)
noncomputable def zlg (n : Nat) (par : Nat → Int) : Nat → Int → Int := fun v w => w + (if zz_dec (zlt n par v) = true then 1 else 0)
noncomputable def zli (n : Nat) (par : Nat → Int) (a : Nat) : Int := zC par (zlg n par) a 0
noncomputable def zwg (n : Nat) (par : Nat → Int) (pt : Nat → Int) : Nat → Int → Int := fun v w => if zz_dec (zlt n par v) = true then w * 16 + pt v else w
noncomputable def zwd (n : Nat) (par : Nat → Int) (pt : Nat → Int) (a : Nat) : Int := zC par (zwg n par pt) a 0
theorem zlg_t {v : Nat} {w : Int} (h : zlt n par v) : zlg n par v w = w + 1 := by unfold zlg; rw [zz_dec_t h]; simp
theorem zlg_f {v : Nat} {w : Int} (h : ¬ zlt n par v) : zlg n par v w = w := by unfold zlg; rw [zz_dec_f h]; simp
theorem zwg_t {pt : Nat → Int} {v : Nat} {w : Int} (h : zlt n par v) : zwg n par pt v w = w * 16 + pt v := by unfold zwg; rw [zz_dec_t h]; simp
theorem zwg_f {pt : Nat → Int} {v : Nat} {w : Int} (h : ¬ zlt n par v) : zwg n par pt v w = w := by unfold zwg; rw [zz_dec_f h]; simp
theorem zli_add (h : zt_ok n m par rk) (hn : n ≤ 40) : ∀ a, a < n → ∀ w, zC par (zlg n par) a w = w + zli n par a := by
  refine zt_ind h (fun w => ?_) (fun a q ha hq hne hp ih w => ?_)
  · unfold zli; rw [zC_root h.2.1, zC_root h.2.1]; omega
  · unfold zli
    rw [zC_up h hn ha hp, zC_up h hn ha hp, ih, ih]
    by_cases e : zlt n par a
    · rw [zlg_t e, zlg_t e]; omega
    · rw [zlg_f e, zlg_f e]; omega
theorem zli_root (h : zt_ok n m par rk) : zli n par m = 0 := zC_root h.2.1
theorem zli_t (h : zt_ok n m par rk) (hn : n ≤ 40) {a q : Nat} (ha : a < n) (hq : q < n) (hp : par a = (q : Int)) (e : zlt n par a) : zli n par a = zli n par q + 1 := by
  have : zli n par a = zC par (zlg n par) q (zlg n par a 0) := zC_up h hn ha hp
  rw [this, zli_add h hn q hq, zlg_t e]
  omega
theorem zli_f (h : zt_ok n m par rk) (hn : n ≤ 40) {a q : Nat} (ha : a < n) (hq : q < n) (hp : par a = (q : Int)) (e : ¬ zlt n par a) : zli n par a = zli n par q := by
  have : zli n par a = zC par (zlg n par) q (zlg n par a 0) := zC_up h hn ha hp
  rw [this, zli_add h hn q hq, zlg_f e]
  omega
/-- a light node is at most half of its parent -/
theorem zS_light (h : zt_ok n m par rk) {a q : Nat} (ha : a < n) (hq : q < n) (hp : par a = (q : Int)) (e : zlt n par a) : 2 * zS n par a + 1 ≤ zS n par q := by
  have hz : zh n par q ≠ (a : Int) := by
    have := e.2
    rw [hp] at this
    simpa using this
  have hz1 : zh n par q ≠ -1 := fun z => zh_none z a ha hp
  obtain ⟨b, b1, b2, b3, b4⟩ := zh_some hz1
  have hba : b ≠ a := by omega
  have h1 := b4 a ha hp
  have h2 := zSx_add h b1 b3 (X := fun _ => False) (fun z => z)
  have h3 := zSx_add h ha hp (X := fun c => False ∨ c = b) (fun z => z.elim False.elim (fun z => hba z.symm))
  have h4 := zSx_mono (n := n) (par := par) (p := q) (k := n) (X := fun c => (False ∨ c = b) ∨ c = a) (Y := fun _ => True) (fun _ _ _ _ => trivial)
  have hc : zSc n par q n = zSx n par q (fun _ => True) n := zc_congr (fun a _ => ⟨fun ⟨c, c1, c2, c3⟩ => ⟨c, c1, c2, trivial, c3⟩, fun ⟨c, c1, c2, _, c3⟩ => ⟨c, c1, c2, c3⟩⟩)
  have := zSc_all h hq
  omega
/-- few light nodes: each halves -/
theorem zli_few (h : zt_ok n m par rk) (hn : n ≤ 40) : ∀ a, a < n → ∃ k : Nat, zli n par a = (k : Int) ∧ zS n par a * 2 ^ k ≤ n := by
  refine zt_ind h ⟨0, zli_root h, by rw [zS_root h]; simp⟩ (fun a q ha hq hne hp ih => ?_)
  obtain ⟨k, k1, k2⟩ := ih
  by_cases e : zlt n par a
  · refine ⟨k + 1, by rw [zli_t h hn ha hq hp e, k1]; simp, ?_⟩
    have h1 := zS_light h ha hq hp e
    have h2 : zS n par a * 2 ^ (k + 1) = (2 * zS n par a) * 2 ^ k := by
      rw [Nat.pow_succ, Nat.mul_comm (2 ^ k) 2, ← Nat.mul_assoc, Nat.mul_comm (zS n par a) 2]
    rw [h2]
    exact Nat.le_trans (Nat.mul_le_mul_right _ (by omega)) k2
  · refine ⟨k, by rw [zli_f h hn ha hq hp e, k1], ?_⟩
    have h1 := zS_child h ha hp hq
    exact Nat.le_trans (Nat.mul_le_mul_right _ (by omega)) k2
theorem zli_bd (h : zt_ok n m par rk) (hn : n ≤ 40) {a : Nat} (ha : a < n) : ∃ k : Nat, zli n par a = (k : Int) ∧ k ≤ 5 := by
  obtain ⟨k, k1, k2⟩ := zli_few h hn a ha
  refine ⟨k, k1, ?_⟩
  have h1 := zS_pos (n := n) (par := par) ha
  rcases Nat.lt_or_ge k 6 with q | q
  · omega
  · exfalso
    have h2 : 2 ^ 6 ≤ 2 ^ k := Nat.pow_le_pow_right (by omega) q
    have h3 : 1 * 2 ^ k ≤ zS n par a * 2 ^ k := Nat.mul_le_mul_right _ h1
    omega
theorem zwd_gen (h : zt_ok n m par rk) (hn : n ≤ 40) {pt : Nat → Int} (hpt : ∀ v, v < n → v ≠ m → 0 ≤ pt v ∧ pt v ≤ 15) : ∀ a, a < n → ∃ k : Nat, zli n par a = (k : Int) ∧ (0 ≤ zwd n par pt a ∧ zwd n par pt a < 16 ^ k) ∧ ∀ w, zC par (zwg n par pt) a w = w * 16 ^ k + zwd n par pt a := by
  refine zt_ind h ⟨0, zli_root h, ?_, fun w => ?_⟩ (fun a q ha hq hne hp ih => ?_)
  · have : zwd n par pt m = 0 := zC_root h.2.1
    rw [this]; simp
  · have : zwd n par pt m = 0 := zC_root h.2.1
    rw [this, zC_root h.2.1]; simp
  · obtain ⟨k, k1, ⟨k2, k3⟩, k4⟩ := ih
    have ea : zwd n par pt a = zC par (zwg n par pt) q (zwg n par pt a 0) := zC_up h hn ha hp
    have hp15 := hpt a ha hne
    have hpos : (0 : Int) < 16 ^ k := Int.pow_pos (by omega)
    by_cases e : zlt n par a
    · rw [zwg_t e, k4] at ea
      refine ⟨k + 1, by rw [zli_t h hn ha hq hp e, k1]; simp, ?_, fun w => ?_⟩
      · rw [ea, Int.pow_succ]
        generalize (16 : Int) ^ k = X at *
        have h5 : (0 * 16 + pt a) * X = pt a * X := by simp
        rw [h5]
        have h6 : 0 ≤ pt a * X := Int.mul_nonneg hp15.1 (by omega)
        have h7 : pt a * X ≤ 15 * X := Int.mul_le_mul_of_nonneg_right hp15.2 (by omega)
        omega
      · rw [zC_up h hn ha hp, zwg_t e, k4, ea, Int.pow_succ]
        generalize (16 : Int) ^ k = X at *
        have h5 : (0 * 16 + pt a) * X = pt a * X := by simp
        have h6 : (w * 16 + pt a) * X = w * 16 * X + pt a * X := Int.add_mul _ _ _
        have h7 : w * (X * 16) = w * 16 * X := by rw [Int.mul_comm X 16, Int.mul_assoc]
        rw [h5, h6, h7]
        omega
    · rw [zwg_f e] at ea
      refine ⟨k, by rw [zli_f h hn ha hq hp e, k1], ?_, fun w => ?_⟩
      · rw [ea, k4]; simp only [Int.zero_mul, Int.zero_add]; exact ⟨k2, k3⟩
      · rw [zC_up h hn ha hp, zwg_f e, k4, ea, k4]; simp
/-- the climb from below c passes c -/
theorem zwd_pass (h : zt_ok n m par rk) (hn : n ≤ 40) {pt : Nat → Int} (hpt : ∀ v, v < n → v ≠ m → 0 ≤ pt v ∧ pt v ≤ 15) {c : Nat} : ∀ a, a < n → zB par a c → ∀ w, 0 ≤ w → ∃ y, 0 ≤ y ∧ zC par (zwg n par pt) a w = zC par (zwg n par pt) c y := by
  refine zt_ind h (fun ht w hw => ?_) (fun a q ha hq hne hp ih ht w hw => ?_)
  · rcases zB_iff.mp ht with e | ⟨e, -⟩
    · exact ⟨w, hw, by rw [e]⟩
    · exact absurd h.2.1 e
  · by_cases e : a = c
    · exact ⟨w, hw, by rw [e]⟩
    · rw [zC_up h hn ha hp]
      refine ih (zB_dn hp ht e) _ ?_
      have := hpt a ha hne
      by_cases e2 : zlt n par a
      · rw [zwg_t e2]; omega
      · rw [zwg_f e2]; exact hw
/-- the port to a light child on the way stands where the label's reader looks -/
theorem zwd_bits (h : zt_ok n m par rk) (hn : n ≤ 40) {pt : Nat → Int} (hpt : ∀ v, v < n → v ≠ m → 0 ≤ pt v ∧ pt v ≤ 15) {a c g : Nat} (hc : c < n) (ha : a < n) (hg : g < n) (hp : par c = (a : Int)) (hl : zlt n par c) (hb : zB par g c) :
    ∃ k : Nat, zli n par a = (k : Int) ∧ k ≤ 5 ∧ zwd n par pt g / 16 ^ k % 16 = pt c := by
  obtain ⟨y, y0, hy⟩ := zwd_pass h hn hpt g hg hb 0 (Int.le_refl 0)
  obtain ⟨k, k1, ⟨k2, k3⟩, k4⟩ := zwd_gen h hn hpt a ha
  obtain ⟨k', e1, e2⟩ := zli_bd h hn ha
  have : k' = k := by omega
  subst this
  refine ⟨k', k1, e2, ?_⟩
  have hcm : c ≠ m := by intro e; rw [e, h.2.1] at hp; omega
  have hp15 := hpt c hc hcm
  have e3 : zwd n par pt g = (y * 16 + pt c) * 16 ^ k' + zwd n par pt a := by
    have : zwd n par pt g = zC par (zwg n par pt) c y := hy
    rw [this, zC_up h hn hc hp, zwg_t hl, k4]
  have hpos : (0 : Int) < 16 ^ k' := Int.pow_pos (by omega)
  have e4 : zwd n par pt g / 16 ^ k' = y * 16 + pt c := by
    rw [e3, Int.add_comm, Int.add_mul_ediv_right _ _ (by omega), Int.ediv_eq_zero_of_lt k2 k3]
    omega
  rw [e4]
  omega
theorem zwd_bd (h : zt_ok n m par rk) (hn : n ≤ 40) {pt : Nat → Int} (hpt : ∀ v, v < n → v ≠ m → 0 ≤ pt v ∧ pt v ≤ 15) {a : Nat} (ha : a < n) : 0 ≤ zwd n par pt a ∧ zwd n par pt a < 1048576 := by
  obtain ⟨k, k1, ⟨k2, k3⟩, -⟩ := zwd_gen h hn hpt a ha
  obtain ⟨k', e1, e2⟩ := zli_bd h hn ha
  have : k' = k := by omega
  subst this
  have h6 : (16 : Int) ^ k' ≤ 1048576 := by
    rcases (show k' = 0 ∨ k' = 1 ∨ k' = 2 ∨ k' = 3 ∨ k' = 4 ∨ k' = 5 by omega) with z | z | z | z | z | z <;> rw [z] <;> decide
  omega
end ZL
end
section
/-! ways of packets -/
/-- the parent of a in the tree of m; the rank: how many are nearer to m -/
noncomputable def zpa (n : Nat) (Wt : Nat → Nat → Int) (m : Nat) : Nat → Int := fun a => ztw n Wt (zd n Wt) a m
noncomputable def zrk (n : Nat) (Wt : Nat → Nat → Int) (m : Nat) (a : Nat) : Nat := zc (fun c => zd n Wt c m < zd n Wt a m) n
theorem zrk_lt {n : Nat} {Wt : Nat → Nat → Int} {m a q : Nat} (hq : q < n) (h : zd n Wt q m < zd n Wt a m) : zrk n Wt m q < zrk n Wt m a := zc_lt (fun c _ (hc : zd n Wt c m < zd n Wt q m) => Int.lt_trans hc h) hq (fun z => absurd z (Int.lt_irrefl _)) h
theorem zrk_n {n : Nat} {Wt : Nat → Nat → Int} {m a : Nat} (ha : a < n) : zrk n Wt m a < n := by
  have h1 : zrk n Wt m a < zc (fun _ => True) n := zc_lt (fun _ _ _ => trivial) ha (fun z => absurd z (Int.lt_irrefl _)) trivial
  have := zc_le (fun _ => True) n
  omega
def zall (n : Nat) (Wt : Nat → Nat → Int) : Prop := ∀ x y, x < n → y < n → zd n Wt x y < 1000000
theorem zpa_ok {n : Nat} {Wt : Nat → Nat → Int} (hg : zg_ok n Wt) (hall : zall n Wt) {m : Nat} (hm : m < n) : zt_ok n m (zpa n Wt m) (zrk n Wt m) := by
  refine ⟨hm, ztw_self hg hm, fun a ha hne => ?_, fun a ha => zrk_n ha⟩
  obtain ⟨c, c1, c2, c3, c4⟩ := ztw_some hg hall ha hm hne
  exact ⟨c, c2, c1, zrk_lt c1 (by omega)⟩
theorem zpa_edge {n : Nat} {Wt : Nat → Nat → Int} (hg : zg_ok n Wt) (hall : zall n Wt) {m : Nat} (hm : m < n) {a q : Nat} (ha : a < n) (hp : zpa n Wt m a = (q : Int)) : q < n ∧ 0 < Wt a q ∧ zd n Wt q m < zd n Wt a m := by
  have hne : a ≠ m := by
    intro e
    subst e
    have : zpa n Wt a a = -1 := ztw_self hg ha
    omega
  obtain ⟨c, c1, c2, c3, c4⟩ := ztw_some hg hall ha hm hne
  have h5 : zpa n Wt m a = (c : Int) := c2
  have : c = q := by omega
  subst this
  exact ⟨c1, c3, by omega⟩
/-- a node's own landmark: the nearest, of those as near the lowest -/
noncomputable def zow (n : Nat) (d : Nat → Nat → Int) (mk : Nat → Prop) (a : Nat) : Int := zf (fun m => mk m ∧ ∀ m', m' < n → mk m' → d a m ≤ d a m') n
theorem zow_some {n : Nat} {d : Nat → Nat → Int} {mk : Nat → Prop} {a : Nat} (h : ∃ m, m < n ∧ mk m) : ∃ w : Nat, w < n ∧ zow n d mk a = (w : Int) ∧ mk w ∧ ∀ m', m' < n → mk m' → d a w ≤ d a m' := by
  have key : ∀ k, k ≤ n → (∃ m, m < k ∧ mk m) → ∃ m, m < k ∧ mk m ∧ ∀ m', m' < k → mk m' → d a m ≤ d a m' := by
    intro k
    induction k with
    | zero => intro _ ⟨m, hm, _⟩; omega
    | succ k ih =>
      intro hk ⟨m, hm, hmk⟩
      by_cases hx : ∃ m, m < k ∧ mk m
      · obtain ⟨b, b1, b2, b3⟩ := ih (by omega) hx
        by_cases hkp : mk k ∧ d a k < d a b
        · refine ⟨k, by omega, hkp.1, fun c' hc' hp' => ?_⟩
          by_cases e : c' = k
          · rw [e]; exact Int.le_refl _
          · have := b3 c' (by omega) hp'
            have := hkp.2
            omega
        · refine ⟨b, by omega, b2, fun c' hc' hp' => ?_⟩
          by_cases e : c' = k
          · subst e
            have : ¬ d a c' < d a b := fun z => hkp ⟨hp', z⟩
            omega
          · exact b3 c' (by omega) hp'
      · have e : m = k := by
          rcases Nat.lt_or_ge m k with q | q
          · exact absurd ⟨m, q, hmk⟩ hx
          · omega
        subst e
        refine ⟨m, by omega, hmk, fun c' hc' hp' => ?_⟩
        by_cases e : c' = m
        · rw [e]; exact Int.le_refl _
        · exact absurd ⟨c', by omega, hp'⟩ hx
  obtain ⟨b, b1, b2, b3⟩ := key n (Nat.le_refl n) h
  obtain ⟨i, h1, h2, h3, -⟩ := zf_some (P := fun m => mk m ∧ ∀ m', m' < n → mk m' → d a m ≤ d a m') (n := n) ⟨b, b1, b2, b3⟩
  exact ⟨i, h1, h2, h3.1, h3.2⟩
/-- c lies nearer to a than to its own landmark -/
def znr (n : Nat) (d : Nat → Nat → Int) (mk : Nat → Prop) (a c : Nat) : Prop := d a c < d c (zow n d mk c).toNat
section ZH
variable (n : Nat) (bh Wt : Nat → Nat → Int) (mk : Nat → Prop)
/-- the port from a node's parent to it -/
noncomputable def zpt (m : Nat) (v : Nat) : Int := zp bh (zpa n Wt m v).toNat (v : Int)
noncomputable def zhop (a g : Nat) : Int :=
  if zz_dec (a = g) = true then (a : Int)
  else if zz_dec (mk g ∨ znr n (zd n Wt) mk a g) = true then ztw n Wt (zd n Wt) a g
  else
    if zz_dec (¬ zI n (zpa n Wt (zow n (zd n Wt) mk g).toNat) a (zpl n (zpa n Wt (zow n (zd n Wt) mk g).toNat) g)) = true then zpa n Wt (zow n (zd n Wt) mk g).toNat a
    else if zz_dec (zI n (zpa n Wt (zow n (zd n Wt) mk g).toNat) (zh n (zpa n Wt (zow n (zd n Wt) mk g).toNat) a).toNat (zpl n (zpa n Wt (zow n (zd n Wt) mk g).toNat) g)) = true then zh n (zpa n Wt (zow n (zd n Wt) mk g).toNat) a
    else bh a (zwd n (zpa n Wt (zow n (zd n Wt) mk g).toNat) (zpt n bh Wt (zow n (zd n Wt) mk g).toNat) g / 16 ^ (zli n (zpa n Wt (zow n (zd n Wt) mk g).toNat) a).toNat % 16).toNat
end ZH
/-- what is left of a way: straight on, down, up -/
noncomputable def zphi (n : Nat) (Wt : Nat → Nat → Int) (mk : Nat → Prop) (m a g : Nat) : Nat :=
  if zz_dec (mk g ∨ znr n (zd n Wt) mk a g) = true then zrk n Wt g a
  else if zz_dec (zB (zpa n Wt m) g a) = true then 40 + (zrk n Wt m g - zrk n Wt m a)
  else 80 + zrk n Wt m a
section ZH2
variable {n : Nat} {bh wt Wt : Nat → Nat → Int} {mk : Nat → Prop}
theorem zphi_d {m a g : Nat} (h : mk g ∨ znr n (zd n Wt) mk a g) : zphi n Wt mk m a g = zrk n Wt g a := by unfold zphi; rw [zz_dec_t h]; simp
theorem zphi_b {m a g : Nat} (h : ¬ (mk g ∨ znr n (zd n Wt) mk a g)) (hb : zB (zpa n Wt m) g a) : zphi n Wt mk m a g = 40 + (zrk n Wt m g - zrk n Wt m a) := by unfold zphi; rw [zz_dec_f h, zz_dec_t hb]; simp
theorem zphi_u {m a g : Nat} (h : ¬ (mk g ∨ znr n (zd n Wt) mk a g)) (hb : ¬ zB (zpa n Wt m) g a) : zphi n Wt mk m a g = 80 + zrk n Wt m a := by unfold zphi; rw [zz_dec_f h, zz_dec_f hb]; simp
theorem zphi_bd (hn : n ≤ 40) {m a g : Nat} (ha : a < n) (hg : g < n) : zphi n Wt mk m a g < 120 := by
  have h1 := zrk_n (Wt := Wt) (m := g) ha
  have h2 := zrk_n (Wt := Wt) (m := m) ha
  have h3 := zrk_n (Wt := Wt) (m := m) hg
  by_cases e : mk g ∨ znr n (zd n Wt) mk a g
  · rw [zphi_d e]; omega
  · by_cases e2 : zB (zpa n Wt m) g a
    · rw [zphi_b e e2]; omega
    · rw [zphi_u e e2]; omega
theorem zpt_ok (hN : zn_ok n bh wt Wt) (hall : zall n Wt) {m : Nat} (hm : m < n) : ∀ v, v < n → v ≠ m → 0 ≤ zpt n bh Wt m v ∧ zpt n bh Wt m v ≤ 15 := by
  intro v hv hne
  obtain ⟨q, e1, e2, -⟩ := (zpa_ok hN.1 hall hm).2.2.1 v hv hne
  obtain ⟨-, h2, -⟩ := zpa_edge hN.1 hall hm hv e1
  have h3 : zp bh q (v : Int) ≠ -1 := (zp_edge hN e2 hv).mpr (by rw [← (hN.1.1 v q hv e2).2.2]; exact h2)
  unfold zpt
  rw [e1]
  simp only [Int.toNat_natCast]
  rcases zp_range bh q (v : Int) with z | z
  · exact absurd z h3
  · omega
/-- A HOP: it goes along an edge, and what is left falls -/
theorem zhop_ok (hn : n ≤ 40) (hN : zn_ok n bh wt Wt) (hall : zall n Wt) (hmk : ∃ m, m < n ∧ mk m) {a g m : Nat} (ha : a < n) (hg : g < n) (hne : a ≠ g) (hm : zow n (zd n Wt) mk g = (m : Int)) (hmn : m < n) :
    ∃ c : Nat, c < n ∧ zhop n bh Wt mk a g = (c : Int) ∧ 0 < Wt a c ∧ zphi n Wt mk m c g < zphi n Wt mk m a g ∧
      (¬ (mk g ∨ znr n (zd n Wt) mk a g) → zI n (zpa n Wt m) a (zpl n (zpa n Wt m) g) → ∃ b : Nat, b < n ∧ zh n (zpa n Wt m) a = (b : Int)) := by
  have hG := hN.1
  have T := zpa_ok hG hall hmn
  have hpt := zpt_ok hN hall hmn
  have en : zz_dec (a = g) = false := zz_dec_f hne
  by_cases hd : mk g ∨ znr n (zd n Wt) mk a g
  · obtain ⟨c, c1, c2, c3, c4⟩ := ztw_some hG hall ha hg hne
    refine ⟨c, c1, ?_, c3, ?_, fun z => absurd hd z⟩
    · unfold zhop; rw [en, zz_dec_t hd]; simpa using c2
    · have hd' : mk g ∨ znr n (zd n Wt) mk c g := by
        rcases hd with q | q
        · exact Or.inl q
        · right
          unfold znr at *
          omega
      rw [zphi_d hd, zphi_d hd']
      exact zrk_lt c1 (by omega)
  · have e1 : zz_dec (mk g ∨ znr n (zd n Wt) mk a g) = false := zz_dec_f hd
    by_cases hI : zI n (zpa n Wt m) a (zpl n (zpa n Wt m) g)
    · have hB := (zI_iff T hn hg a ha).mp hI
      obtain ⟨c, c1, c2, c3⟩ := zB_child T g hg hB (fun z => hne z.symm)
      have hz : zh n (zpa n Wt m) a ≠ -1 := fun z => zh_none z c c1 c2
      obtain ⟨b, b1, b2, b3, b4⟩ := zh_some hz
      obtain ⟨-, w1, w2⟩ := zpa_edge hG hall hmn c1 c2
      have hfall : zphi n Wt mk m c g < zphi n Wt mk m a g := by
        rw [zphi_b hd hB]
        have r1 : zrk n Wt m a < zrk n Wt m c := zrk_lt ha w2
        have r2 := (zB_rk T g hg c c3).2
        have r3 := zrk_n (Wt := Wt) (m := g) c1
        by_cases hd' : mk g ∨ znr n (zd n Wt) mk c g
        · rw [zphi_d hd']; omega
        · rw [zphi_b hd' c3]
          rcases r2 with r2 | r2
          · subst r2; omega
          · omega
      have hwac : 0 < Wt a c := by rw [(hG.1 a c ha c1).2.2]; exact w1
      refine ⟨c, c1, ?_, hwac, hfall, fun _ _ => ⟨b, b1, b2⟩⟩
      unfold zhop
      rw [en, e1, hm]
      simp only [Int.toNat_natCast]
      rw [zz_dec_f (fun z : ¬ _ => z hI), b2]
      simp only [Int.toNat_natCast]
      by_cases hIb : zI n (zpa n Wt m) b (zpl n (zpa n Wt m) g)
      · have hBb := (zI_iff T hn hg b b1).mp hIb
        have : b = c := zB_apart T hg b3 c2 hBb c3
        subst this
        simp [zz_dec_t hIb]
      · simp only [zz_dec_f hIb, Bool.false_eq_true, if_false]
        have hcb : c ≠ b := by
          intro z
          subst z
          exact hIb ((zI_iff T hn hg c b1).mpr c3)
        have hl : zlt n (zpa n Wt m) c := by
          refine ⟨by omega, ?_⟩
          rw [c2]
          simp only [Int.toNat_natCast]
          omega
        obtain ⟨k, k1, k2, k3⟩ := zwd_bits T hn hpt c1 ha hg c2 hl c3
        rw [k1]
        simp only [Int.toNat_natCast]
        have k3' : zwd n (zpa n Wt m) (zpt n bh Wt m) g / 16 ^ k % 16 = zpt n bh Wt m c := k3
        have ept : zpt n bh Wt m c = zp bh a (c : Int) := by
          unfold zpt
          rw [c2]
          simp
        have hz3 : zp bh a (c : Int) ≠ -1 := (zp_edge hN ha c1).mpr hwac
        obtain ⟨p, p1, p2, p3, -⟩ := zp_at hz3
        rw [k3', ept, p2]
        simp [p3]
    · have hB : ¬ zB (zpa n Wt m) g a := fun z => hI ((zI_iff T hn hg a ha).mpr z)
      have ham : a ≠ m := by
        intro z
        rw [z] at hB
        exact hB (zB_root T g hg)
      obtain ⟨q, q1, q2, q3⟩ := T.2.2.1 a ha ham
      obtain ⟨-, w1, w2⟩ := zpa_edge hG hall hmn ha q1
      refine ⟨q, q2, ?_, w1, ?_, fun _ z => absurd z hI⟩
      · unfold zhop
        rw [en, e1, hm]
        simp only [Int.toNat_natCast]
        rw [zz_dec_t (show ¬ _ from hI)]
        simpa using q1
      · rw [zphi_u hd hB]
        have r3 := zrk_n (Wt := Wt) (m := g) q2
        have r4 := zrk_n (Wt := Wt) (m := m) hg
        by_cases hd' : mk g ∨ znr n (zd n Wt) mk q g
        · rw [zphi_d hd']; omega
        · by_cases hb' : zB (zpa n Wt m) g q
          · rw [zphi_b hd' hb']; omega
          · rw [zphi_u hd' hb']; omega
theorem zhop_there {a : Nat} : zhop n bh Wt mk a a = (a : Int) := by unfold zhop; rw [zz_dec_t rfl]; simp
end ZH2
/-- a way: its weight and its hops, at most k -/
noncomputable def zwk (n : Nat) (bh Wt : Nat → Nat → Int) (mk : Nat → Prop) (g : Nat) : Nat → Nat → Int × Int
  | 0, _ => (0, 0)
  | k + 1, a => if zz_dec (a = g) = true then (0, 0) else (Wt a (zhop n bh Wt mk a g).toNat + (zwk n bh Wt mk g k (zhop n bh Wt mk a g).toNat).1, 1 + (zwk n bh Wt mk g k (zhop n bh Wt mk a g).toNat).2)
section ZH3
variable {n : Nat} {bh wt Wt : Nat → Nat → Int} {mk : Nat → Prop}
theorem zwk_there {g k : Nat} : zwk n bh Wt mk g k g = (0, 0) := by
  cases k with
  | zero => rfl
  | succ k => unfold zwk; rw [if_pos (zz_dec_t rfl)]
theorem zwk_on {g k a c : Nat} (hne : a ≠ g) (hc : zhop n bh Wt mk a g = (c : Int)) : zwk n bh Wt mk g (k + 1) a = (Wt a c + (zwk n bh Wt mk g k c).1, 1 + (zwk n bh Wt mk g k c).2) := by
  simp only [zwk]; rw [zz_dec_f hne, hc]; simp
theorem zwk_fuel (hn : n ≤ 40) (hN : zn_ok n bh wt Wt) (hall : zall n Wt) (hmk : ∃ m, m < n ∧ mk m) {g m : Nat} (hg : g < n) (hm : zow n (zd n Wt) mk g = (m : Int)) (hmn : m < n) : ∀ (k k' a : Nat), a < n → zphi n Wt mk m a g < k → zphi n Wt mk m a g < k' → zwk n bh Wt mk g k a = zwk n bh Wt mk g k' a := by
  intro k
  induction k with
  | zero => intro k' a _ h; omega
  | succ k ih =>
    intro k' a ha h h'
    by_cases e : a = g
    · rw [e, zwk_there, zwk_there]
    · obtain ⟨c, c1, c2, c3, c4, -⟩ := zhop_ok hn hN hall hmk ha hg e hm hmn
      obtain ⟨j, rfl⟩ : ∃ j, k' = j + 1 := ⟨k' - 1, by omega⟩
      rw [zwk_on e c2, zwk_on e c2, ih j c c1 (by omega) (by omega)]
end ZH3
end
section
/-! the choice of landmarks -/
section ZM
variable (n : Nat) (ball : Nat → Nat → Prop)
def zsv (M : Nat → Prop) (a : Nat) : Prop := ∃ v, v < n ∧ M v ∧ ball a v
noncomputable def zib (M : Nat → Prop) (v : Nat) : Nat := zc (fun a => ¬ zsv n ball M a ∧ ball a v) n
noncomputable def zbest (M : Nat → Prop) : Int := zf (fun v => 0 < zib n ball M v ∧ ∀ u, u < n → zib n ball M u ≤ zib n ball M v) n
noncomputable def zM : Nat → Nat → Prop
  | 0 => fun _ => False
  | k + 1 => fun v => zM k v ∨ (v : Int) = zbest n ball (zM k)
end ZM
section ZM2
variable {n : Nat} {ball : Nat → Nat → Prop}
/-- a greatest one, the lowest -/
theorem zmax (f : Nat → Nat) (n : Nat) : (∀ v, v < n → f v = 0) ∨ ∃ b, b < n ∧ 0 < f b ∧ ∀ u, u < n → f u ≤ f b := by
  induction n with
  | zero => exact Or.inl (fun v h => absurd h (Nat.not_lt_zero v))
  | succ n ih =>
    rcases ih with h | ⟨b, b1, b2, b3⟩
    · by_cases e : f n = 0
      · left
        intro v hv
        by_cases e2 : v = n
        · rw [e2]; exact e
        · exact h v (by omega)
      · right
        refine ⟨n, by omega, by omega, fun u hu => ?_⟩
        by_cases e2 : u = n
        · rw [e2]; exact Nat.le_refl _
        · rw [h u (by omega)]; omega
    · right
      by_cases e : f n ≤ f b
      · refine ⟨b, by omega, b2, fun u hu => ?_⟩
        by_cases e2 : u = n
        · rw [e2]; exact e
        · exact b3 u (by omega)
      · refine ⟨n, by omega, by omega, fun u hu => ?_⟩
        by_cases e2 : u = n
        · rw [e2]; exact Nat.le_refl _
        · have := b3 u (by omega); omega
theorem zbest_none {M : Nat → Prop} (h : zbest n ball M = -1) {v : Nat} (hv : v < n) : zib n ball M v = 0 := by
  rcases zmax (zib n ball M) n with q | ⟨b, b1, b2, b3⟩
  · exact q v hv
  · obtain ⟨i, h1, h2, -⟩ := zf_some (P := fun v => 0 < zib n ball M v ∧ ∀ u, u < n → zib n ball M u ≤ zib n ball M v) (n := n) ⟨b, b1, b2, b3⟩
    have : zbest n ball M = (i : Int) := h2
    omega
theorem zbest_zero {M : Nat → Prop} (h : ∀ v, v < n → zib n ball M v = 0) : zbest n ball M = -1 := zf_none (fun v hv q => by have := h v hv; omega)
theorem zbest_some {M : Nat → Prop} (h : zbest n ball M ≠ -1) : ∃ b : Nat, b < n ∧ zbest n ball M = (b : Int) ∧ 0 < zib n ball M b ∧ (∀ u, u < n → zib n ball M u ≤ zib n ball M b) ∧ ∀ u, u < b → zib n ball M u < zib n ball M b := by
  rcases zf_spec (fun v => 0 < zib n ball M v ∧ ∀ u, u < n → zib n ball M u ≤ zib n ball M v) n with ⟨i, h1, h2, h3, h4⟩ | ⟨h1, h2⟩
  · refine ⟨i, h1, h2, h3.1, h3.2, fun u hu => ?_⟩
    have h5 := h3.2 u (by omega)
    rcases Nat.lt_or_ge (zib n ball M u) (zib n ball M i) with q | q
    · exact q
    · have e : zib n ball M u = zib n ball M i := Nat.le_antisymm h5 q
      exact absurd ⟨by rw [e]; exact h3.1, by rw [e]; exact h3.2⟩ (h4 u hu)
  · exact absurd h1 h
theorem zbest_is {M : Nat → Prop} {b : Nat} (hb : b < n) (h0 : 0 < zib n ball M b) (h1 : ∀ u, u < n → zib n ball M u ≤ zib n ball M b) (h2 : ∀ u, u < b → zib n ball M u < zib n ball M b) : zbest n ball M = (b : Int) :=
  zf_found hb ⟨h0, h1⟩ (fun u hu q => by have := h2 u hu; have := q.2 b hb; omega)
theorem zib_congr {M M' : Nat → Prop} (h : ∀ v, v < n → (M v ↔ M' v)) (v : Nat) : zib n ball M v = zib n ball M' v := by
  refine zc_congr (fun a _ => ?_)
  have : zsv n ball M a ↔ zsv n ball M' a := ⟨fun ⟨u, u1, u2, u3⟩ => ⟨u, u1, (h u u1).mp u2, u3⟩, fun ⟨u, u1, u2, u3⟩ => ⟨u, u1, (h u u1).mpr u2, u3⟩⟩
  rw [this]
theorem zbest_congr {M M' : Nat → Prop} (h : ∀ v, v < n → (M v ↔ M' v)) : zbest n ball M = zbest n ball M' := by
  refine zf_congr (fun v _ => ?_)
  have e := zib_congr (ball := ball) h
  constructor
  · rintro ⟨a, b⟩; exact ⟨by rw [← e]; exact a, fun u hu => by rw [← e, ← e]; exact b u hu⟩
  · rintro ⟨a, b⟩; exact ⟨by rw [e]; exact a, fun u hu => by rw [e, e]; exact b u hu⟩
theorem zM_s (k v : Nat) : zM n ball (k + 1) v ↔ (zM n ball k v ∨ (v : Int) = zbest n ball (zM n ball k)) := Iff.rfl
/-- where no ball is left, nothing comes any more -/
theorem zM_stop {k : Nat} (h : zbest n ball (zM n ball k) = -1) : ∀ j, ∀ v, zM n ball (k + j) v ↔ zM n ball k v := by
  intro j
  induction j with
  | zero => intro v; exact Iff.rfl
  | succ j ih =>
    intro v
    have e : zbest n ball (zM n ball (k + j)) = -1 := by rw [zbest_congr (fun v _ => ih v)]; exact h
    show (zM n ball (k + j) v ∨ (v : Int) = zbest n ball (zM n ball (k + j))) ↔ _
    rw [e, ih v]
    constructor
    · rintro (q | q)
      · exact q
      · omega
    · exact Or.inl
theorem zib_new {M : Nat → Prop} {b : Nat} (hb : b < n) (h : 0 < zib n ball M b) : ¬ M b := by
  intro hm
  obtain ⟨a, a1, a2, a3⟩ := zc_ex h
  exact a2 ⟨b, hb, hm, a3⟩
theorem zun_falls {M : Nat → Prop} {b : Nat} (hb : b < n) (h : 0 < zib n ball M b) : zc (fun a => ¬ zsv n ball (fun v => M v ∨ v = b) a) n < zc (fun a => ¬ zsv n ball M a) n := by
  obtain ⟨a, a1, a2, a3⟩ := zc_ex h
  exact zc_lt (fun a _ q ⟨v, v1, v2, v3⟩ => q ⟨v, v1, Or.inl v2, v3⟩) a1 (fun q => q ⟨b, hb, Or.inr rfl, a3⟩) a2
/-- k rounds, each with a new landmark -/
theorem zM_go {k : Nat} (h : ∀ j, j < k → zbest n ball (zM n ball j) ≠ -1) : zc (zM n ball k) n = k ∧ zc (fun a => ¬ zsv n ball (zM n ball k) a) n + k ≤ n ∧ ∀ v, zM n ball k v → v < n := by
  induction k with
  | zero => exact ⟨zc_zero (fun _ _ q => q), by have := zc_le (fun a => ¬ zsv n ball (zM n ball 0) a) n; omega, fun v q => q.elim⟩
  | succ k ih =>
    obtain ⟨i1, i2, i3⟩ := ih (fun j hj => h j (by omega))
    obtain ⟨b, b1, b2, b3, -, -⟩ := zbest_some (h k (by omega))
    have hnew := zib_new b1 b3
    have hs : ∀ v, zM n ball (k + 1) v ↔ (zM n ball k v ∨ v = b) := fun v => by
      rw [zM_s, b2]
      constructor
      · rintro (q | q)
        · exact Or.inl q
        · exact Or.inr (by omega)
      · rintro (q | q)
        · exact Or.inl q
        · exact Or.inr (by omega)
    refine ⟨?_, ?_, fun v hv => ?_⟩
    · rw [zc_congr (fun v _ => hs v), zc_or (P := zM n ball k) (Q := fun v => v = b) (fun v _ hv (e : v = b) => hnew (e ▸ hv)), zc_one b1, i1]
    · have h1 := zun_falls b1 b3
      have h2 : zc (fun a => ¬ zsv n ball (zM n ball (k + 1)) a) n = zc (fun a => ¬ zsv n ball (fun v => zM n ball k v ∨ v = b) a) n := by
        refine zc_congr (fun a _ => ?_)
        have : zsv n ball (zM n ball (k + 1)) a ↔ zsv n ball (fun v => zM n ball k v ∨ v = b) a := ⟨fun ⟨u, u1, u2, u3⟩ => ⟨u, u1, (hs u).mp u2, u3⟩, fun ⟨u, u1, u2, u3⟩ => ⟨u, u1, (hs u).mpr u2, u3⟩⟩
        rw [this]
      omega
    · rcases (hs v).mp hv with q | q
      · exact i3 v q
      · omega
theorem zM_end : zbest n ball (zM n ball n) = -1 := by
  refine Classical.byContradiction (fun h => ?_)
  have all : ∀ j, j ≤ n → zbest n ball (zM n ball j) ≠ -1 := by
    intro j hj q
    have := zM_stop q (n - j)
    rw [show j + (n - j) = n by omega] at this
    rw [zbest_congr (fun v _ => this v)] at h
    exact h q
  obtain ⟨h1, h2, h3⟩ := zM_go (n := n) (ball := ball) (k := n) (fun j hj => all j (by omega))
  obtain ⟨b, b1, b2, b3, -, -⟩ := zbest_some h
  obtain ⟨a, a1, a2, a3⟩ := zc_ex b3
  have := zc_pos (P := fun a => ¬ zsv n ball (zM n ball n) a) a1 a2
  omega
/-- all are served in the end; there is a landmark -/
theorem zM_served (hself : ∀ a, a < n → ball a a) : ∀ a, a < n → zsv n ball (zM n ball n) a := by
  intro a ha
  refine Classical.byContradiction (fun h => ?_)
  have h1 : 0 < zib n ball (zM n ball n) a := zc_pos ha ⟨h, hself a ha⟩
  have h2 := zbest_none (zM_end (n := n) (ball := ball)) ha
  omega
theorem zM_lt {k v : Nat} (h : zM n ball k v) : v < n := by
  induction k with
  | zero => exact h.elim
  | succ k ih =>
    rcases (zM_s k v).mp h with q | q
    · exact ih q
    · rcases zf_range (fun v => 0 < zib n ball (zM n ball k) v ∧ ∀ u, u < n → zib n ball (zM n ball k) u ≤ zib n ball (zM n ball k) v) n with z | z
      · have : zbest n ball (zM n ball k) = -1 := z
        omega
      · have : (v : Int) < n := by rw [q]; exact z.2
        omega
end ZM2
section ZN
variable (n : Nat) (d : Nat → Nat → Int) (most : Nat)
noncomputable def zcw (M : Nat → Prop) (v : Nat) : Nat := zc (fun c => znr n d M v c) n
noncomputable def zcd (M : Nat → Prop) : Int := zf (fun v => most < zcw n d M v) n
noncomputable def zN (M0 : Nat → Prop) : Nat → Nat → Prop
  | 0 => M0
  | k + 1 => fun v => zN M0 k v ∨ (v : Int) = zcd n d most (zN M0 k)
end ZN
section ZN2
variable {n : Nat} {d : Nat → Nat → Int} {most : Nat} {M0 : Nat → Prop}
theorem zow_congr {M M' : Nat → Prop} (h : ∀ v, v < n → (M v ↔ M' v)) (a : Nat) : zow n d M a = zow n d M' a := by
  refine zf_congr (fun m hm => ⟨fun ⟨q1, q2⟩ => ⟨(h m hm).mp q1, fun m' hm' q => q2 m' hm' ((h m' hm').mpr q)⟩, fun ⟨q1, q2⟩ => ⟨(h m hm).mpr q1, fun m' hm' q => q2 m' hm' ((h m' hm').mp q)⟩⟩)
theorem znr_congr {M M' : Nat → Prop} (h : ∀ v, v < n → (M v ↔ M' v)) (a c : Nat) : znr n d M a c ↔ znr n d M' a c := by unfold znr; rw [zow_congr h]
theorem zcw_congr {M M' : Nat → Prop} (h : ∀ v, v < n → (M v ↔ M' v)) (v : Nat) : zcw n d M v = zcw n d M' v := zc_congr (fun c _ => znr_congr h v c)
theorem zcd_congr {M M' : Nat → Prop} (h : ∀ v, v < n → (M v ↔ M' v)) : zcd n d most M = zcd n d most M' := zf_congr (fun v _ => by rw [zcw_congr h])
/-- a landmark's cluster is empty -/
theorem zcw_mark (hsym : ∀ a b, a < n → b < n → d a b = d b a) {M : Nat → Prop} {v : Nat} (hv : v < n) (hm : M v) : zcw n d M v = 0 := by
  refine zc_zero (fun c hc q => ?_)
  obtain ⟨w, w1, w2, w3, w4⟩ := zow_some (d := d) (a := c) ⟨v, hv, hm⟩
  have := w4 v hv hm
  unfold znr at q
  rw [w2] at q
  simp only [Int.toNat_natCast] at q
  rw [hsym v c hv hc] at q
  omega
theorem zN_s (k v : Nat) : zN n d most M0 (k + 1) v ↔ (zN n d most M0 k v ∨ (v : Int) = zcd n d most (zN n d most M0 k)) := Iff.rfl
theorem zN_stop {k : Nat} (h : zcd n d most (zN n d most M0 k) = -1) : ∀ j, ∀ v, zN n d most M0 (k + j) v ↔ zN n d most M0 k v := by
  intro j
  induction j with
  | zero => intro v; exact Iff.rfl
  | succ j ih =>
    intro v
    have e : zcd n d most (zN n d most M0 (k + j)) = -1 := by rw [zcd_congr (fun v _ => ih v)]; exact h
    show (zN n d most M0 (k + j) v ∨ (v : Int) = zcd n d most (zN n d most M0 (k + j))) ↔ _
    rw [e, ih v]
    constructor
    · rintro (q | q)
      · exact q
      · omega
    · exact Or.inl
theorem zcd_some {M : Nat → Prop} (h : zcd n d most M ≠ -1) : ∃ b : Nat, b < n ∧ zcd n d most M = (b : Int) ∧ most < zcw n d M b ∧ ∀ u, u < b → ¬ most < zcw n d M u := by
  rcases zf_spec (fun v => most < zcw n d M v) n with ⟨i, h1, h2, h3, h4⟩ | ⟨h1, h2⟩
  · exact ⟨i, h1, h2, h3, h4⟩
  · exact absurd h1 h
theorem zN_go (hsym : ∀ a b, a < n → b < n → d a b = d b a) {k : Nat} (h : ∀ j, j < k → zcd n d most (zN n d most M0 j) ≠ -1) : zc M0 n + k ≤ zc (zN n d most M0 k) n := by
  induction k with
  | zero => exact Nat.le_refl _
  | succ k ih =>
    have i1 := ih (fun j hj => h j (by omega))
    obtain ⟨b, b1, b2, b3, -⟩ := zcd_some (h k (by omega))
    have hnew : ¬ zN n d most M0 k b := fun q => by have := zcw_mark hsym b1 q; omega
    have hs : ∀ v, zN n d most M0 (k + 1) v ↔ (zN n d most M0 k v ∨ v = b) := fun v => by
      rw [zN_s, b2]
      constructor
      · rintro (q | q)
        · exact Or.inl q
        · exact Or.inr (by omega)
      · rintro (q | q)
        · exact Or.inl q
        · exact Or.inr (by omega)
    rw [zc_congr (fun v _ => hs v), zc_or (P := zN n d most M0 k) (Q := fun v => v = b) (fun v _ hv (e : v = b) => hnew (e ▸ hv)), zc_one b1]
    omega
theorem zN_end (hsym : ∀ a b, a < n → b < n → d a b = d b a) (h0 : 0 < zc M0 n) : zcd n d most (zN n d most M0 n) = -1 := by
  refine Classical.byContradiction (fun h => ?_)
  have all : ∀ j, j ≤ n → zcd n d most (zN n d most M0 j) ≠ -1 := by
    intro j hj q
    have := zN_stop q (n - j)
    rw [show j + (n - j) = n by omega] at this
    rw [zcd_congr (fun v _ => this v)] at h
    exact h q
  have h1 := zN_go hsym (fun j hj => all j (by omega)) (k := n)
  have h2 := zc_le (zN n d most M0 n) n
  omega
theorem zN_sub {k v : Nat} (h : M0 v) : zN n d most M0 k v := by
  induction k with
  | zero => exact h
  | succ k ih => exact Or.inl ih
end ZN2
end
