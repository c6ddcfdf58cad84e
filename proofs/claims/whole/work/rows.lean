section
/-- a private method of a class that the tables say can be made, by its rows of tables_1 -/
def lw_okq (q : MethodName × Nat) : Prop := (q.1.cls ≠ "java/lang/invoke/MethodHandle" ∧ q.1.cls ≠ "java/lang/invoke/VarHandle") ∧ Cond.instantiable q.1.cls q.2 ∈ tables_1 ∧ Cond.privateMethod q.1 ∈ tables_1 ∧ Cond.instanceMethod q.1 ∈ tables_1
theorem lw_p0 : lw_okq (⟨"java/lang/Throwable", "fillInStackTrace", "(I)Ljava/lang/Throwable;"⟩, 6) := ⟨⟨by decide +kernel, by decide +kernel⟩, List.mem_of_getElem? (i := 355) (by decide +kernel), List.mem_of_getElem? (i := 353) (by decide +kernel), List.mem_of_getElem? (i := 354) (by decide +kernel)⟩
theorem lw_p1 : lw_okq (⟨"ShadowWarden$Machine", "step", "()V"⟩, 11) := ⟨⟨by decide +kernel, by decide +kernel⟩, List.mem_of_getElem? (i := 186) (by decide +kernel), List.mem_of_getElem? (i := 432) (by decide +kernel), List.mem_of_getElem? (i := 433) (by decide +kernel)⟩
theorem lw_p2 : lw_okq (⟨"ShadowWarden$Pieces", "lengthFrom", "(I)I"⟩, 4) := ⟨⟨by decide +kernel, by decide +kernel⟩, List.mem_of_getElem? (i := 86) (by decide +kernel), List.mem_of_getElem? (i := 440) (by decide +kernel), List.mem_of_getElem? (i := 441) (by decide +kernel)⟩
theorem lw_p3 : lw_okq (⟨"ShadowWarden$Machine", "calculate", "(I)V"⟩, 11) := ⟨⟨by decide +kernel, by decide +kernel⟩, List.mem_of_getElem? (i := 186) (by decide +kernel), List.mem_of_getElem? (i := 455) (by decide +kernel), List.mem_of_getElem? (i := 456) (by decide +kernel)⟩
theorem lw_p4 : lw_okq (⟨"ShadowWarden$Machine", "answer", "(II)V"⟩, 11) := ⟨⟨by decide +kernel, by decide +kernel⟩, List.mem_of_getElem? (i := 186) (by decide +kernel), List.mem_of_getElem? (i := 479) (by decide +kernel), List.mem_of_getElem? (i := 480) (by decide +kernel)⟩
theorem lw_p5 : lw_okq (⟨"ShadowWarden$Machine", "useMemory", "(I)V"⟩, 11) := ⟨⟨by decide +kernel, by decide +kernel⟩, List.mem_of_getElem? (i := 186) (by decide +kernel), List.mem_of_getElem? (i := 500) (by decide +kernel), List.mem_of_getElem? (i := 501) (by decide +kernel)⟩
theorem lw_p6 : lw_okq (⟨"ShadowWarden$Machine", "load", "(II)V"⟩, 11) := ⟨⟨by decide +kernel, by decide +kernel⟩, List.mem_of_getElem? (i := 186) (by decide +kernel), List.mem_of_getElem? (i := 515) (by decide +kernel), List.mem_of_getElem? (i := 516) (by decide +kernel)⟩
theorem lw_p7 : lw_okq (⟨"ShadowWarden$Machine", "noteClosed", "(III)V"⟩, 11) := ⟨⟨by decide +kernel, by decide +kernel⟩, List.mem_of_getElem? (i := 186) (by decide +kernel), List.mem_of_getElem? (i := 519) (by decide +kernel), List.mem_of_getElem? (i := 520) (by decide +kernel)⟩
theorem lw_p8 : lw_okq (⟨"ShadowWarden$Machine", "store", "(II)V"⟩, 11) := ⟨⟨by decide +kernel, by decide +kernel⟩, List.mem_of_getElem? (i := 186) (by decide +kernel), List.mem_of_getElem? (i := 535) (by decide +kernel), List.mem_of_getElem? (i := 536) (by decide +kernel)⟩
theorem lw_p9 : lw_okq (⟨"ShadowWarden$Machine", "jump", "(I)V"⟩, 11) := ⟨⟨by decide +kernel, by decide +kernel⟩, List.mem_of_getElem? (i := 186) (by decide +kernel), List.mem_of_getElem? (i := 543) (by decide +kernel), List.mem_of_getElem? (i := 544) (by decide +kernel)⟩
theorem lw_p10 : lw_okq (⟨"ShadowWarden$Machine", "noteUnknown", "(Z)V"⟩, 11) := ⟨⟨by decide +kernel, by decide +kernel⟩, List.mem_of_getElem? (i := 186) (by decide +kernel), List.mem_of_getElem? (i := 547) (by decide +kernel), List.mem_of_getElem? (i := 548) (by decide +kernel)⟩
theorem lw_p11 : lw_okq (⟨"ShadowWarden$Machine", "ask", "()V"⟩, 11) := ⟨⟨by decide +kernel, by decide +kernel⟩, List.mem_of_getElem? (i := 186) (by decide +kernel), List.mem_of_getElem? (i := 551) (by decide +kernel), List.mem_of_getElem? (i := 552) (by decide +kernel)⟩
theorem lw_p12 : lw_okq (⟨"ShadowWarden$Heap", "placeFor", "(I)I"⟩, 9) := ⟨⟨by decide +kernel, by decide +kernel⟩, List.mem_of_getElem? (i := 127) (by decide +kernel), List.mem_of_getElem? (i := 559) (by decide +kernel), List.mem_of_getElem? (i := 560) (by decide +kernel)⟩
theorem lw_p13 : lw_okq (⟨"ShadowWarden$Heap", "isFree", "(II)Z"⟩, 9) := ⟨⟨by decide +kernel, by decide +kernel⟩, List.mem_of_getElem? (i := 127) (by decide +kernel), List.mem_of_getElem? (i := 563) (by decide +kernel), List.mem_of_getElem? (i := 564) (by decide +kernel)⟩
theorem lw_p14 : lw_okq (⟨"ShadowWarden$Heap", "add", "(III)V"⟩, 9) := ⟨⟨by decide +kernel, by decide +kernel⟩, List.mem_of_getElem? (i := 127) (by decide +kernel), List.mem_of_getElem? (i := 567) (by decide +kernel), List.mem_of_getElem? (i := 568) (by decide +kernel)⟩
theorem lw_p15 : lw_okq (⟨"ShadowWarden$Machine", "give", "()V"⟩, 11) := ⟨⟨by decide +kernel, by decide +kernel⟩, List.mem_of_getElem? (i := 186) (by decide +kernel), List.mem_of_getElem? (i := 575) (by decide +kernel), List.mem_of_getElem? (i := 576) (by decide +kernel)⟩
def lw_privs_1 : List (MethodName × Nat) := [(⟨"java/lang/Throwable", "fillInStackTrace", "(I)Ljava/lang/Throwable;"⟩, 6), (⟨"ShadowWarden$Machine", "step", "()V"⟩, 11), (⟨"ShadowWarden$Pieces", "lengthFrom", "(I)I"⟩, 4), (⟨"ShadowWarden$Machine", "calculate", "(I)V"⟩, 11), (⟨"ShadowWarden$Machine", "answer", "(II)V"⟩, 11), (⟨"ShadowWarden$Machine", "useMemory", "(I)V"⟩, 11), (⟨"ShadowWarden$Machine", "load", "(II)V"⟩, 11), (⟨"ShadowWarden$Machine", "noteClosed", "(III)V"⟩, 11), (⟨"ShadowWarden$Machine", "store", "(II)V"⟩, 11), (⟨"ShadowWarden$Machine", "jump", "(I)V"⟩, 11), (⟨"ShadowWarden$Machine", "noteUnknown", "(Z)V"⟩, 11), (⟨"ShadowWarden$Machine", "ask", "()V"⟩, 11), (⟨"ShadowWarden$Heap", "placeFor", "(I)I"⟩, 9), (⟨"ShadowWarden$Heap", "isFree", "(II)Z"⟩, 9), (⟨"ShadowWarden$Heap", "add", "(III)V"⟩, 9), (⟨"ShadowWarden$Machine", "give", "()V"⟩, 11)]
theorem lw_r1 : ∀ q ∈ lw_privs_1, lw_okq q := List.forall_mem_cons.mpr ⟨lw_p0, List.forall_mem_cons.mpr ⟨lw_p1, List.forall_mem_cons.mpr ⟨lw_p2, List.forall_mem_cons.mpr ⟨lw_p3, List.forall_mem_cons.mpr ⟨lw_p4, List.forall_mem_cons.mpr ⟨lw_p5, List.forall_mem_cons.mpr ⟨lw_p6, List.forall_mem_cons.mpr ⟨lw_p7, List.forall_mem_cons.mpr ⟨lw_p8, List.forall_mem_cons.mpr ⟨lw_p9, List.forall_mem_cons.mpr ⟨lw_p10, List.forall_mem_cons.mpr ⟨lw_p11, List.forall_mem_cons.mpr ⟨lw_p12, List.forall_mem_cons.mpr ⟨lw_p13, List.forall_mem_cons.mpr ⟨lw_p14, List.forall_mem_cons.mpr ⟨lw_p15, fun _ h => absurd h List.not_mem_nil⟩⟩⟩⟩⟩⟩⟩⟩⟩⟩⟩⟩⟩⟩⟩⟩
theorem lw_p16 : lw_okq (⟨"ShadowWarden$Heap", "longestResting", "()I"⟩, 9) := ⟨⟨by decide +kernel, by decide +kernel⟩, List.mem_of_getElem? (i := 127) (by decide +kernel), List.mem_of_getElem? (i := 589) (by decide +kernel), List.mem_of_getElem? (i := 590) (by decide +kernel)⟩
theorem lw_p17 : lw_okq (⟨"ShadowWarden$Heap", "remove", "(I)V"⟩, 9) := ⟨⟨by decide +kernel, by decide +kernel⟩, List.mem_of_getElem? (i := 127) (by decide +kernel), List.mem_of_getElem? (i := 593) (by decide +kernel), List.mem_of_getElem? (i := 594) (by decide +kernel)⟩
theorem lw_p18 : lw_okq (⟨"ShadowWarden$LeakScan", "followAll", "(I)V"⟩, 6) := ⟨⟨by decide +kernel, by decide +kernel⟩, List.mem_of_getElem? (i := 161) (by decide +kernel), List.mem_of_getElem? (i := 712) (by decide +kernel), List.mem_of_getElem? (i := 713) (by decide +kernel)⟩
theorem lw_p19 : lw_okq (⟨"ShadowWarden$LeakScan", "followWords", "(III)V"⟩, 6) := ⟨⟨by decide +kernel, by decide +kernel⟩, List.mem_of_getElem? (i := 161) (by decide +kernel), List.mem_of_getElem? (i := 716) (by decide +kernel), List.mem_of_getElem? (i := 717) (by decide +kernel)⟩
theorem lw_p20 : lw_okq (⟨"ShadowWarden$LeakScan", "follow", "(II)V"⟩, 6) := ⟨⟨by decide +kernel, by decide +kernel⟩, List.mem_of_getElem? (i := 161) (by decide +kernel), List.mem_of_getElem? (i := 727) (by decide +kernel), List.mem_of_getElem? (i := 728) (by decide +kernel)⟩
theorem lw_p21 : lw_okq (⟨"ShadowWarden$LeakScan", "takes", "(III)Z"⟩, 6) := ⟨⟨by decide +kernel, by decide +kernel⟩, List.mem_of_getElem? (i := 161) (by decide +kernel), List.mem_of_getElem? (i := 735) (by decide +kernel), List.mem_of_getElem? (i := 736) (by decide +kernel)⟩
theorem lw_p22 : lw_okq (⟨"ShadowWarden$LeakScan", "loseWithAllBehind", "(I)V"⟩, 6) := ⟨⟨by decide +kernel, by decide +kernel⟩, List.mem_of_getElem? (i := 161) (by decide +kernel), List.mem_of_getElem? (i := 747) (by decide +kernel), List.mem_of_getElem? (i := 748) (by decide +kernel)⟩
theorem lw_p23 : lw_okq (⟨"ShadowWardenModel", "bad", "(Z)Z"⟩, 29) := ⟨⟨by decide +kernel, by decide +kernel⟩, List.mem_of_getElem? (i := 766) (by decide +kernel), List.mem_of_getElem? (i := 871) (by decide +kernel), List.mem_of_getElem? (i := 872) (by decide +kernel)⟩
theorem lw_p24 : lw_okq (⟨"ShadowWardenModel", "endOf", "(I)I"⟩, 29) := ⟨⟨by decide +kernel, by decide +kernel⟩, List.mem_of_getElem? (i := 766) (by decide +kernel), List.mem_of_getElem? (i := 875) (by decide +kernel), List.mem_of_getElem? (i := 876) (by decide +kernel)⟩
theorem lw_p25 : lw_okq (⟨"ShadowWardenModel", "ends", "(I)Z"⟩, 29) := ⟨⟨by decide +kernel, by decide +kernel⟩, List.mem_of_getElem? (i := 766) (by decide +kernel), List.mem_of_getElem? (i := 879) (by decide +kernel), List.mem_of_getElem? (i := 880) (by decide +kernel)⟩
theorem lw_p26 : lw_okq (⟨"ShadowWardenModel", "put", "(III)V"⟩, 29) := ⟨⟨by decide +kernel, by decide +kernel⟩, List.mem_of_getElem? (i := 766) (by decide +kernel), List.mem_of_getElem? (i := 887) (by decide +kernel), List.mem_of_getElem? (i := 888) (by decide +kernel)⟩
theorem lw_p27 : lw_okq (⟨"ShadowWardenModel", "access", "(II)Z"⟩, 29) := ⟨⟨by decide +kernel, by decide +kernel⟩, List.mem_of_getElem? (i := 766) (by decide +kernel), List.mem_of_getElem? (i := 895) (by decide +kernel), List.mem_of_getElem? (i := 896) (by decide +kernel)⟩
theorem lw_p28 : lw_okq (⟨"ShadowWardenModel", "note", "(II)V"⟩, 29) := ⟨⟨by decide +kernel, by decide +kernel⟩, List.mem_of_getElem? (i := 766) (by decide +kernel), List.mem_of_getElem? (i := 899) (by decide +kernel), List.mem_of_getElem? (i := 900) (by decide +kernel)⟩
theorem lw_p29 : lw_okq (⟨"ShadowWardenModel", "closed", "(III)V"⟩, 29) := ⟨⟨by decide +kernel, by decide +kernel⟩, List.mem_of_getElem? (i := 766) (by decide +kernel), List.mem_of_getElem? (i := 903) (by decide +kernel), List.mem_of_getElem? (i := 904) (by decide +kernel)⟩
theorem lw_p30 : lw_okq (⟨"ShadowWardenModel", "word", "(I)I"⟩, 29) := ⟨⟨by decide +kernel, by decide +kernel⟩, List.mem_of_getElem? (i := 766) (by decide +kernel), List.mem_of_getElem? (i := 907) (by decide +kernel), List.mem_of_getElem? (i := 908) (by decide +kernel)⟩
theorem lw_p31 : lw_okq (⟨"ShadowWardenModel", "wordKnown", "(I)I"⟩, 29) := ⟨⟨by decide +kernel, by decide +kernel⟩, List.mem_of_getElem? (i := 766) (by decide +kernel), List.mem_of_getElem? (i := 911) (by decide +kernel), List.mem_of_getElem? (i := 912) (by decide +kernel)⟩
def lw_privs_2 : List (MethodName × Nat) := [(⟨"ShadowWarden$Heap", "longestResting", "()I"⟩, 9), (⟨"ShadowWarden$Heap", "remove", "(I)V"⟩, 9), (⟨"ShadowWarden$LeakScan", "followAll", "(I)V"⟩, 6), (⟨"ShadowWarden$LeakScan", "followWords", "(III)V"⟩, 6), (⟨"ShadowWarden$LeakScan", "follow", "(II)V"⟩, 6), (⟨"ShadowWarden$LeakScan", "takes", "(III)Z"⟩, 6), (⟨"ShadowWarden$LeakScan", "loseWithAllBehind", "(I)V"⟩, 6), (⟨"ShadowWardenModel", "bad", "(Z)Z"⟩, 29), (⟨"ShadowWardenModel", "endOf", "(I)I"⟩, 29), (⟨"ShadowWardenModel", "ends", "(I)Z"⟩, 29), (⟨"ShadowWardenModel", "put", "(III)V"⟩, 29), (⟨"ShadowWardenModel", "access", "(II)Z"⟩, 29), (⟨"ShadowWardenModel", "note", "(II)V"⟩, 29), (⟨"ShadowWardenModel", "closed", "(III)V"⟩, 29), (⟨"ShadowWardenModel", "word", "(I)I"⟩, 29), (⟨"ShadowWardenModel", "wordKnown", "(I)I"⟩, 29)]
theorem lw_r2 : ∀ q ∈ lw_privs_2, lw_okq q := List.forall_mem_cons.mpr ⟨lw_p16, List.forall_mem_cons.mpr ⟨lw_p17, List.forall_mem_cons.mpr ⟨lw_p18, List.forall_mem_cons.mpr ⟨lw_p19, List.forall_mem_cons.mpr ⟨lw_p20, List.forall_mem_cons.mpr ⟨lw_p21, List.forall_mem_cons.mpr ⟨lw_p22, List.forall_mem_cons.mpr ⟨lw_p23, List.forall_mem_cons.mpr ⟨lw_p24, List.forall_mem_cons.mpr ⟨lw_p25, List.forall_mem_cons.mpr ⟨lw_p26, List.forall_mem_cons.mpr ⟨lw_p27, List.forall_mem_cons.mpr ⟨lw_p28, List.forall_mem_cons.mpr ⟨lw_p29, List.forall_mem_cons.mpr ⟨lw_p30, List.forall_mem_cons.mpr ⟨lw_p31, fun _ h => absurd h List.not_mem_nil⟩⟩⟩⟩⟩⟩⟩⟩⟩⟩⟩⟩⟩⟩⟩⟩
theorem lw_p32 : lw_okq (⟨"ShadowWardenModel", "perform", "(II)I"⟩, 29) := ⟨⟨by decide +kernel, by decide +kernel⟩, List.mem_of_getElem? (i := 766) (by decide +kernel), List.mem_of_getElem? (i := 915) (by decide +kernel), List.mem_of_getElem? (i := 916) (by decide +kernel)⟩
theorem lw_p33 : lw_okq (⟨"ShadowWardenModel", "ask", "(I)I"⟩, 29) := ⟨⟨by decide +kernel, by decide +kernel⟩, List.mem_of_getElem? (i := 766) (by decide +kernel), List.mem_of_getElem? (i := 919) (by decide +kernel), List.mem_of_getElem? (i := 920) (by decide +kernel)⟩
theorem lw_p34 : lw_okq (⟨"ShadowWardenModel", "free", "(II)Z"⟩, 29) := ⟨⟨by decide +kernel, by decide +kernel⟩, List.mem_of_getElem? (i := 766) (by decide +kernel), List.mem_of_getElem? (i := 926) (by decide +kernel), List.mem_of_getElem? (i := 927) (by decide +kernel)⟩
theorem lw_p35 : lw_okq (⟨"ShadowWardenModel", "mark", "(III)V"⟩, 29) := ⟨⟨by decide +kernel, by decide +kernel⟩, List.mem_of_getElem? (i := 766) (by decide +kernel), List.mem_of_getElem? (i := 930) (by decide +kernel), List.mem_of_getElem? (i := 931) (by decide +kernel)⟩
theorem lw_p36 : lw_okq (⟨"ShadowWardenModel", "give", "(I)V"⟩, 29) := ⟨⟨by decide +kernel, by decide +kernel⟩, List.mem_of_getElem? (i := 766) (by decide +kernel), List.mem_of_getElem? (i := 934) (by decide +kernel), List.mem_of_getElem? (i := 935) (by decide +kernel)⟩
theorem lw_p37 : lw_okq (⟨"ShadowWardenModel", "resting", "()I"⟩, 29) := ⟨⟨by decide +kernel, by decide +kernel⟩, List.mem_of_getElem? (i := 766) (by decide +kernel), List.mem_of_getElem? (i := 938) (by decide +kernel), List.mem_of_getElem? (i := 939) (by decide +kernel)⟩
theorem lw_p38 : lw_okq (⟨"ShadowWardenModel", "forget", "()V"⟩, 29) := ⟨⟨by decide +kernel, by decide +kernel⟩, List.mem_of_getElem? (i := 766) (by decide +kernel), List.mem_of_getElem? (i := 942) (by decide +kernel), List.mem_of_getElem? (i := 943) (by decide +kernel)⟩
theorem lw_p39 : lw_okq (⟨"ShadowWardenModel", "compute", "(II)V"⟩, 29) := ⟨⟨by decide +kernel, by decide +kernel⟩, List.mem_of_getElem? (i := 766) (by decide +kernel), List.mem_of_getElem? (i := 946) (by decide +kernel), List.mem_of_getElem? (i := 947) (by decide +kernel)⟩
theorem lw_p40 : lw_okq (⟨"ShadowWardenModel", "scan", "()V"⟩, 29) := ⟨⟨by decide +kernel, by decide +kernel⟩, List.mem_of_getElem? (i := 766) (by decide +kernel), List.mem_of_getElem? (i := 976) (by decide +kernel), List.mem_of_getElem? (i := 977) (by decide +kernel)⟩
theorem lw_p41 : lw_okq (⟨"ShadowWardenModel", "rootsLead", "(I)I"⟩, 29) := ⟨⟨by decide +kernel, by decide +kernel⟩, List.mem_of_getElem? (i := 766) (by decide +kernel), List.mem_of_getElem? (i := 980) (by decide +kernel), List.mem_of_getElem? (i := 981) (by decide +kernel)⟩
theorem lw_p42 : lw_okq (⟨"ShadowWardenModel", "wordsLead", "(III)I"⟩, 29) := ⟨⟨by decide +kernel, by decide +kernel⟩, List.mem_of_getElem? (i := 766) (by decide +kernel), List.mem_of_getElem? (i := 984) (by decide +kernel), List.mem_of_getElem? (i := 985) (by decide +kernel)⟩
theorem lw_p43 : lw_okq (⟨"ShadowWardenModel", "leads", "(II)I"⟩, 29) := ⟨⟨by decide +kernel, by decide +kernel⟩, List.mem_of_getElem? (i := 766) (by decide +kernel), List.mem_of_getElem? (i := 988) (by decide +kernel), List.mem_of_getElem? (i := 989) (by decide +kernel)⟩
theorem lw_p44 : lw_okq (⟨"ShadowWardenModel", "led", "(III)Z"⟩, 29) := ⟨⟨by decide +kernel, by decide +kernel⟩, List.mem_of_getElem? (i := 766) (by decide +kernel), List.mem_of_getElem? (i := 992) (by decide +kernel), List.mem_of_getElem? (i := 993) (by decide +kernel)⟩
theorem lw_p45 : lw_okq (⟨"ShadowWardenModel", "blockLeads", "(II)I"⟩, 29) := ⟨⟨by decide +kernel, by decide +kernel⟩, List.mem_of_getElem? (i := 766) (by decide +kernel), List.mem_of_getElem? (i := 996) (by decide +kernel), List.mem_of_getElem? (i := 997) (by decide +kernel)⟩
theorem lw_p46 : lw_okq (⟨"ShadowWardenModel", "drag", "(I)V"⟩, 29) := ⟨⟨by decide +kernel, by decide +kernel⟩, List.mem_of_getElem? (i := 766) (by decide +kernel), List.mem_of_getElem? (i := 1000) (by decide +kernel), List.mem_of_getElem? (i := 1001) (by decide +kernel)⟩
def lw_privs_3 : List (MethodName × Nat) := [(⟨"ShadowWardenModel", "perform", "(II)I"⟩, 29), (⟨"ShadowWardenModel", "ask", "(I)I"⟩, 29), (⟨"ShadowWardenModel", "free", "(II)Z"⟩, 29), (⟨"ShadowWardenModel", "mark", "(III)V"⟩, 29), (⟨"ShadowWardenModel", "give", "(I)V"⟩, 29), (⟨"ShadowWardenModel", "resting", "()I"⟩, 29), (⟨"ShadowWardenModel", "forget", "()V"⟩, 29), (⟨"ShadowWardenModel", "compute", "(II)V"⟩, 29), (⟨"ShadowWardenModel", "scan", "()V"⟩, 29), (⟨"ShadowWardenModel", "rootsLead", "(I)I"⟩, 29), (⟨"ShadowWardenModel", "wordsLead", "(III)I"⟩, 29), (⟨"ShadowWardenModel", "leads", "(II)I"⟩, 29), (⟨"ShadowWardenModel", "led", "(III)Z"⟩, 29), (⟨"ShadowWardenModel", "blockLeads", "(II)I"⟩, 29), (⟨"ShadowWardenModel", "drag", "(I)V"⟩, 29)]
theorem lw_r3 : ∀ q ∈ lw_privs_3, lw_okq q := List.forall_mem_cons.mpr ⟨lw_p32, List.forall_mem_cons.mpr ⟨lw_p33, List.forall_mem_cons.mpr ⟨lw_p34, List.forall_mem_cons.mpr ⟨lw_p35, List.forall_mem_cons.mpr ⟨lw_p36, List.forall_mem_cons.mpr ⟨lw_p37, List.forall_mem_cons.mpr ⟨lw_p38, List.forall_mem_cons.mpr ⟨lw_p39, List.forall_mem_cons.mpr ⟨lw_p40, List.forall_mem_cons.mpr ⟨lw_p41, List.forall_mem_cons.mpr ⟨lw_p42, List.forall_mem_cons.mpr ⟨lw_p43, List.forall_mem_cons.mpr ⟨lw_p44, List.forall_mem_cons.mpr ⟨lw_p45, List.forall_mem_cons.mpr ⟨lw_p46, fun _ h => absurd h List.not_mem_nil⟩⟩⟩⟩⟩⟩⟩⟩⟩⟩⟩⟩⟩⟩⟩
def lw_privs : List (MethodName × Nat) := lw_privs_1 ++ (lw_privs_2 ++ (lw_privs_3))
def lw_tbl : List Cond := k2_sels lw_privs ++ tables_1
theorem lw_privs_ok : ∀ q ∈ lw_privs, lw_okq q := by
  show ∀ q ∈ lw_privs_1 ++ (lw_privs_2 ++ (lw_privs_3)), lw_okq q
  exact List.forall_mem_append.mpr ⟨lw_r1, List.forall_mem_append.mpr ⟨lw_r2, lw_r3⟩⟩
end
section
def zz_WS : List Cond := lw_tbl.filter goodWord
theorem zz_good (w : Cond) (h : w ∈ zz_WS) : (w.onTables && w.keeps) = true ∨ ∃ ty, w = .arrayClass ty := good_of_word (List.mem_filter.mp h).2
theorem zz_in {w : Cond} (i : Nat) (h : lw_tbl[i]? = some w) (g : goodWord w = true) : w ∈ zz_WS := List.mem_filter.mpr ⟨List.mem_of_getElem? h, g⟩
theorem zz_sub {ws : List Cond} (h : ws.all (fun w => decide (w ∈ lw_tbl) && goodWord w) = true) : ∀ w ∈ ws, w ∈ zz_WS := fun w hw => by
  have h1 := List.all_eq_true.mp h w hw
  simp only [Bool.and_eq_true, decide_eq_true_eq] at h1
  exact List.mem_filter.mpr h1
def zR_SW : String := "ShadowWarden"
def zT_SW : u_T := fun k => match k with
  | 0 => ("ShadowWarden", "bytes", "LShadowWarden$Memory;", true)
  | 1 => ("ShadowWarden", "registers", "LShadowWarden$Registers;", true)
  | 2 => ("ShadowWarden", "program", "LShadowWarden$Program;", true)
  | 3 => ("ShadowWarden", "pieces", "LShadowWarden$Pieces;", true)
  | 4 => ("ShadowWarden", "findings", "LShadowWarden$Findings;", true)
  | 5 => ("ShadowWarden", "heap", "LShadowWarden$Heap;", true)
  | 6 => ("ShadowWarden", "scan", "LShadowWarden$LeakScan;", true)
  | _ => ("ShadowWarden", "machine", "LShadowWarden$Machine;", true)
def zt_SW : Nat → FieldType := fun k => match k with
  | 0 => .object "ShadowWarden$Memory"
  | 1 => .object "ShadowWarden$Registers"
  | 2 => .object "ShadowWarden$Program"
  | 3 => .object "ShadowWarden$Pieces"
  | 4 => .object "ShadowWarden$Findings"
  | 5 => .object "ShadowWarden$Heap"
  | 6 => .object "ShadowWarden$LeakScan"
  | _ => .object "ShadowWarden$Machine"
theorem zn_SW : ∀ a, a < 8 → ∀ b, b < 8 → a ≠ b → (zT_SW a).2.1 ≠ (zT_SW b).2.1 := by decide +kernel
theorem zo_SW : ∀ k, k < 8 → parseFieldDescriptor (zT_SW k).2.2.1 = some (zt_SW k) := by decide +kernel
theorem zi_SW : ∀ w ∈ u_ws zR_SW zT_SW 8, w ∈ zz_WS := zz_sub (by decide +kernel)
def zR_Me : String := "ShadowWarden$Memory"
def zT_Me : u_T := fun k => match k with
  | 0 => ("ShadowWarden$Memory", "values", "[I", true)
  | 1 => ("ShadowWarden$Memory", "open", "[Z", true)
  | _ => ("ShadowWarden$Memory", "known", "[Z", true)
def zt_Me : Nat → FieldType := fun k => match k with
  | 0 => .array .int
  | 1 => .array .boolean
  | _ => .array .boolean
theorem zn_Me : ∀ a, a < 3 → ∀ b, b < 3 → a ≠ b → (zT_Me a).2.1 ≠ (zT_Me b).2.1 := by decide +kernel
theorem zo_Me : ∀ k, k < 3 → parseFieldDescriptor (zT_Me k).2.2.1 = some (zt_Me k) := by decide +kernel
theorem zi_Me : ∀ w ∈ u_ws zR_Me zT_Me 3, w ∈ zz_WS := zz_sub (by decide +kernel)
def zR_Re : String := "ShadowWarden$Registers"
def zT_Re : u_T := fun k => match k with
  | 0 => ("ShadowWarden$Registers", "values", "[I", true)
  | _ => ("ShadowWarden$Registers", "known", "[I", true)
def zt_Re : Nat → FieldType := fun k => match k with
  | 0 => .array .int
  | _ => .array .int
theorem zn_Re : ∀ a, a < 2 → ∀ b, b < 2 → a ≠ b → (zT_Re a).2.1 ≠ (zT_Re b).2.1 := by decide +kernel
theorem zo_Re : ∀ k, k < 2 → parseFieldDescriptor (zT_Re k).2.2.1 = some (zt_Re k) := by decide +kernel
theorem zi_Re : ∀ w ∈ u_ws zR_Re zT_Re 2, w ∈ zz_WS := zz_sub (by decide +kernel)
def zR_Pr : String := "ShadowWarden$Program"
def zT_Pr : u_T := fun k => match k with
  | 0 => ("ShadowWarden$Program", "ops", "[I", true)
  | 1 => ("ShadowWarden$Program", "targets", "[I", true)
  | 2 => ("ShadowWarden$Program", "firsts", "[I", true)
  | 3 => ("ShadowWarden$Program", "seconds", "[I", true)
  | _ => ("ShadowWarden$Program", "numbers", "[I", true)
def zt_Pr : Nat → FieldType := fun k => match k with
  | 0 => .array .int
  | 1 => .array .int
  | 2 => .array .int
  | 3 => .array .int
  | _ => .array .int
theorem zn_Pr : ∀ a, a < 5 → ∀ b, b < 5 → a ≠ b → (zT_Pr a).2.1 ≠ (zT_Pr b).2.1 := by decide +kernel
theorem zo_Pr : ∀ k, k < 5 → parseFieldDescriptor (zT_Pr k).2.2.1 = some (zt_Pr k) := by decide +kernel
theorem zi_Pr : ∀ w ∈ u_ws zR_Pr zT_Pr 5, w ∈ zz_WS := zz_sub (by decide +kernel)
def zR_Pi : String := "ShadowWarden$Pieces"
def zT_Pi : u_T := fun k => match k with
  | 0 => ("ShadowWarden$Pieces", "program", "LShadowWarden$Program;", true)
  | 1 => ("ShadowWarden$Pieces", "lengths", "[I", true)
  | 2 => ("ShadowWarden$Pieces", "translated", "I", false)
  | _ => ("ShadowWarden$Pieces", "leftOfPieceAtHand", "I", false)
def zt_Pi : Nat → FieldType := fun k => match k with
  | 0 => .object "ShadowWarden$Program"
  | 1 => .array .int
  | 2 => .int
  | _ => .int
theorem zn_Pi : ∀ a, a < 4 → ∀ b, b < 4 → a ≠ b → (zT_Pi a).2.1 ≠ (zT_Pi b).2.1 := by decide +kernel
theorem zo_Pi : ∀ k, k < 4 → parseFieldDescriptor (zT_Pi k).2.2.1 = some (zt_Pi k) := by decide +kernel
theorem zi_Pi : ∀ w ∈ u_ws zR_Pi zT_Pi 4, w ∈ zz_WS := zz_sub (by decide +kernel)
def zR_Fi : String := "ShadowWarden$Findings"
def zT_Fi : u_T := fun k => match k with
  | 0 => ("ShadowWarden$Findings", "kinds", "[I", true)
  | 1 => ("ShadowWarden$Findings", "instructions", "[I", true)
  | 2 => ("ShadowWarden$Findings", "addresses", "[I", true)
  | 3 => ("ShadowWarden$Findings", "times", "[I", true)
  | _ => ("ShadowWarden$Findings", "size", "I", false)
def zt_Fi : Nat → FieldType := fun k => match k with
  | 0 => .array .int
  | 1 => .array .int
  | 2 => .array .int
  | 3 => .array .int
  | _ => .int
theorem zn_Fi : ∀ a, a < 5 → ∀ b, b < 5 → a ≠ b → (zT_Fi a).2.1 ≠ (zT_Fi b).2.1 := by decide +kernel
theorem zo_Fi : ∀ k, k < 5 → parseFieldDescriptor (zT_Fi k).2.2.1 = some (zt_Fi k) := by decide +kernel
theorem zi_Fi : ∀ w ∈ u_ws zR_Fi zT_Fi 5, w ∈ zz_WS := zz_sub (by decide +kernel)
def zR_He : String := "ShadowWarden$Heap"
def zT_He : u_T := fun k => match k with
  | 0 => ("ShadowWarden$Heap", "bytes", "LShadowWarden$Memory;", true)
  | 1 => ("ShadowWarden$Heap", "numbers", "[I", true)
  | 2 => ("ShadowWarden$Heap", "addresses", "[I", true)
  | 3 => ("ShadowWarden$Heap", "sizes", "[I", true)
  | 4 => ("ShadowWarden$Heap", "wallEnds", "[I", true)
  | 5 => ("ShadowWarden$Heap", "restingSince", "[I", true)
  | 6 => ("ShadowWarden$Heap", "there", "I", false)
  | 7 => ("ShadowWarden$Heap", "got", "I", false)
  | _ => ("ShadowWarden$Heap", "givenBack", "I", false)
def zt_He : Nat → FieldType := fun k => match k with
  | 0 => .object "ShadowWarden$Memory"
  | 1 => .array .int
  | 2 => .array .int
  | 3 => .array .int
  | 4 => .array .int
  | 5 => .array .int
  | 6 => .int
  | 7 => .int
  | _ => .int
theorem zn_He : ∀ a, a < 9 → ∀ b, b < 9 → a ≠ b → (zT_He a).2.1 ≠ (zT_He b).2.1 := by decide +kernel
theorem zo_He : ∀ k, k < 9 → parseFieldDescriptor (zT_He k).2.2.1 = some (zt_He k) := by decide +kernel
theorem zi_He : ∀ w ∈ u_ws zR_He zT_He 9, w ∈ zz_WS := zz_sub (by decide +kernel)
def zR_LS : String := "ShadowWarden$LeakScan"
def zT_LS : u_T := fun k => match k with
  | 0 => ("ShadowWarden$LeakScan", "bytes", "LShadowWarden$Memory;", true)
  | 1 => ("ShadowWarden$LeakScan", "registers", "LShadowWarden$Registers;", true)
  | 2 => ("ShadowWarden$LeakScan", "heap", "LShadowWarden$Heap;", true)
  | 3 => ("ShadowWarden$LeakScan", "verdicts", "[I", true)
  | 4 => ("ShadowWarden$LeakScan", "found", "[I", true)
  | _ => ("ShadowWarden$LeakScan", "foundSize", "I", false)
def zt_LS : Nat → FieldType := fun k => match k with
  | 0 => .object "ShadowWarden$Memory"
  | 1 => .object "ShadowWarden$Registers"
  | 2 => .object "ShadowWarden$Heap"
  | 3 => .array .int
  | 4 => .array .int
  | _ => .int
theorem zn_LS : ∀ a, a < 6 → ∀ b, b < 6 → a ≠ b → (zT_LS a).2.1 ≠ (zT_LS b).2.1 := by decide +kernel
theorem zo_LS : ∀ k, k < 6 → parseFieldDescriptor (zT_LS k).2.2.1 = some (zt_LS k) := by decide +kernel
theorem zi_LS : ∀ w ∈ u_ws zR_LS zT_LS 6, w ∈ zz_WS := zz_sub (by decide +kernel)
def zR_Ma : String := "ShadowWarden$Machine"
def zT_Ma : u_T := fun k => match k with
  | 0 => ("ShadowWarden$Machine", "bytes", "LShadowWarden$Memory;", true)
  | 1 => ("ShadowWarden$Machine", "registers", "LShadowWarden$Registers;", true)
  | 2 => ("ShadowWarden$Machine", "program", "LShadowWarden$Program;", true)
  | 3 => ("ShadowWarden$Machine", "pieces", "LShadowWarden$Pieces;", true)
  | 4 => ("ShadowWarden$Machine", "findings", "LShadowWarden$Findings;", true)
  | 5 => ("ShadowWarden$Machine", "heap", "LShadowWarden$Heap;", true)
  | 6 => ("ShadowWarden$Machine", "at", "I", false)
  | 7 => ("ShadowWarden$Machine", "next", "I", false)
  | 8 => ("ShadowWarden$Machine", "stopped", "Z", false)
  | 9 => ("ShadowWarden$Machine", "faulted", "Z", false)
  | _ => ("ShadowWarden$Machine", "done", "I", false)
def zt_Ma : Nat → FieldType := fun k => match k with
  | 0 => .object "ShadowWarden$Memory"
  | 1 => .object "ShadowWarden$Registers"
  | 2 => .object "ShadowWarden$Program"
  | 3 => .object "ShadowWarden$Pieces"
  | 4 => .object "ShadowWarden$Findings"
  | 5 => .object "ShadowWarden$Heap"
  | 6 => .int
  | 7 => .int
  | 8 => .boolean
  | 9 => .boolean
  | _ => .int
theorem zn_Ma : ∀ a, a < 11 → ∀ b, b < 11 → a ≠ b → (zT_Ma a).2.1 ≠ (zT_Ma b).2.1 := by decide +kernel
theorem zo_Ma : ∀ k, k < 11 → parseFieldDescriptor (zT_Ma k).2.2.1 = some (zt_Ma k) := by decide +kernel
theorem zi_Ma : ∀ w ∈ u_ws zR_Ma zT_Ma 11, w ∈ zz_WS := zz_sub (by decide +kernel)
def zR_Mo : String := "ShadowWardenModel"
def zT_Mo : u_T := fun k => match k with
  | 0 => ("ShadowWardenModel", "op", "[I", true)
  | 1 => ("ShadowWardenModel", "d", "[I", true)
  | 2 => ("ShadowWardenModel", "a", "[I", true)
  | 3 => ("ShadowWardenModel", "b", "[I", true)
  | 4 => ("ShadowWardenModel", "n", "[I", true)
  | 5 => ("ShadowWardenModel", "memory", "[I", true)
  | 6 => ("ShadowWardenModel", "open", "[I", true)
  | 7 => ("ShadowWardenModel", "known", "[I", true)
  | 8 => ("ShadowWardenModel", "register", "[I", true)
  | 9 => ("ShadowWardenModel", "sure", "[I", true)
  | 10 => ("ShadowWardenModel", "number", "[I", true)
  | 11 => ("ShadowWardenModel", "address", "[I", true)
  | 12 => ("ShadowWardenModel", "size", "[I", true)
  | 13 => ("ShadowWardenModel", "rests", "[I", true)
  | 14 => ("ShadowWardenModel", "seen", "[I", true)
  | 15 => ("ShadowWardenModel", "kind", "[I", true)
  | 16 => ("ShadowWardenModel", "at", "[I", true)
  | 17 => ("ShadowWardenModel", "where", "[I", true)
  | 18 => ("ShadowWardenModel", "often", "[I", true)
  | 19 => ("ShadowWardenModel", "piece", "[Z", true)
  | 20 => ("ShadowWardenModel", "blocks", "I", false)
  | 21 => ("ShadowWardenModel", "got", "I", false)
  | 22 => ("ShadowWardenModel", "clock", "I", false)
  | 23 => ("ShadowWardenModel", "findings", "I", false)
  | 24 => ("ShadowWardenModel", "place", "I", false)
  | 25 => ("ShadowWardenModel", "done", "I", false)
  | 26 => ("ShadowWardenModel", "translated", "I", false)
  | 27 => ("ShadowWardenModel", "thrown", "I", false)
  | _ => ("ShadowWardenModel", "stopped", "Z", false)
def zt_Mo : Nat → FieldType := fun k => match k with
  | 0 => .array .int
  | 1 => .array .int
  | 2 => .array .int
  | 3 => .array .int
  | 4 => .array .int
  | 5 => .array .int
  | 6 => .array .int
  | 7 => .array .int
  | 8 => .array .int
  | 9 => .array .int
  | 10 => .array .int
  | 11 => .array .int
  | 12 => .array .int
  | 13 => .array .int
  | 14 => .array .int
  | 15 => .array .int
  | 16 => .array .int
  | 17 => .array .int
  | 18 => .array .int
  | 19 => .array .boolean
  | 20 => .int
  | 21 => .int
  | 22 => .int
  | 23 => .int
  | 24 => .int
  | 25 => .int
  | 26 => .int
  | 27 => .int
  | _ => .boolean
theorem zn_Mo : ∀ a, a < 29 → ∀ b, b < 29 → a ≠ b → (zT_Mo a).2.1 ≠ (zT_Mo b).2.1 := by decide +kernel
theorem zo_Mo : ∀ k, k < 29 → parseFieldDescriptor (zT_Mo k).2.2.1 = some (zt_Mo k) := by decide +kernel
theorem zi_Mo : ∀ w ∈ u_ws zR_Mo zT_Mo 29, w ∈ zz_WS := zz_sub (by decide +kernel)
def zR_Kn : String := "ShadowWarden$Known"
def zR_La : String := "ShadowWardenLaw"
def zR_Mt : String := "java/lang/Math"
abbrev vwCl : List vw_C := [(zR_SW, zT_SW, 8), (zR_Me, zT_Me, 3), (zR_Re, zT_Re, 2), (zR_Pr, zT_Pr, 5), (zR_Pi, zT_Pi, 4), (zR_Fi, zT_Fi, 5), (zR_He, zT_He, 9), (zR_LS, zT_LS, 6), (zR_Ma, zT_Ma, 11), (zR_Mo, zT_Mo, 29)]
end
section
/-! a system's state: the numbers of its fields and arrays, by a number for each (a field is an array of one) -/
abbrev St : Type := Nat → Nat → Int32
def zz_put (σ : St) (v i : Nat) (x : Int32) : St := fun w => if w = v then upd (σ v) i x else σ w
/-- an index is in range; else the function has no value -/
def zz_ck {α : Type} (i : Int32) (n : Nat) (r : Option α) : Option α := if i < 0 ∨ n ≤ i.toNatClampNeg then none else r
theorem zz_ck_some {α : Type} {i : Int32} {n : Nat} {r : Option α} {o : α} (h : zz_ck i n r = some o) : vp_in i n ∧ r = some o := by
  unfold zz_ck at h
  by_cases g : i < 0 ∨ n ≤ i.toNatClampNeg
  · rw [if_pos g] at h; cases h
  · rw [if_neg g] at h; exact ⟨g, h⟩
/-- a divisor isn't 0 -/
def zz_kn {α : Type} (y : Int32) (r : Option α) : Option α := if y = 0 then none else r
theorem zz_kn_some {α : Type} {y : Int32} {r : Option α} {o : α} (h : zz_kn y r = some o) : ¬ y = 0 ∧ r = some o := by
  unfold zz_kn at h
  by_cases g : y = 0
  · rw [if_pos g] at h; cases h
  · rw [if_neg g] at h; exact ⟨g, h⟩
/-- a boolean is 0 or 1 -/
def zz_kz {α : Type} (v : Int32) (r : Option α) : Option α := if v = 0 ∨ v = 1 then r else none
theorem zz_kz_some {α : Type} {v : Int32} {r : Option α} {o : α} (h : zz_kz v r = some o) : (v = 0 ∨ v = 1) ∧ r = some o := by
  unfold zz_kz at h
  by_cases g : v = 0 ∨ v = 1
  · rw [if_pos g] at h; exact ⟨g, h⟩
  · rw [if_neg g] at h; cases h
theorem zz_out {x : Int32} {lo hi : Int} (h : ∀ k : Int, lo ≤ k → k ≤ hi → ¬ x = Int32.ofInt k) : x.toInt < lo ∨ hi < x.toInt := by
  by_cases h1 : x.toInt < lo
  · exact Or.inl h1
  · by_cases h2 : hi < x.toInt
    · exact Or.inr h2
    · exact absurd (Int32.ofInt_toInt x).symm (h x.toInt (by omega) (by omega))
theorem zz_lk1 {x k1 : Int32} {a1 o1 d : Int} (h1 : ¬ x = k1) (e1 : k1.toInt = a1) : Op.lookupswitch.offset [(a1, o1)] d x.toInt = d := by
  rw [lv_osw h1 e1]; rfl
theorem zz_lk2 {x k1 k2 : Int32} {a1 o1 a2 o2 d : Int} (h1 : ¬ x = k1) (e1 : k1.toInt = a1) (h2 : ¬ x = k2) (e2 : k2.toInt = a2) : Op.lookupswitch.offset [(a1, o1), (a2, o2)] d x.toInt = d := by
  rw [lv_osw h1 e1, lv_osw h2 e2]; rfl
theorem zz_lk3 {x k1 k2 k3 : Int32} {a1 o1 a2 o2 a3 o3 d : Int} (h1 : ¬ x = k1) (e1 : k1.toInt = a1) (h2 : ¬ x = k2) (e2 : k2.toInt = a2) (h3 : ¬ x = k3) (e3 : k3.toInt = a3) : Op.lookupswitch.offset [(a1, o1), (a2, o2), (a3, o3)] d x.toInt = d := by
  rw [lv_osw h1 e1, lv_osw h2 e2, lv_osw h3 e3]; rfl
abbrev zz_tys (cI cZ : ClassId) : List (ClassId × FieldType) := [(cI, .int), (cZ, .boolean)]
/-- the world of a walk: its classes, its cells, that they are apart, what has changed, that new cells are its own -/
def zz_X (D : va_G) (cl : List vw_C) (tys : List (ClassId × FieldType)) (A : Nat → Prop) (s : State) (H : Heap) (locs : List Loc) (ws : va_W) : Prop :=
  va_K D cl tys s ∧ va_P D cl ws H ∧ va_D A ws ∧ va_S A s.heap H locs ∧ ∀ q : Nat, s.heap.size ≤ q → A q
theorem zz_X.fr {D : va_G} {cl : List vw_C} {tys : List (ClassId × FieldType)} {A : Nat → Prop} {s : State} {H : Heap} {locs : List Loc} {ws : va_W} (X : zz_X D cl tys A s H locs ws) : ∀ q, va_A ws H.size q → A q := by
  intro q h
  rcases h with ⟨k, e, h⟩ | h
  · exact X.2.2.1.2 k (q, e) h
  · exact X.2.2.2.2 q (Nat.le_trans X.2.2.2.1.1 h)
/-- what a method with an int for answer leaves -/
def zq_I (D : va_G) (cl : List vw_C) (tys : List (ClassId × FieldType)) (w : St → va_W) (A : Nat → Prop) (out : Int32 × St) : Array Value → State → Outcome → State → Prop :=
  va_Qi (fun (r : Int32) (u : St) => r = out.1 ∧ u = out.2) (fun u t => va_P D cl (w u) t.heap ∧ va_K D cl tys t ∧ va_D A (w u)) A
def zq_V (D : va_G) (cl : List vw_C) (tys : List (ClassId × FieldType)) (w : St → va_W) (A : Nat → Prop) (out : St) : Array Value → State → Outcome → State → Prop :=
  va_Qv (fun (u : St) => u = out) (fun u t => va_P D cl (w u) t.heap ∧ va_K D cl tys t ∧ va_D A (w u)) A
def zz_pre (D : va_G) (cl : List vw_C) (tys : List (ClassId × FieldType)) (ws : va_W) (as : List Value) (sz : Nat) : Array Value → State → Prop :=
  va_Pc as (fun U => U.heap.size = sz ∧ va_P D cl ws U.heap ∧ va_K D cl tys U ∧ va_D (fun _ => True) ws)
/-- the contracts: from the world of σ, with these arguments, the answer and the new state are 'out' -/
def zI (l : Launch) (D : va_G) (cl : List vw_C) (tys : List (ClassId × FieldType)) (w : St → va_W) (y : MethodName) (ws : List Cond) (rm : Room) (as : List Value) (σ : St) (out : Int32 × St) : Prop :=
  ∀ sz : Nat, Met l y ws rm (zz_pre D cl tys (w σ) as sz) (zq_I D cl tys w (va_A (w σ) sz) out) 0 0 (va_A (w σ) sz)
def zV (l : Launch) (D : va_G) (cl : List vw_C) (tys : List (ClassId × FieldType)) (w : St → va_W) (y : MethodName) (ws : List Cond) (rm : Room) (as : List Value) (σ : St) (out : St) : Prop :=
  ∀ sz : Nat, Met l y ws rm (zz_pre D cl tys (w σ) as sz) (zq_V D cl tys w (va_A (w σ) sz) out) 0 0 (va_A (w σ) sz)
theorem zz_blind {D : va_G} {cl : List vw_C} {tys : List (ClassId × FieldType)} {ws : va_W} {as : List Value} {sz : Nat} : FrameBlind (zz_pre D cl tys ws as sz) := by
  intro a U g mk q
  obtain ⟨q0, q1, qP, qK, qD⟩ := q
  exact ⟨q0, q1, qP, va_K.moved (u := U) (U := U.calling g mk a) (Vm.Alike.refl U.vm) qK, qD⟩
section ZR
variable {p : Program} {l : Launch} {e : Env} {R : Room} {s : State} {m : MethodId} {args : Array Value} {below : List Frame} {meth : Method} {c : Code} {H : Heap} {locs : List Loc} {Q : State → Prop}
variable {cc : ByteArray} {pc : Nat} {ls : Array Slot} {rest : List Value} {D : va_G} {A : Nat → Prop} {cl : List vw_C} {tys : List (ClassId × FieldType)} {w : St → va_W} {σ : St}
theorem zr_iret (hx : p.tables.exec = Jvm.exec) (hb : c.code = cc) (hr : meth.sig.returnType = some .int) (hlocks : meth.locks = false) (X : zz_X D cl tys A s H locs (w σ)) {v : Int32} {out : Int32 × St} (ho : (v, σ) = out) (hdg : decode cc pc = .ok (.ireturn, 1)) :
    W p l e R s m args below meth c H locs 0 0 (MQ below (zq_I D cl tys w A out) args s 0 0 A) (F0 m pc ls [.int v]) := by
  subst ho
  exact W.iret (v := v) hx hb hr (fun t ht hW => ⟨⟨v, σ, rfl, ⟨rfl, rfl⟩, by rw [ht]; exact X.2.1, va_K.moved hW.alike X.1, X.2.2.1⟩, X.2.2.2.1.F ht⟩) X.2.2.2.1.2.2 hdg
theorem zr_iretP (hx : p.tables.exec = Jvm.exec) (hb : c.code = cc) (hr : meth.sig.returnType = some .int) (hlocks : meth.locks = false) (X : zz_X D cl tys A s H locs (w σ)) {v out : Int32} (ho : v = out) (hdg : decode cc pc = .ok (.ireturn, 1)) :
    W p l e R s m args below meth c H locs 0 0 (MQ below (zq_I D cl tys w A (out, σ)) args s 0 0 A) (F0 m pc ls [.int v]) := zr_iret hx hb hr hlocks X (by rw [ho]) hdg
theorem zr_zret (hx : p.tables.exec = Jvm.exec) (hb : c.code = cc) (hr : meth.sig.returnType = some .boolean) (hlocks : meth.locks = false) (X : zz_X D cl tys A s H locs (w σ)) {v : Int32} (hz : v = 0 ∨ v = 1) {out : Int32 × St} (ho : (v, σ) = out) (hdg : decode cc pc = .ok (.ireturn, 1)) :
    W p l e R s m args below meth c H locs 0 0 (MQ below (zq_I D cl tys w A out) args s 0 0 A) (F0 m pc ls [.int v]) := by
  subst ho
  exact W.zret (v := v) hx hb hr (by rcases hz with rfl | rfl <;> rfl) (fun t ht hW => ⟨⟨v, σ, rfl, ⟨rfl, rfl⟩, by rw [ht]; exact X.2.1, va_K.moved hW.alike X.1, X.2.2.1⟩, X.2.2.2.1.F ht⟩) X.2.2.2.1.2.2 hdg
theorem zr_zretP (hx : p.tables.exec = Jvm.exec) (hb : c.code = cc) (hr : meth.sig.returnType = some .boolean) (hlocks : meth.locks = false) (X : zz_X D cl tys A s H locs (w σ)) {v : Int32} (hz : v = 0 ∨ v = 1) {out : Int32} (ho : v = out) (hdg : decode cc pc = .ok (.ireturn, 1)) :
    W p l e R s m args below meth c H locs 0 0 (MQ below (zq_I D cl tys w A (out, σ)) args s 0 0 A) (F0 m pc ls [.int v]) := zr_zret hx hb hr hlocks X hz (by rw [ho]) hdg
theorem zr_vret (hx : p.tables.exec = Jvm.exec) (hb : c.code = cc) (hr : meth.sig.returnType = none) (hlocks : meth.locks = false) (X : zz_X D cl tys A s H locs (w σ)) {out : St} (ho : σ = out) (hdg : decode cc pc = .ok (.return_, 1)) :
    W p l e R s m args below meth c H locs 0 0 (MQ below (zq_V D cl tys w A out) args s 0 0 A) (F0 m pc ls []) := by
  subst ho
  exact W.vret hx hb hr (fun t ht hW => ⟨⟨σ, rfl, rfl, by rw [ht]; exact X.2.1, va_K.moved hW.alike X.1, X.2.2.1⟩, X.2.2.2.1.F ht⟩) X.2.2.2.1.2.2 hdg
theorem zI_of {y : MethodName} {maxL : Nat} {ret : Option FieldType} {rm : Room} {as : List Value} {out : Int32 × St} (hy : plainName y.cls = true) (hn : (lg_sl as).length ≤ maxL)
    (body : ∀ (p : Program) (e : Env) (s : State) (m : MethodId) (below : List Frame) (meth : Method) (c : Code) (A : Nat → Prop) (ls : Array Slot), p.tables.exec = Jvm.exec → c.code = cc → c.maxLocals = maxL → s.vm.findClass y.cls = some m.cls → (∀ w ∈ zz_WS, w.before as.toArray s = true) → meth.sig.returnType = ret → meth.locks = false →
      zz_X D cl tys A s s.heap [] (w σ) → lv_has ls maxL (lv_args 0 as) → W p l e rm s m as.toArray below meth c s.heap [] 0 0 (MQ below (zq_I D cl tys w A out) as.toArray s 0 0 A) (F0 m 0 ls [])) : zI l D cl tys w y (.code y cc maxL ret :: zz_WS) rm as σ out := by
  intro sz
  refine Met.ofW (cc := cc) (maxL := maxL) (ret := ret) hy rfl ?_
  intro p e s m args below meth c s₁ B hml hv
  obtain ⟨rfl, hsz, hP, hK, hD0⟩ := hv
  have hts := atoms_spec (ws := .code y cc maxL ret :: zz_WS) B.pre
  subst hsz
  have hl := lv_entry as (n := maxL) hn
  rw [lg_entry_eq]
  exact body p e s m below meth c _ _ B.exec B.bytes hml (findClass_of_methodNamed B.named) (fun w hw => hts w (List.mem_cons_of_mem _ hw)) B.returns B.notSynchronized ⟨hK, hP, hD0.self, va_S.rf, fun q h => Or.inr h⟩ hl
theorem zV_of {y : MethodName} {maxL : Nat} {ret : Option FieldType} {rm : Room} {as : List Value} {out : St} (hy : plainName y.cls = true) (hn : (lg_sl as).length ≤ maxL)
    (body : ∀ (p : Program) (e : Env) (s : State) (m : MethodId) (below : List Frame) (meth : Method) (c : Code) (A : Nat → Prop) (ls : Array Slot), p.tables.exec = Jvm.exec → c.code = cc → c.maxLocals = maxL → s.vm.findClass y.cls = some m.cls → (∀ w ∈ zz_WS, w.before as.toArray s = true) → meth.sig.returnType = ret → meth.locks = false →
      zz_X D cl tys A s s.heap [] (w σ) → lv_has ls maxL (lv_args 0 as) → W p l e rm s m as.toArray below meth c s.heap [] 0 0 (MQ below (zq_V D cl tys w A out) as.toArray s 0 0 A) (F0 m 0 ls [])) : zV l D cl tys w y (.code y cc maxL ret :: zz_WS) rm as σ out := by
  intro sz
  refine Met.ofW (cc := cc) (maxL := maxL) (ret := ret) hy rfl ?_
  intro p e s m args below meth c s₁ B hml hv
  obtain ⟨rfl, hsz, hP, hK, hD0⟩ := hv
  have hts := atoms_spec (ws := .code y cc maxL ret :: zz_WS) B.pre
  subst hsz
  have hl := lv_entry as (n := maxL) hn
  rw [lg_entry_eq]
  exact body p e s m below meth c _ _ B.exec B.bytes hml (findClass_of_methodNamed B.named) (fun w hw => hts w (List.mem_cons_of_mem _ hw)) B.returns B.notSynchronized ⟨hK, hP, hD0.self, va_S.rf, fun q h => Or.inr h⟩ hl
/-- what is the same at every call of y: an instance method -/
def zz_kv (y : MethodName) (bytes : ByteArray) (maxL : Nat) (ret : Option FieldType) (n : Nat) : Prop :=
  Cond.instanceMethod y ∈ zz_WS ∧ Cond.selects y.cls y y ∈ zz_WS ∧ Cond.initialized y.cls ∈ zz_WS ∧ Cond.code y bytes maxL ret ∈ zz_WS ∧ y.cls ≠ "java/lang/invoke/MethodHandle" ∧ y.cls ≠ "java/lang/invoke/VarHandle" ∧ (parseMethodDescriptor y.desc).map (fun d => d.parameters.length) = some n
def zz_ks (y : MethodName) (bytes : ByteArray) (maxL : Nat) (ret : Option FieldType) (n : Nat) : Prop :=
  Cond.static y ∈ zz_WS ∧ Cond.initialized y.cls ∈ zz_WS ∧ Cond.code y bytes maxL ret ∈ zz_WS ∧ y.cls ≠ "java/lang/invoke/MethodHandle" ∧ y.cls ≠ "java/lang/invoke/VarHandle" ∧ (parseMethodDescriptor y.desc).map (fun d => d.parameters.length) = some n
theorem zz_gv {own : String} {index : Nat} {y : MethodName} {bytes : ByteArray} {maxL n : Nat} {ret : Option FieldType} (k : zz_kv y bytes maxL ret n) (hl : Cond.methodLink own index y ∈ zz_WS) : GoodIn zz_WS (wsV own index y.cls y (.code y bytes maxL ret :: zz_WS)) := by
  intro w hw
  have h : w ∈ zz_WS := by
    unfold wsV at hw
    rcases List.mem_append.mp hw with h | h
    · simp only [List.mem_cons, List.not_mem_nil, or_false] at h
      rcases h with rfl | rfl | rfl | rfl
      · exact hl
      · exact k.1
      · exact k.2.1
      · exact k.2.2.1
    · rcases List.mem_cons.mp h with rfl | h
      · exact k.2.2.2.1
      · exact h
  exact ⟨h, zz_good w h⟩
theorem zz_gs {own : String} {index : Nat} {y : MethodName} {bytes : ByteArray} {maxL n : Nat} {ret : Option FieldType} (k : zz_ks y bytes maxL ret n) (hl : Cond.methodLink own index y ∈ zz_WS) : GoodIn zz_WS (va_wsS own index y (.code y bytes maxL ret :: zz_WS)) := by
  intro w hw
  have h : w ∈ zz_WS := by
    unfold va_wsS at hw
    rcases List.mem_append.mp hw with h | h
    · simp only [List.mem_cons, List.not_mem_nil, or_false] at h
      rcases h with rfl | rfl | rfl
      · exact hl
      · exact k.1
      · exact k.2.1
    · rcases List.mem_cons.mp h with rfl | h
      · exact k.2.2.1
      · exact h
  exact ⟨h, zz_good w h⟩
section ZC
variable {own : String} {index nL maxL n q0 ci N : Nat} {y : MethodName} {bytes : ByteArray} {ret : Option FieldType} {rm : Room} {b : Addr} {As : List Value} {st : List Value} {T : u_T} {fs : List Value}
theorem zr_cvI {out : Int32 × St} (hx : p.tables.exec = Jvm.exec) (hb : c.code = cc) (hml : c.maxLocals = nL) (hown : s.vm.findClass own = some m.cls) (hts : ∀ w ∈ zz_WS, w.before args s = true) (hsz : ls.size = nL) (X : zz_X D cl tys A s H locs (w σ))
    (hM : zI l D cl tys w y (.code y bytes maxL ret :: zz_WS) rm (.ref b :: As) σ out) (k : zz_kv y bytes maxL ret n) (hl : Cond.methodLink own index y ∈ zz_WS) (hn : As.length = n) (hst : st = As.reverse ++ .ref b :: rest) (hW : (rest.map fun v => v.category).sum ≤ 8)
    (hq : (w σ)[q0]? = some (b, .inr (ci, fs))) (hc : cl[ci]? = some (y.cls, T, N)) (hrm : rm.cells = 0 ∧ rm.slots = 0) (hR : rm.frames + 1 ≤ R.frames ∧ 8 + (maxL + 11) + rm.locals ≤ R.locals) (hdg : decode cc pc = .ok (.invokevirtual index, 3))
    (kk : ∀ (H1 : Heap) (locs1 : List Loc), zz_X D cl tys A s H1 locs1 (w out.2) → W p l e R s m args below meth c H1 locs1 0 0 Q (F0 m (pc + 3) ls (.int out.1 :: rest))) : W p l e R s m args below meth c H locs 0 0 Q (F0 m pc ls st) := by
  refine va_calli (va_runV (As := As) (rest := rest) ⟨hx, hb, hml, hown, hts⟩ (hM H.size) (cwV n hts (zz_gv k hl) rfl hrm.1 hrm.2 ⟨rfl, k.2.2.2.2⟩ hR) ⟨zz_blind, va_recv X.1 X.2.1 hc hq, fun U hU hW => ⟨rfl, by rw [hU], by rw [hU]; exact X.2.1, va_K.moved hW.alike X.1, X.2.2.1.weaken (fun _ _ _ _ => trivial)⟩⟩ rfl hn hsz hst (lv_room hW) hdg ⟨Nat.zero_le _, Nat.zero_le _⟩) X.2.2.2.1 (fun q _ h => X.fr q h) X.fr (fun r u t H1 locs1 ht hvm hw hB hz1 hk1 hS => ?_)
  obtain ⟨rfl, rfl⟩ := hw
  obtain ⟨hP1, hK1, hD1⟩ := hB
  rw [ht] at hP1
  exact kk H1 locs1 ⟨X.1, hP1, hD1.weaken (fun k q _ h => X.fr q.1 h), hS, X.2.2.2.2⟩
theorem zr_cvP {r : Int32} (hx : p.tables.exec = Jvm.exec) (hb : c.code = cc) (hml : c.maxLocals = nL) (hown : s.vm.findClass own = some m.cls) (hts : ∀ w ∈ zz_WS, w.before args s = true) (hsz : ls.size = nL) (X : zz_X D cl tys A s H locs (w σ))
    (hM : zI l D cl tys w y (.code y bytes maxL ret :: zz_WS) rm (.ref b :: As) σ (r, σ)) (k : zz_kv y bytes maxL ret n) (hl : Cond.methodLink own index y ∈ zz_WS) (hn : As.length = n) (hst : st = As.reverse ++ .ref b :: rest) (hW : (rest.map fun v => v.category).sum ≤ 8)
    (hq : (w σ)[q0]? = some (b, .inr (ci, fs))) (hc : cl[ci]? = some (y.cls, T, N)) (hrm : rm.cells = 0 ∧ rm.slots = 0) (hR : rm.frames + 1 ≤ R.frames ∧ 8 + (maxL + 11) + rm.locals ≤ R.locals) (hdg : decode cc pc = .ok (.invokevirtual index, 3))
    (kk : ∀ (H1 : Heap) (locs1 : List Loc), zz_X D cl tys A s H1 locs1 (w σ) → W p l e R s m args below meth c H1 locs1 0 0 Q (F0 m (pc + 3) ls (.int r :: rest))) : W p l e R s m args below meth c H locs 0 0 Q (F0 m pc ls st) :=
  zr_cvI hx hb hml hown hts hsz X hM k hl hn hst hW hq hc hrm hR hdg kk
theorem zr_cvV {out : St} (hx : p.tables.exec = Jvm.exec) (hb : c.code = cc) (hml : c.maxLocals = nL) (hown : s.vm.findClass own = some m.cls) (hts : ∀ w ∈ zz_WS, w.before args s = true) (hsz : ls.size = nL) (X : zz_X D cl tys A s H locs (w σ))
    (hM : zV l D cl tys w y (.code y bytes maxL ret :: zz_WS) rm (.ref b :: As) σ out) (k : zz_kv y bytes maxL ret n) (hl : Cond.methodLink own index y ∈ zz_WS) (hn : As.length = n) (hst : st = As.reverse ++ .ref b :: rest) (hW : (rest.map fun v => v.category).sum ≤ 8)
    (hq : (w σ)[q0]? = some (b, .inr (ci, fs))) (hc : cl[ci]? = some (y.cls, T, N)) (hrm : rm.cells = 0 ∧ rm.slots = 0) (hR : rm.frames + 1 ≤ R.frames ∧ 8 + (maxL + 11) + rm.locals ≤ R.locals) (hdg : decode cc pc = .ok (.invokevirtual index, 3))
    (kk : ∀ (H1 : Heap) (locs1 : List Loc), zz_X D cl tys A s H1 locs1 (w out) → W p l e R s m args below meth c H1 locs1 0 0 Q (F0 m (pc + 3) ls rest)) : W p l e R s m args below meth c H locs 0 0 Q (F0 m pc ls st) := by
  refine va_callv (va_runV (As := As) (rest := rest) ⟨hx, hb, hml, hown, hts⟩ (hM H.size) (cwV n hts (zz_gv k hl) rfl hrm.1 hrm.2 ⟨rfl, k.2.2.2.2⟩ hR) ⟨zz_blind, va_recv X.1 X.2.1 hc hq, fun U hU hW => ⟨rfl, by rw [hU], by rw [hU]; exact X.2.1, va_K.moved hW.alike X.1, X.2.2.1.weaken (fun _ _ _ _ => trivial)⟩⟩ rfl hn hsz hst (lv_room hW) hdg ⟨Nat.zero_le _, Nat.zero_le _⟩) X.2.2.2.1 (fun q _ h => X.fr q h) X.fr (fun u t H1 locs1 ht hvm hw hB hz1 hk1 hS => ?_)
  obtain rfl := hw
  obtain ⟨hP1, hK1, hD1⟩ := hB
  rw [ht] at hP1
  exact kk H1 locs1 ⟨X.1, hP1, hD1.weaken (fun k q _ h => X.fr q.1 h), hS, X.2.2.2.2⟩
theorem zr_csI {out : Int32 × St} (hx : p.tables.exec = Jvm.exec) (hb : c.code = cc) (hml : c.maxLocals = nL) (hown : s.vm.findClass own = some m.cls) (hts : ∀ w ∈ zz_WS, w.before args s = true) (hsz : ls.size = nL) (X : zz_X D cl tys A s H locs (w σ))
    (hM : zI l D cl tys w y (.code y bytes maxL ret :: zz_WS) rm As σ out) (k : zz_ks y bytes maxL ret n) (hl : Cond.methodLink own index y ∈ zz_WS) (hn : As.length = n) (hst : st = As.reverse ++ rest) (hW : (rest.map fun v => v.category).sum ≤ 8)
    (hrm : rm.cells = 0 ∧ rm.slots = 0) (hR : rm.frames + 1 ≤ R.frames ∧ 8 + (maxL + 11) + rm.locals ≤ R.locals) (hdg : decode cc pc = .ok (.invokestatic index, 3))
    (kk : ∀ (H1 : Heap) (locs1 : List Loc), zz_X D cl tys A s H1 locs1 (w out.2) → W p l e R s m args below meth c H1 locs1 0 0 Q (F0 m (pc + 3) ls (.int out.1 :: rest))) : W p l e R s m args below meth c H locs 0 0 Q (F0 m pc ls st) := by
  refine va_calli (va_runS (As := As) (rest := rest) ⟨hx, hb, hml, hown, hts⟩ (hM H.size) (va_cwS n hts (zz_gs k hl) rfl hrm.1 hrm.2 k.2.2.2 hR) ⟨zz_blind, fun U hU hW => ⟨rfl, by rw [hU], by rw [hU]; exact X.2.1, va_K.moved hW.alike X.1, X.2.2.1.weaken (fun _ _ _ _ => trivial)⟩⟩ rfl hn hsz hst (lv_room hW) hdg ⟨Nat.zero_le _, Nat.zero_le _⟩) X.2.2.2.1 (fun q _ h => X.fr q h) X.fr (fun r u t H1 locs1 ht hvm hw hB hz1 hk1 hS => ?_)
  obtain ⟨rfl, rfl⟩ := hw
  obtain ⟨hP1, hK1, hD1⟩ := hB
  rw [ht] at hP1
  exact kk H1 locs1 ⟨X.1, hP1, hD1.weaken (fun k q _ h => X.fr q.1 h), hS, X.2.2.2.2⟩
theorem zr_csP {r : Int32} (hx : p.tables.exec = Jvm.exec) (hb : c.code = cc) (hml : c.maxLocals = nL) (hown : s.vm.findClass own = some m.cls) (hts : ∀ w ∈ zz_WS, w.before args s = true) (hsz : ls.size = nL) (X : zz_X D cl tys A s H locs (w σ))
    (hM : zI l D cl tys w y (.code y bytes maxL ret :: zz_WS) rm As σ (r, σ)) (k : zz_ks y bytes maxL ret n) (hl : Cond.methodLink own index y ∈ zz_WS) (hn : As.length = n) (hst : st = As.reverse ++ rest) (hW : (rest.map fun v => v.category).sum ≤ 8)
    (hrm : rm.cells = 0 ∧ rm.slots = 0) (hR : rm.frames + 1 ≤ R.frames ∧ 8 + (maxL + 11) + rm.locals ≤ R.locals) (hdg : decode cc pc = .ok (.invokestatic index, 3))
    (kk : ∀ (H1 : Heap) (locs1 : List Loc), zz_X D cl tys A s H1 locs1 (w σ) → W p l e R s m args below meth c H1 locs1 0 0 Q (F0 m (pc + 3) ls (.int r :: rest))) : W p l e R s m args below meth c H locs 0 0 Q (F0 m pc ls st) :=
  zr_csI hx hb hml hown hts hsz X hM k hl hn hst hW hrm hR hdg kk
end ZC
end ZR
end
section
def wS (q : Nat → Nat) (cI cZ : ClassId) (σ : St) : va_W := [(q 0, .inr (0, [.ref (q 1), .ref (q 5), .ref (q 8), .ref (q 14), .ref (q 16), .ref (q 21), .ref (q 27), .ref (q 30)])),
  (q 1, .inr (1, [.ref (q 2), .ref (q 3), .ref (q 4)])),
  (q 2, .inl (cI, 256, .inl (σ 0))),
  (q 3, .inl (cZ, 256, .inl (σ 1))),
  (q 4, .inl (cZ, 256, .inl (σ 2))),
  (q 5, .inr (2, [.ref (q 6), .ref (q 7)])),
  (q 6, .inl (cI, 8, .inl (σ 3))),
  (q 7, .inl (cI, 8, .inl (σ 4))),
  (q 8, .inr (3, [.ref (q 9), .ref (q 10), .ref (q 11), .ref (q 12), .ref (q 13)])),
  (q 9, .inl (cI, 32, .inl (σ 5))),
  (q 10, .inl (cI, 32, .inl (σ 6))),
  (q 11, .inl (cI, 32, .inl (σ 7))),
  (q 12, .inl (cI, 32, .inl (σ 8))),
  (q 13, .inl (cI, 32, .inl (σ 9))),
  (q 14, .inr (4, [.ref (q 8), .ref (q 15), .int (σ 11 0), .int (σ 12 0)])),
  (q 15, .inl (cI, 32, .inl (σ 10))),
  (q 16, .inr (5, [.ref (q 17), .ref (q 18), .ref (q 19), .ref (q 20), .int (σ 17 0)])),
  (q 17, .inl (cI, 24, .inl (σ 13))),
  (q 18, .inl (cI, 24, .inl (σ 14))),
  (q 19, .inl (cI, 24, .inl (σ 15))),
  (q 20, .inl (cI, 24, .inl (σ 16))),
  (q 21, .inr (6, [.ref (q 1), .ref (q 22), .ref (q 23), .ref (q 24), .ref (q 25), .ref (q 26), .int (σ 23 0), .int (σ 24 0), .int (σ 25 0)])),
  (q 22, .inl (cI, 10, .inl (σ 18))),
  (q 23, .inl (cI, 10, .inl (σ 19))),
  (q 24, .inl (cI, 10, .inl (σ 20))),
  (q 25, .inl (cI, 10, .inl (σ 21))),
  (q 26, .inl (cI, 10, .inl (σ 22))),
  (q 27, .inr (7, [.ref (q 1), .ref (q 5), .ref (q 21), .ref (q 28), .ref (q 29), .int (σ 28 0)])),
  (q 28, .inl (cI, 10, .inl (σ 26))),
  (q 29, .inl (cI, 10, .inl (σ 27))),
  (q 30, .inr (8, [.ref (q 1), .ref (q 5), .ref (q 8), .ref (q 14), .ref (q 16), .ref (q 21), .int (σ 29 0), .int (σ 30 0), .int (σ 31 0), .int (σ 32 0), .int (σ 33 0)]))]
section ZFS
variable {p : Program} {l : Launch} {e : Env} {R : Room} {s : State} {m : MethodId} {args : Array Value} {below : List Frame} {meth : Method} {c : Code} {H : Heap} {locs : List Loc} {cells slots : Nat} {Q : State → Prop} {cc : ByteArray} {pc : Nat} {ls : Array Slot} {rest : List Value} {D : va_G} {q : Nat → Nat} {cI cZ : ClassId} {A : Nat → Prop} {σ : St}
theorem zg_SW_bytes (hx : p.tables.exec = Jvm.exec) (hb : c.code = cc) (hts : ∀ w ∈ zz_WS, w.before args s = true) (hown : s.vm.findClass zR_SW = some m.cls) (X : zz_X D vwCl (zz_tys cI cZ) A s H locs (wS q cI cZ σ)) (hdg : decode cc pc = .ok (.getfield 10, 3)) (k : W p l e R s m args below meth c H locs cells slots Q (F0 m (pc + 3) ls (.ref (q 1) :: rest))) : W p l e R s m args below meth c H locs cells slots Q (F0 m pc ls (.ref (q 0) :: rest)) :=
  va_get (ci := 0) (v := .ref (q 1)) (C := zR_SW) (T := zT_SW) (N := 8) hx hb hts zi_SW hown X.1 X.2.1 0 rfl rfl 0 (by decide) (hts (.fieldLink zR_SW 10 zR_SW "bytes" "LShadowWarden$Memory;") (zz_in 272 (by decide +kernel) rfl)) (fun _ h9 => h9) rfl hdg k
theorem zg_SW_registers (hx : p.tables.exec = Jvm.exec) (hb : c.code = cc) (hts : ∀ w ∈ zz_WS, w.before args s = true) (hown : s.vm.findClass zR_SW = some m.cls) (X : zz_X D vwCl (zz_tys cI cZ) A s H locs (wS q cI cZ σ)) (hdg : decode cc pc = .ok (.getfield 19, 3)) (k : W p l e R s m args below meth c H locs cells slots Q (F0 m (pc + 3) ls (.ref (q 5) :: rest))) : W p l e R s m args below meth c H locs cells slots Q (F0 m pc ls (.ref (q 0) :: rest)) :=
  va_get (ci := 0) (v := .ref (q 5)) (C := zR_SW) (T := zT_SW) (N := 8) hx hb hts zi_SW hown X.1 X.2.1 0 rfl rfl 1 (by decide) (hts (.fieldLink zR_SW 19 zR_SW "registers" "LShadowWarden$Registers;") (zz_in 273 (by decide +kernel) rfl)) (fun _ h9 => h9) rfl hdg k
theorem zg_SW_program (hx : p.tables.exec = Jvm.exec) (hb : c.code = cc) (hts : ∀ w ∈ zz_WS, w.before args s = true) (hown : s.vm.findClass zR_SW = some m.cls) (X : zz_X D vwCl (zz_tys cI cZ) A s H locs (wS q cI cZ σ)) (hdg : decode cc pc = .ok (.getfield 26, 3)) (k : W p l e R s m args below meth c H locs cells slots Q (F0 m (pc + 3) ls (.ref (q 8) :: rest))) : W p l e R s m args below meth c H locs cells slots Q (F0 m pc ls (.ref (q 0) :: rest)) :=
  va_get (ci := 0) (v := .ref (q 8)) (C := zR_SW) (T := zT_SW) (N := 8) hx hb hts zi_SW hown X.1 X.2.1 0 rfl rfl 2 (by decide) (hts (.fieldLink zR_SW 26 zR_SW "program" "LShadowWarden$Program;") (zz_in 274 (by decide +kernel) rfl)) (fun _ h9 => h9) rfl hdg k
theorem zg_SW_pieces (hx : p.tables.exec = Jvm.exec) (hb : c.code = cc) (hts : ∀ w ∈ zz_WS, w.before args s = true) (hown : s.vm.findClass zR_SW = some m.cls) (X : zz_X D vwCl (zz_tys cI cZ) A s H locs (wS q cI cZ σ)) (hdg : decode cc pc = .ok (.getfield 35, 3)) (k : W p l e R s m args below meth c H locs cells slots Q (F0 m (pc + 3) ls (.ref (q 14) :: rest))) : W p l e R s m args below meth c H locs cells slots Q (F0 m pc ls (.ref (q 0) :: rest)) :=
  va_get (ci := 0) (v := .ref (q 14)) (C := zR_SW) (T := zT_SW) (N := 8) hx hb hts zi_SW hown X.1 X.2.1 0 rfl rfl 3 (by decide) (hts (.fieldLink zR_SW 35 zR_SW "pieces" "LShadowWarden$Pieces;") (zz_in 275 (by decide +kernel) rfl)) (fun _ h9 => h9) rfl hdg k
theorem zg_SW_findings (hx : p.tables.exec = Jvm.exec) (hb : c.code = cc) (hts : ∀ w ∈ zz_WS, w.before args s = true) (hown : s.vm.findClass zR_SW = some m.cls) (X : zz_X D vwCl (zz_tys cI cZ) A s H locs (wS q cI cZ σ)) (hdg : decode cc pc = .ok (.getfield 42, 3)) (k : W p l e R s m args below meth c H locs cells slots Q (F0 m (pc + 3) ls (.ref (q 16) :: rest))) : W p l e R s m args below meth c H locs cells slots Q (F0 m pc ls (.ref (q 0) :: rest)) :=
  va_get (ci := 0) (v := .ref (q 16)) (C := zR_SW) (T := zT_SW) (N := 8) hx hb hts zi_SW hown X.1 X.2.1 0 rfl rfl 4 (by decide) (hts (.fieldLink zR_SW 42 zR_SW "findings" "LShadowWarden$Findings;") (zz_in 276 (by decide +kernel) rfl)) (fun _ h9 => h9) rfl hdg k
theorem zg_SW_heap (hx : p.tables.exec = Jvm.exec) (hb : c.code = cc) (hts : ∀ w ∈ zz_WS, w.before args s = true) (hown : s.vm.findClass zR_SW = some m.cls) (X : zz_X D vwCl (zz_tys cI cZ) A s H locs (wS q cI cZ σ)) (hdg : decode cc pc = .ok (.getfield 51, 3)) (k : W p l e R s m args below meth c H locs cells slots Q (F0 m (pc + 3) ls (.ref (q 21) :: rest))) : W p l e R s m args below meth c H locs cells slots Q (F0 m pc ls (.ref (q 0) :: rest)) :=
  va_get (ci := 0) (v := .ref (q 21)) (C := zR_SW) (T := zT_SW) (N := 8) hx hb hts zi_SW hown X.1 X.2.1 0 rfl rfl 5 (by decide) (hts (.fieldLink zR_SW 51 zR_SW "heap" "LShadowWarden$Heap;") (zz_in 277 (by decide +kernel) rfl)) (fun _ h9 => h9) rfl hdg k
theorem zg_SW_scan (hx : p.tables.exec = Jvm.exec) (hb : c.code = cc) (hts : ∀ w ∈ zz_WS, w.before args s = true) (hown : s.vm.findClass zR_SW = some m.cls) (X : zz_X D vwCl (zz_tys cI cZ) A s H locs (wS q cI cZ σ)) (hdg : decode cc pc = .ok (.getfield 60, 3)) (k : W p l e R s m args below meth c H locs cells slots Q (F0 m (pc + 3) ls (.ref (q 27) :: rest))) : W p l e R s m args below meth c H locs cells slots Q (F0 m pc ls (.ref (q 0) :: rest)) :=
  va_get (ci := 0) (v := .ref (q 27)) (C := zR_SW) (T := zT_SW) (N := 8) hx hb hts zi_SW hown X.1 X.2.1 0 rfl rfl 6 (by decide) (hts (.fieldLink zR_SW 60 zR_SW "scan" "LShadowWarden$LeakScan;") (zz_in 278 (by decide +kernel) rfl)) (fun _ h9 => h9) rfl hdg k
theorem zg_SW_machine (hx : p.tables.exec = Jvm.exec) (hb : c.code = cc) (hts : ∀ w ∈ zz_WS, w.before args s = true) (hown : s.vm.findClass zR_SW = some m.cls) (X : zz_X D vwCl (zz_tys cI cZ) A s H locs (wS q cI cZ σ)) (hdg : decode cc pc = .ok (.getfield 69, 3)) (k : W p l e R s m args below meth c H locs cells slots Q (F0 m (pc + 3) ls (.ref (q 30) :: rest))) : W p l e R s m args below meth c H locs cells slots Q (F0 m pc ls (.ref (q 0) :: rest)) :=
  va_get (ci := 0) (v := .ref (q 30)) (C := zR_SW) (T := zT_SW) (N := 8) hx hb hts zi_SW hown X.1 X.2.1 0 rfl rfl 7 (by decide) (hts (.fieldLink zR_SW 69 zR_SW "machine" "LShadowWarden$Machine;") (zz_in 279 (by decide +kernel) rfl)) (fun _ h9 => h9) rfl hdg k
theorem zg_Me_values (hx : p.tables.exec = Jvm.exec) (hb : c.code = cc) (hts : ∀ w ∈ zz_WS, w.before args s = true) (hown : s.vm.findClass zR_Me = some m.cls) (X : zz_X D vwCl (zz_tys cI cZ) A s H locs (wS q cI cZ σ)) (hdg : decode cc pc = .ok (.getfield 9, 3)) (k : W p l e R s m args below meth c H locs cells slots Q (F0 m (pc + 3) ls (.ref (q 2) :: rest))) : W p l e R s m args below meth c H locs cells slots Q (F0 m pc ls (.ref (q 1) :: rest)) :=
  va_get (ci := 1) (v := .ref (q 2)) (C := zR_Me) (T := zT_Me) (N := 3) hx hb hts zi_Me hown X.1 X.2.1 1 rfl rfl 0 (by decide) (hts (.fieldLink zR_Me 9 zR_Me "values" "[I") (zz_in 81 (by decide +kernel) rfl)) (fun _ h9 => h9) rfl hdg k
theorem zg_Me_open (hx : p.tables.exec = Jvm.exec) (hb : c.code = cc) (hts : ∀ w ∈ zz_WS, w.before args s = true) (hown : s.vm.findClass zR_Me = some m.cls) (X : zz_X D vwCl (zz_tys cI cZ) A s H locs (wS q cI cZ σ)) (hdg : decode cc pc = .ok (.getfield 13, 3)) (k : W p l e R s m args below meth c H locs cells slots Q (F0 m (pc + 3) ls (.ref (q 3) :: rest))) : W p l e R s m args below meth c H locs cells slots Q (F0 m pc ls (.ref (q 1) :: rest)) :=
  va_get (ci := 1) (v := .ref (q 3)) (C := zR_Me) (T := zT_Me) (N := 3) hx hb hts zi_Me hown X.1 X.2.1 1 rfl rfl 1 (by decide) (hts (.fieldLink zR_Me 13 zR_Me "open" "[Z") (zz_in 82 (by decide +kernel) rfl)) (fun _ h9 => h9) rfl hdg k
theorem zg_Me_known (hx : p.tables.exec = Jvm.exec) (hb : c.code = cc) (hts : ∀ w ∈ zz_WS, w.before args s = true) (hown : s.vm.findClass zR_Me = some m.cls) (X : zz_X D vwCl (zz_tys cI cZ) A s H locs (wS q cI cZ σ)) (hdg : decode cc pc = .ok (.getfield 17, 3)) (k : W p l e R s m args below meth c H locs cells slots Q (F0 m (pc + 3) ls (.ref (q 4) :: rest))) : W p l e R s m args below meth c H locs cells slots Q (F0 m pc ls (.ref (q 1) :: rest)) :=
  va_get (ci := 1) (v := .ref (q 4)) (C := zR_Me) (T := zT_Me) (N := 3) hx hb hts zi_Me hown X.1 X.2.1 1 rfl rfl 2 (by decide) (hts (.fieldLink zR_Me 17 zR_Me "known" "[Z") (zz_in 83 (by decide +kernel) rfl)) (fun _ h9 => h9) rfl hdg k
theorem zg_Re_values (hx : p.tables.exec = Jvm.exec) (hb : c.code = cc) (hts : ∀ w ∈ zz_WS, w.before args s = true) (hown : s.vm.findClass zR_Re = some m.cls) (X : zz_X D vwCl (zz_tys cI cZ) A s H locs (wS q cI cZ σ)) (hdg : decode cc pc = .ok (.getfield 9, 3)) (k : W p l e R s m args below meth c H locs cells slots Q (F0 m (pc + 3) ls (.ref (q 6) :: rest))) : W p l e R s m args below meth c H locs cells slots Q (F0 m pc ls (.ref (q 5) :: rest)) :=
  va_get (ci := 2) (v := .ref (q 6)) (C := zR_Re) (T := zT_Re) (N := 2) hx hb hts zi_Re hown X.1 X.2.1 5 rfl rfl 0 (by decide) (hts (.fieldLink zR_Re 9 zR_Re "values" "[I") (zz_in 103 (by decide +kernel) rfl)) (fun _ h9 => h9) rfl hdg k
theorem zg_Re_known (hx : p.tables.exec = Jvm.exec) (hb : c.code = cc) (hts : ∀ w ∈ zz_WS, w.before args s = true) (hown : s.vm.findClass zR_Re = some m.cls) (X : zz_X D vwCl (zz_tys cI cZ) A s H locs (wS q cI cZ σ)) (hdg : decode cc pc = .ok (.getfield 13, 3)) (k : W p l e R s m args below meth c H locs cells slots Q (F0 m (pc + 3) ls (.ref (q 7) :: rest))) : W p l e R s m args below meth c H locs cells slots Q (F0 m pc ls (.ref (q 5) :: rest)) :=
  va_get (ci := 2) (v := .ref (q 7)) (C := zR_Re) (T := zT_Re) (N := 2) hx hb hts zi_Re hown X.1 X.2.1 5 rfl rfl 1 (by decide) (hts (.fieldLink zR_Re 13 zR_Re "known" "[I") (zz_in 104 (by decide +kernel) rfl)) (fun _ h9 => h9) rfl hdg k
theorem zg_Pr_ops (hx : p.tables.exec = Jvm.exec) (hb : c.code = cc) (hts : ∀ w ∈ zz_WS, w.before args s = true) (hown : s.vm.findClass zR_Pr = some m.cls) (X : zz_X D vwCl (zz_tys cI cZ) A s H locs (wS q cI cZ σ)) (hdg : decode cc pc = .ok (.getfield 9, 3)) (k : W p l e R s m args below meth c H locs cells slots Q (F0 m (pc + 3) ls (.ref (q 9) :: rest))) : W p l e R s m args below meth c H locs cells slots Q (F0 m pc ls (.ref (q 8) :: rest)) :=
  va_get (ci := 3) (v := .ref (q 9)) (C := zR_Pr) (T := zT_Pr) (N := 5) hx hb hts zi_Pr hown X.1 X.2.1 8 rfl rfl 0 (by decide) (hts (.fieldLink zR_Pr 9 zR_Pr "ops" "[I") (zz_in 116 (by decide +kernel) rfl)) (fun _ h9 => h9) rfl hdg k
theorem zg_Pr_targets (hx : p.tables.exec = Jvm.exec) (hb : c.code = cc) (hts : ∀ w ∈ zz_WS, w.before args s = true) (hown : s.vm.findClass zR_Pr = some m.cls) (X : zz_X D vwCl (zz_tys cI cZ) A s H locs (wS q cI cZ σ)) (hdg : decode cc pc = .ok (.getfield 13, 3)) (k : W p l e R s m args below meth c H locs cells slots Q (F0 m (pc + 3) ls (.ref (q 10) :: rest))) : W p l e R s m args below meth c H locs cells slots Q (F0 m pc ls (.ref (q 8) :: rest)) :=
  va_get (ci := 3) (v := .ref (q 10)) (C := zR_Pr) (T := zT_Pr) (N := 5) hx hb hts zi_Pr hown X.1 X.2.1 8 rfl rfl 1 (by decide) (hts (.fieldLink zR_Pr 13 zR_Pr "targets" "[I") (zz_in 117 (by decide +kernel) rfl)) (fun _ h9 => h9) rfl hdg k
theorem zg_Pr_firsts (hx : p.tables.exec = Jvm.exec) (hb : c.code = cc) (hts : ∀ w ∈ zz_WS, w.before args s = true) (hown : s.vm.findClass zR_Pr = some m.cls) (X : zz_X D vwCl (zz_tys cI cZ) A s H locs (wS q cI cZ σ)) (hdg : decode cc pc = .ok (.getfield 16, 3)) (k : W p l e R s m args below meth c H locs cells slots Q (F0 m (pc + 3) ls (.ref (q 11) :: rest))) : W p l e R s m args below meth c H locs cells slots Q (F0 m pc ls (.ref (q 8) :: rest)) :=
  va_get (ci := 3) (v := .ref (q 11)) (C := zR_Pr) (T := zT_Pr) (N := 5) hx hb hts zi_Pr hown X.1 X.2.1 8 rfl rfl 2 (by decide) (hts (.fieldLink zR_Pr 16 zR_Pr "firsts" "[I") (zz_in 118 (by decide +kernel) rfl)) (fun _ h9 => h9) rfl hdg k
theorem zg_Pr_seconds (hx : p.tables.exec = Jvm.exec) (hb : c.code = cc) (hts : ∀ w ∈ zz_WS, w.before args s = true) (hown : s.vm.findClass zR_Pr = some m.cls) (X : zz_X D vwCl (zz_tys cI cZ) A s H locs (wS q cI cZ σ)) (hdg : decode cc pc = .ok (.getfield 19, 3)) (k : W p l e R s m args below meth c H locs cells slots Q (F0 m (pc + 3) ls (.ref (q 12) :: rest))) : W p l e R s m args below meth c H locs cells slots Q (F0 m pc ls (.ref (q 8) :: rest)) :=
  va_get (ci := 3) (v := .ref (q 12)) (C := zR_Pr) (T := zT_Pr) (N := 5) hx hb hts zi_Pr hown X.1 X.2.1 8 rfl rfl 3 (by decide) (hts (.fieldLink zR_Pr 19 zR_Pr "seconds" "[I") (zz_in 119 (by decide +kernel) rfl)) (fun _ h9 => h9) rfl hdg k
theorem zg_Pr_numbers (hx : p.tables.exec = Jvm.exec) (hb : c.code = cc) (hts : ∀ w ∈ zz_WS, w.before args s = true) (hown : s.vm.findClass zR_Pr = some m.cls) (X : zz_X D vwCl (zz_tys cI cZ) A s H locs (wS q cI cZ σ)) (hdg : decode cc pc = .ok (.getfield 22, 3)) (k : W p l e R s m args below meth c H locs cells slots Q (F0 m (pc + 3) ls (.ref (q 13) :: rest))) : W p l e R s m args below meth c H locs cells slots Q (F0 m pc ls (.ref (q 8) :: rest)) :=
  va_get (ci := 3) (v := .ref (q 13)) (C := zR_Pr) (T := zT_Pr) (N := 5) hx hb hts zi_Pr hown X.1 X.2.1 8 rfl rfl 4 (by decide) (hts (.fieldLink zR_Pr 22 zR_Pr "numbers" "[I") (zz_in 120 (by decide +kernel) rfl)) (fun _ h9 => h9) rfl hdg k
theorem zg_Pi_program (hx : p.tables.exec = Jvm.exec) (hb : c.code = cc) (hts : ∀ w ∈ zz_WS, w.before args s = true) (hown : s.vm.findClass zR_Pi = some m.cls) (X : zz_X D vwCl (zz_tys cI cZ) A s H locs (wS q cI cZ σ)) (hdg : decode cc pc = .ok (.getfield 7, 3)) (k : W p l e R s m args below meth c H locs cells slots Q (F0 m (pc + 3) ls (.ref (q 8) :: rest))) : W p l e R s m args below meth c H locs cells slots Q (F0 m pc ls (.ref (q 14) :: rest)) :=
  va_get (ci := 4) (v := .ref (q 8)) (C := zR_Pi) (T := zT_Pi) (N := 4) hx hb hts zi_Pi hown X.1 X.2.1 14 rfl rfl 0 (by decide) (hts (.fieldLink zR_Pi 7 zR_Pi "program" "LShadowWarden$Program;") (zz_in 138 (by decide +kernel) rfl)) (fun _ h9 => h9) rfl hdg k
theorem zg_Pi_lengths (hx : p.tables.exec = Jvm.exec) (hb : c.code = cc) (hts : ∀ w ∈ zz_WS, w.before args s = true) (hown : s.vm.findClass zR_Pi = some m.cls) (X : zz_X D vwCl (zz_tys cI cZ) A s H locs (wS q cI cZ σ)) (hdg : decode cc pc = .ok (.getfield 15, 3)) (k : W p l e R s m args below meth c H locs cells slots Q (F0 m (pc + 3) ls (.ref (q 15) :: rest))) : W p l e R s m args below meth c H locs cells slots Q (F0 m pc ls (.ref (q 14) :: rest)) :=
  va_get (ci := 4) (v := .ref (q 15)) (C := zR_Pi) (T := zT_Pi) (N := 4) hx hb hts zi_Pi hown X.1 X.2.1 14 rfl rfl 1 (by decide) (hts (.fieldLink zR_Pi 15 zR_Pi "lengths" "[I") (zz_in 139 (by decide +kernel) rfl)) (fun _ h9 => h9) rfl hdg k
theorem zg_Pi_translated (hx : p.tables.exec = Jvm.exec) (hb : c.code = cc) (hts : ∀ w ∈ zz_WS, w.before args s = true) (hown : s.vm.findClass zR_Pi = some m.cls) (X : zz_X D vwCl (zz_tys cI cZ) A s H locs (wS q cI cZ σ)) (hdg : decode cc pc = .ok (.getfield 27, 3)) (k : W p l e R s m args below meth c H locs cells slots Q (F0 m (pc + 3) ls (.int (σ 11 0) :: rest))) : W p l e R s m args below meth c H locs cells slots Q (F0 m pc ls (.ref (q 14) :: rest)) :=
  va_get (ci := 4) (v := .int (σ 11 0)) (C := zR_Pi) (T := zT_Pi) (N := 4) hx hb hts zi_Pi hown X.1 X.2.1 14 rfl rfl 2 (by decide) (hts (.fieldLink zR_Pi 27 zR_Pi "translated" "I") (zz_in 140 (by decide +kernel) rfl)) (fun _ h9 => h9) rfl hdg k
theorem zp_Pi_translated (hx : p.tables.exec = Jvm.exec) (hb : c.code = cc) (hts : ∀ w ∈ zz_WS, w.before args s = true) (hown : s.vm.findClass zR_Pi = some m.cls) (X : zz_X D vwCl (zz_tys cI cZ) A s H locs (wS q cI cZ σ)) {x : Int32} (hdg : decode cc pc = .ok (.putfield 27, 3)) (kk : ∀ (H : Heap) (locs : List Loc), zz_X D vwCl (zz_tys cI cZ) A s H locs (wS q cI cZ (zz_put σ 11 0 x)) → W p l e R s m args below meth c H locs cells slots Q (F0 m (pc + 3) ls rest)) : W p l e R s m args below meth c H locs cells slots Q (F0 m pc ls (.int x :: .ref (q 14) :: rest)) :=
  va_put (ci := 4) (v := .int x) (ty := .int) (C := zR_Pi) (T := zT_Pi) (N := 4) hx hb hts zi_Pi zt_Pi zo_Pi zn_Pi hown X.1 X.2.1 X.2.2.1 X.2.2.2.1 14 rfl rfl 2 (by decide) (hts (.fieldLink zR_Pi 27 zR_Pi "translated" "I") (zz_in 140 (by decide +kernel) rfl)) (fun _ h9 => h9) rfl (by decide +kernel) rfl rfl (Nat.le_of_ble_eq_true rfl) hdg (fun H locs hP hD hS => kk H locs ⟨X.1, hP, hD, hS, X.2.2.2.2⟩)
theorem zg_Pi_leftOfPieceAtHand (hx : p.tables.exec = Jvm.exec) (hb : c.code = cc) (hts : ∀ w ∈ zz_WS, w.before args s = true) (hown : s.vm.findClass zR_Pi = some m.cls) (X : zz_X D vwCl (zz_tys cI cZ) A s H locs (wS q cI cZ σ)) (hdg : decode cc pc = .ok (.getfield 19, 3)) (k : W p l e R s m args below meth c H locs cells slots Q (F0 m (pc + 3) ls (.int (σ 12 0) :: rest))) : W p l e R s m args below meth c H locs cells slots Q (F0 m pc ls (.ref (q 14) :: rest)) :=
  va_get (ci := 4) (v := .int (σ 12 0)) (C := zR_Pi) (T := zT_Pi) (N := 4) hx hb hts zi_Pi hown X.1 X.2.1 14 rfl rfl 3 (by decide) (hts (.fieldLink zR_Pi 19 zR_Pi "leftOfPieceAtHand" "I") (zz_in 141 (by decide +kernel) rfl)) (fun _ h9 => h9) rfl hdg k
theorem zp_Pi_leftOfPieceAtHand (hx : p.tables.exec = Jvm.exec) (hb : c.code = cc) (hts : ∀ w ∈ zz_WS, w.before args s = true) (hown : s.vm.findClass zR_Pi = some m.cls) (X : zz_X D vwCl (zz_tys cI cZ) A s H locs (wS q cI cZ σ)) {x : Int32} (hdg : decode cc pc = .ok (.putfield 19, 3)) (kk : ∀ (H : Heap) (locs : List Loc), zz_X D vwCl (zz_tys cI cZ) A s H locs (wS q cI cZ (zz_put σ 12 0 x)) → W p l e R s m args below meth c H locs cells slots Q (F0 m (pc + 3) ls rest)) : W p l e R s m args below meth c H locs cells slots Q (F0 m pc ls (.int x :: .ref (q 14) :: rest)) :=
  va_put (ci := 4) (v := .int x) (ty := .int) (C := zR_Pi) (T := zT_Pi) (N := 4) hx hb hts zi_Pi zt_Pi zo_Pi zn_Pi hown X.1 X.2.1 X.2.2.1 X.2.2.2.1 14 rfl rfl 3 (by decide) (hts (.fieldLink zR_Pi 19 zR_Pi "leftOfPieceAtHand" "I") (zz_in 141 (by decide +kernel) rfl)) (fun _ h9 => h9) rfl (by decide +kernel) rfl rfl (Nat.le_of_ble_eq_true rfl) hdg (fun H locs hP hD hS => kk H locs ⟨X.1, hP, hD, hS, X.2.2.2.2⟩)
theorem zg_Fi_kinds (hx : p.tables.exec = Jvm.exec) (hb : c.code = cc) (hts : ∀ w ∈ zz_WS, w.before args s = true) (hown : s.vm.findClass zR_Fi = some m.cls) (X : zz_X D vwCl (zz_tys cI cZ) A s H locs (wS q cI cZ σ)) (hdg : decode cc pc = .ok (.getfield 9, 3)) (k : W p l e R s m args below meth c H locs cells slots Q (F0 m (pc + 3) ls (.ref (q 17) :: rest))) : W p l e R s m args below meth c H locs cells slots Q (F0 m pc ls (.ref (q 16) :: rest)) :=
  va_get (ci := 5) (v := .ref (q 17)) (C := zR_Fi) (T := zT_Fi) (N := 5) hx hb hts zi_Fi hown X.1 X.2.1 16 rfl rfl 0 (by decide) (hts (.fieldLink zR_Fi 9 zR_Fi "kinds" "[I") (zz_in 157 (by decide +kernel) rfl)) (fun _ h9 => h9) rfl hdg k
theorem zg_Fi_instructions (hx : p.tables.exec = Jvm.exec) (hb : c.code = cc) (hts : ∀ w ∈ zz_WS, w.before args s = true) (hown : s.vm.findClass zR_Fi = some m.cls) (X : zz_X D vwCl (zz_tys cI cZ) A s H locs (wS q cI cZ σ)) (hdg : decode cc pc = .ok (.getfield 13, 3)) (k : W p l e R s m args below meth c H locs cells slots Q (F0 m (pc + 3) ls (.ref (q 18) :: rest))) : W p l e R s m args below meth c H locs cells slots Q (F0 m pc ls (.ref (q 16) :: rest)) :=
  va_get (ci := 5) (v := .ref (q 18)) (C := zR_Fi) (T := zT_Fi) (N := 5) hx hb hts zi_Fi hown X.1 X.2.1 16 rfl rfl 1 (by decide) (hts (.fieldLink zR_Fi 13 zR_Fi "instructions" "[I") (zz_in 158 (by decide +kernel) rfl)) (fun _ h9 => h9) rfl hdg k
theorem zg_Fi_addresses (hx : p.tables.exec = Jvm.exec) (hb : c.code = cc) (hts : ∀ w ∈ zz_WS, w.before args s = true) (hown : s.vm.findClass zR_Fi = some m.cls) (X : zz_X D vwCl (zz_tys cI cZ) A s H locs (wS q cI cZ σ)) (hdg : decode cc pc = .ok (.getfield 16, 3)) (k : W p l e R s m args below meth c H locs cells slots Q (F0 m (pc + 3) ls (.ref (q 19) :: rest))) : W p l e R s m args below meth c H locs cells slots Q (F0 m pc ls (.ref (q 16) :: rest)) :=
  va_get (ci := 5) (v := .ref (q 19)) (C := zR_Fi) (T := zT_Fi) (N := 5) hx hb hts zi_Fi hown X.1 X.2.1 16 rfl rfl 2 (by decide) (hts (.fieldLink zR_Fi 16 zR_Fi "addresses" "[I") (zz_in 159 (by decide +kernel) rfl)) (fun _ h9 => h9) rfl hdg k
theorem zg_Fi_times (hx : p.tables.exec = Jvm.exec) (hb : c.code = cc) (hts : ∀ w ∈ zz_WS, w.before args s = true) (hown : s.vm.findClass zR_Fi = some m.cls) (X : zz_X D vwCl (zz_tys cI cZ) A s H locs (wS q cI cZ σ)) (hdg : decode cc pc = .ok (.getfield 19, 3)) (k : W p l e R s m args below meth c H locs cells slots Q (F0 m (pc + 3) ls (.ref (q 20) :: rest))) : W p l e R s m args below meth c H locs cells slots Q (F0 m pc ls (.ref (q 16) :: rest)) :=
  va_get (ci := 5) (v := .ref (q 20)) (C := zR_Fi) (T := zT_Fi) (N := 5) hx hb hts zi_Fi hown X.1 X.2.1 16 rfl rfl 3 (by decide) (hts (.fieldLink zR_Fi 19 zR_Fi "times" "[I") (zz_in 160 (by decide +kernel) rfl)) (fun _ h9 => h9) rfl hdg k
theorem zg_Fi_size (hx : p.tables.exec = Jvm.exec) (hb : c.code = cc) (hts : ∀ w ∈ zz_WS, w.before args s = true) (hown : s.vm.findClass zR_Fi = some m.cls) (X : zz_X D vwCl (zz_tys cI cZ) A s H locs (wS q cI cZ σ)) (hdg : decode cc pc = .ok (.getfield 22, 3)) (k : W p l e R s m args below meth c H locs cells slots Q (F0 m (pc + 3) ls (.int (σ 17 0) :: rest))) : W p l e R s m args below meth c H locs cells slots Q (F0 m pc ls (.ref (q 16) :: rest)) :=
  va_get (ci := 5) (v := .int (σ 17 0)) (C := zR_Fi) (T := zT_Fi) (N := 5) hx hb hts zi_Fi hown X.1 X.2.1 16 rfl rfl 4 (by decide) (hts (.fieldLink zR_Fi 22 zR_Fi "size" "I") (zz_in 161 (by decide +kernel) rfl)) (fun _ h9 => h9) rfl hdg k
theorem zp_Fi_size (hx : p.tables.exec = Jvm.exec) (hb : c.code = cc) (hts : ∀ w ∈ zz_WS, w.before args s = true) (hown : s.vm.findClass zR_Fi = some m.cls) (X : zz_X D vwCl (zz_tys cI cZ) A s H locs (wS q cI cZ σ)) {x : Int32} (hdg : decode cc pc = .ok (.putfield 22, 3)) (kk : ∀ (H : Heap) (locs : List Loc), zz_X D vwCl (zz_tys cI cZ) A s H locs (wS q cI cZ (zz_put σ 17 0 x)) → W p l e R s m args below meth c H locs cells slots Q (F0 m (pc + 3) ls rest)) : W p l e R s m args below meth c H locs cells slots Q (F0 m pc ls (.int x :: .ref (q 16) :: rest)) :=
  va_put (ci := 5) (v := .int x) (ty := .int) (C := zR_Fi) (T := zT_Fi) (N := 5) hx hb hts zi_Fi zt_Fi zo_Fi zn_Fi hown X.1 X.2.1 X.2.2.1 X.2.2.2.1 16 rfl rfl 4 (by decide) (hts (.fieldLink zR_Fi 22 zR_Fi "size" "I") (zz_in 161 (by decide +kernel) rfl)) (fun _ h9 => h9) rfl (by decide +kernel) rfl rfl (Nat.le_of_ble_eq_true rfl) hdg (fun H locs hP hD hS => kk H locs ⟨X.1, hP, hD, hS, X.2.2.2.2⟩)
theorem zg_He_bytes (hx : p.tables.exec = Jvm.exec) (hb : c.code = cc) (hts : ∀ w ∈ zz_WS, w.before args s = true) (hown : s.vm.findClass zR_He = some m.cls) (X : zz_X D vwCl (zz_tys cI cZ) A s H locs (wS q cI cZ σ)) (hdg : decode cc pc = .ok (.getfield 7, 3)) (k : W p l e R s m args below meth c H locs cells slots Q (F0 m (pc + 3) ls (.ref (q 1) :: rest))) : W p l e R s m args below meth c H locs cells slots Q (F0 m pc ls (.ref (q 21) :: rest)) :=
  va_get (ci := 6) (v := .ref (q 1)) (C := zR_He) (T := zT_He) (N := 9) hx hb hts zi_He hown X.1 X.2.1 21 rfl rfl 0 (by decide) (hts (.fieldLink zR_He 7 zR_He "bytes" "LShadowWarden$Memory;") (zz_in 179 (by decide +kernel) rfl)) (fun _ h9 => h9) rfl hdg k
theorem zg_He_numbers (hx : p.tables.exec = Jvm.exec) (hb : c.code = cc) (hts : ∀ w ∈ zz_WS, w.before args s = true) (hown : s.vm.findClass zR_He = some m.cls) (X : zz_X D vwCl (zz_tys cI cZ) A s H locs (wS q cI cZ σ)) (hdg : decode cc pc = .ok (.getfield 13, 3)) (k : W p l e R s m args below meth c H locs cells slots Q (F0 m (pc + 3) ls (.ref (q 22) :: rest))) : W p l e R s m args below meth c H locs cells slots Q (F0 m pc ls (.ref (q 21) :: rest)) :=
  va_get (ci := 6) (v := .ref (q 22)) (C := zR_He) (T := zT_He) (N := 9) hx hb hts zi_He hown X.1 X.2.1 21 rfl rfl 1 (by decide) (hts (.fieldLink zR_He 13 zR_He "numbers" "[I") (zz_in 180 (by decide +kernel) rfl)) (fun _ h9 => h9) rfl hdg k
theorem zg_He_addresses (hx : p.tables.exec = Jvm.exec) (hb : c.code = cc) (hts : ∀ w ∈ zz_WS, w.before args s = true) (hown : s.vm.findClass zR_He = some m.cls) (X : zz_X D vwCl (zz_tys cI cZ) A s H locs (wS q cI cZ σ)) (hdg : decode cc pc = .ok (.getfield 17, 3)) (k : W p l e R s m args below meth c H locs cells slots Q (F0 m (pc + 3) ls (.ref (q 23) :: rest))) : W p l e R s m args below meth c H locs cells slots Q (F0 m pc ls (.ref (q 21) :: rest)) :=
  va_get (ci := 6) (v := .ref (q 23)) (C := zR_He) (T := zT_He) (N := 9) hx hb hts zi_He hown X.1 X.2.1 21 rfl rfl 2 (by decide) (hts (.fieldLink zR_He 17 zR_He "addresses" "[I") (zz_in 181 (by decide +kernel) rfl)) (fun _ h9 => h9) rfl hdg k
theorem zg_He_sizes (hx : p.tables.exec = Jvm.exec) (hb : c.code = cc) (hts : ∀ w ∈ zz_WS, w.before args s = true) (hown : s.vm.findClass zR_He = some m.cls) (X : zz_X D vwCl (zz_tys cI cZ) A s H locs (wS q cI cZ σ)) (hdg : decode cc pc = .ok (.getfield 20, 3)) (k : W p l e R s m args below meth c H locs cells slots Q (F0 m (pc + 3) ls (.ref (q 24) :: rest))) : W p l e R s m args below meth c H locs cells slots Q (F0 m pc ls (.ref (q 21) :: rest)) :=
  va_get (ci := 6) (v := .ref (q 24)) (C := zR_He) (T := zT_He) (N := 9) hx hb hts zi_He hown X.1 X.2.1 21 rfl rfl 3 (by decide) (hts (.fieldLink zR_He 20 zR_He "sizes" "[I") (zz_in 182 (by decide +kernel) rfl)) (fun _ h9 => h9) rfl hdg k
theorem zg_He_wallEnds (hx : p.tables.exec = Jvm.exec) (hb : c.code = cc) (hts : ∀ w ∈ zz_WS, w.before args s = true) (hown : s.vm.findClass zR_He = some m.cls) (X : zz_X D vwCl (zz_tys cI cZ) A s H locs (wS q cI cZ σ)) (hdg : decode cc pc = .ok (.getfield 23, 3)) (k : W p l e R s m args below meth c H locs cells slots Q (F0 m (pc + 3) ls (.ref (q 25) :: rest))) : W p l e R s m args below meth c H locs cells slots Q (F0 m pc ls (.ref (q 21) :: rest)) :=
  va_get (ci := 6) (v := .ref (q 25)) (C := zR_He) (T := zT_He) (N := 9) hx hb hts zi_He hown X.1 X.2.1 21 rfl rfl 4 (by decide) (hts (.fieldLink zR_He 23 zR_He "wallEnds" "[I") (zz_in 183 (by decide +kernel) rfl)) (fun _ h9 => h9) rfl hdg k
theorem zg_He_restingSince (hx : p.tables.exec = Jvm.exec) (hb : c.code = cc) (hts : ∀ w ∈ zz_WS, w.before args s = true) (hown : s.vm.findClass zR_He = some m.cls) (X : zz_X D vwCl (zz_tys cI cZ) A s H locs (wS q cI cZ σ)) (hdg : decode cc pc = .ok (.getfield 26, 3)) (k : W p l e R s m args below meth c H locs cells slots Q (F0 m (pc + 3) ls (.ref (q 26) :: rest))) : W p l e R s m args below meth c H locs cells slots Q (F0 m pc ls (.ref (q 21) :: rest)) :=
  va_get (ci := 6) (v := .ref (q 26)) (C := zR_He) (T := zT_He) (N := 9) hx hb hts zi_He hown X.1 X.2.1 21 rfl rfl 5 (by decide) (hts (.fieldLink zR_He 26 zR_He "restingSince" "[I") (zz_in 184 (by decide +kernel) rfl)) (fun _ h9 => h9) rfl hdg k
theorem zg_He_there (hx : p.tables.exec = Jvm.exec) (hb : c.code = cc) (hts : ∀ w ∈ zz_WS, w.before args s = true) (hown : s.vm.findClass zR_He = some m.cls) (X : zz_X D vwCl (zz_tys cI cZ) A s H locs (wS q cI cZ σ)) (hdg : decode cc pc = .ok (.getfield 29, 3)) (k : W p l e R s m args below meth c H locs cells slots Q (F0 m (pc + 3) ls (.int (σ 23 0) :: rest))) : W p l e R s m args below meth c H locs cells slots Q (F0 m pc ls (.ref (q 21) :: rest)) :=
  va_get (ci := 6) (v := .int (σ 23 0)) (C := zR_He) (T := zT_He) (N := 9) hx hb hts zi_He hown X.1 X.2.1 21 rfl rfl 6 (by decide) (hts (.fieldLink zR_He 29 zR_He "there" "I") (zz_in 185 (by decide +kernel) rfl)) (fun _ h9 => h9) rfl hdg k
theorem zp_He_there (hx : p.tables.exec = Jvm.exec) (hb : c.code = cc) (hts : ∀ w ∈ zz_WS, w.before args s = true) (hown : s.vm.findClass zR_He = some m.cls) (X : zz_X D vwCl (zz_tys cI cZ) A s H locs (wS q cI cZ σ)) {x : Int32} (hdg : decode cc pc = .ok (.putfield 29, 3)) (kk : ∀ (H : Heap) (locs : List Loc), zz_X D vwCl (zz_tys cI cZ) A s H locs (wS q cI cZ (zz_put σ 23 0 x)) → W p l e R s m args below meth c H locs cells slots Q (F0 m (pc + 3) ls rest)) : W p l e R s m args below meth c H locs cells slots Q (F0 m pc ls (.int x :: .ref (q 21) :: rest)) :=
  va_put (ci := 6) (v := .int x) (ty := .int) (C := zR_He) (T := zT_He) (N := 9) hx hb hts zi_He zt_He zo_He zn_He hown X.1 X.2.1 X.2.2.1 X.2.2.2.1 21 rfl rfl 6 (by decide) (hts (.fieldLink zR_He 29 zR_He "there" "I") (zz_in 185 (by decide +kernel) rfl)) (fun _ h9 => h9) rfl (by decide +kernel) rfl rfl (Nat.le_of_ble_eq_true rfl) hdg (fun H locs hP hD hS => kk H locs ⟨X.1, hP, hD, hS, X.2.2.2.2⟩)
theorem zg_He_got (hx : p.tables.exec = Jvm.exec) (hb : c.code = cc) (hts : ∀ w ∈ zz_WS, w.before args s = true) (hown : s.vm.findClass zR_He = some m.cls) (X : zz_X D vwCl (zz_tys cI cZ) A s H locs (wS q cI cZ σ)) (hdg : decode cc pc = .ok (.getfield 51, 3)) (k : W p l e R s m args below meth c H locs cells slots Q (F0 m (pc + 3) ls (.int (σ 24 0) :: rest))) : W p l e R s m args below meth c H locs cells slots Q (F0 m pc ls (.ref (q 21) :: rest)) :=
  va_get (ci := 6) (v := .int (σ 24 0)) (C := zR_He) (T := zT_He) (N := 9) hx hb hts zi_He hown X.1 X.2.1 21 rfl rfl 7 (by decide) (hts (.fieldLink zR_He 51 zR_He "got" "I") (zz_in 186 (by decide +kernel) rfl)) (fun _ h9 => h9) rfl hdg k
theorem zp_He_got (hx : p.tables.exec = Jvm.exec) (hb : c.code = cc) (hts : ∀ w ∈ zz_WS, w.before args s = true) (hown : s.vm.findClass zR_He = some m.cls) (X : zz_X D vwCl (zz_tys cI cZ) A s H locs (wS q cI cZ σ)) {x : Int32} (hdg : decode cc pc = .ok (.putfield 51, 3)) (kk : ∀ (H : Heap) (locs : List Loc), zz_X D vwCl (zz_tys cI cZ) A s H locs (wS q cI cZ (zz_put σ 24 0 x)) → W p l e R s m args below meth c H locs cells slots Q (F0 m (pc + 3) ls rest)) : W p l e R s m args below meth c H locs cells slots Q (F0 m pc ls (.int x :: .ref (q 21) :: rest)) :=
  va_put (ci := 6) (v := .int x) (ty := .int) (C := zR_He) (T := zT_He) (N := 9) hx hb hts zi_He zt_He zo_He zn_He hown X.1 X.2.1 X.2.2.1 X.2.2.2.1 21 rfl rfl 7 (by decide) (hts (.fieldLink zR_He 51 zR_He "got" "I") (zz_in 186 (by decide +kernel) rfl)) (fun _ h9 => h9) rfl (by decide +kernel) rfl rfl (Nat.le_of_ble_eq_true rfl) hdg (fun H locs hP hD hS => kk H locs ⟨X.1, hP, hD, hS, X.2.2.2.2⟩)
theorem zg_He_givenBack (hx : p.tables.exec = Jvm.exec) (hb : c.code = cc) (hts : ∀ w ∈ zz_WS, w.before args s = true) (hown : s.vm.findClass zR_He = some m.cls) (X : zz_X D vwCl (zz_tys cI cZ) A s H locs (wS q cI cZ σ)) (hdg : decode cc pc = .ok (.getfield 54, 3)) (k : W p l e R s m args below meth c H locs cells slots Q (F0 m (pc + 3) ls (.int (σ 25 0) :: rest))) : W p l e R s m args below meth c H locs cells slots Q (F0 m pc ls (.ref (q 21) :: rest)) :=
  va_get (ci := 6) (v := .int (σ 25 0)) (C := zR_He) (T := zT_He) (N := 9) hx hb hts zi_He hown X.1 X.2.1 21 rfl rfl 8 (by decide) (hts (.fieldLink zR_He 54 zR_He "givenBack" "I") (zz_in 187 (by decide +kernel) rfl)) (fun _ h9 => h9) rfl hdg k
theorem zp_He_givenBack (hx : p.tables.exec = Jvm.exec) (hb : c.code = cc) (hts : ∀ w ∈ zz_WS, w.before args s = true) (hown : s.vm.findClass zR_He = some m.cls) (X : zz_X D vwCl (zz_tys cI cZ) A s H locs (wS q cI cZ σ)) {x : Int32} (hdg : decode cc pc = .ok (.putfield 54, 3)) (kk : ∀ (H : Heap) (locs : List Loc), zz_X D vwCl (zz_tys cI cZ) A s H locs (wS q cI cZ (zz_put σ 25 0 x)) → W p l e R s m args below meth c H locs cells slots Q (F0 m (pc + 3) ls rest)) : W p l e R s m args below meth c H locs cells slots Q (F0 m pc ls (.int x :: .ref (q 21) :: rest)) :=
  va_put (ci := 6) (v := .int x) (ty := .int) (C := zR_He) (T := zT_He) (N := 9) hx hb hts zi_He zt_He zo_He zn_He hown X.1 X.2.1 X.2.2.1 X.2.2.2.1 21 rfl rfl 8 (by decide) (hts (.fieldLink zR_He 54 zR_He "givenBack" "I") (zz_in 187 (by decide +kernel) rfl)) (fun _ h9 => h9) rfl (by decide +kernel) rfl rfl (Nat.le_of_ble_eq_true rfl) hdg (fun H locs hP hD hS => kk H locs ⟨X.1, hP, hD, hS, X.2.2.2.2⟩)
theorem zg_LS_bytes (hx : p.tables.exec = Jvm.exec) (hb : c.code = cc) (hts : ∀ w ∈ zz_WS, w.before args s = true) (hown : s.vm.findClass zR_LS = some m.cls) (X : zz_X D vwCl (zz_tys cI cZ) A s H locs (wS q cI cZ σ)) (hdg : decode cc pc = .ok (.getfield 7, 3)) (k : W p l e R s m args below meth c H locs cells slots Q (F0 m (pc + 3) ls (.ref (q 1) :: rest))) : W p l e R s m args below meth c H locs cells slots Q (F0 m pc ls (.ref (q 27) :: rest)) :=
  va_get (ci := 7) (v := .ref (q 1)) (C := zR_LS) (T := zT_LS) (N := 6) hx hb hts zi_LS hown X.1 X.2.1 27 rfl rfl 0 (by decide) (hts (.fieldLink zR_LS 7 zR_LS "bytes" "LShadowWarden$Memory;") (zz_in 213 (by decide +kernel) rfl)) (fun _ h9 => h9) rfl hdg k
theorem zg_LS_registers (hx : p.tables.exec = Jvm.exec) (hb : c.code = cc) (hts : ∀ w ∈ zz_WS, w.before args s = true) (hown : s.vm.findClass zR_LS = some m.cls) (X : zz_X D vwCl (zz_tys cI cZ) A s H locs (wS q cI cZ σ)) (hdg : decode cc pc = .ok (.getfield 13, 3)) (k : W p l e R s m args below meth c H locs cells slots Q (F0 m (pc + 3) ls (.ref (q 5) :: rest))) : W p l e R s m args below meth c H locs cells slots Q (F0 m pc ls (.ref (q 27) :: rest)) :=
  va_get (ci := 7) (v := .ref (q 5)) (C := zR_LS) (T := zT_LS) (N := 6) hx hb hts zi_LS hown X.1 X.2.1 27 rfl rfl 1 (by decide) (hts (.fieldLink zR_LS 13 zR_LS "registers" "LShadowWarden$Registers;") (zz_in 214 (by decide +kernel) rfl)) (fun _ h9 => h9) rfl hdg k
theorem zg_LS_heap (hx : p.tables.exec = Jvm.exec) (hb : c.code = cc) (hts : ∀ w ∈ zz_WS, w.before args s = true) (hown : s.vm.findClass zR_LS = some m.cls) (X : zz_X D vwCl (zz_tys cI cZ) A s H locs (wS q cI cZ σ)) (hdg : decode cc pc = .ok (.getfield 17, 3)) (k : W p l e R s m args below meth c H locs cells slots Q (F0 m (pc + 3) ls (.ref (q 21) :: rest))) : W p l e R s m args below meth c H locs cells slots Q (F0 m pc ls (.ref (q 27) :: rest)) :=
  va_get (ci := 7) (v := .ref (q 21)) (C := zR_LS) (T := zT_LS) (N := 6) hx hb hts zi_LS hown X.1 X.2.1 27 rfl rfl 2 (by decide) (hts (.fieldLink zR_LS 17 zR_LS "heap" "LShadowWarden$Heap;") (zz_in 215 (by decide +kernel) rfl)) (fun _ h9 => h9) rfl hdg k
theorem zg_LS_verdicts (hx : p.tables.exec = Jvm.exec) (hb : c.code = cc) (hts : ∀ w ∈ zz_WS, w.before args s = true) (hown : s.vm.findClass zR_LS = some m.cls) (X : zz_X D vwCl (zz_tys cI cZ) A s H locs (wS q cI cZ σ)) (hdg : decode cc pc = .ok (.getfield 23, 3)) (k : W p l e R s m args below meth c H locs cells slots Q (F0 m (pc + 3) ls (.ref (q 28) :: rest))) : W p l e R s m args below meth c H locs cells slots Q (F0 m pc ls (.ref (q 27) :: rest)) :=
  va_get (ci := 7) (v := .ref (q 28)) (C := zR_LS) (T := zT_LS) (N := 6) hx hb hts zi_LS hown X.1 X.2.1 27 rfl rfl 3 (by decide) (hts (.fieldLink zR_LS 23 zR_LS "verdicts" "[I") (zz_in 216 (by decide +kernel) rfl)) (fun _ h9 => h9) rfl hdg k
theorem zg_LS_found (hx : p.tables.exec = Jvm.exec) (hb : c.code = cc) (hts : ∀ w ∈ zz_WS, w.before args s = true) (hown : s.vm.findClass zR_LS = some m.cls) (X : zz_X D vwCl (zz_tys cI cZ) A s H locs (wS q cI cZ σ)) (hdg : decode cc pc = .ok (.getfield 27, 3)) (k : W p l e R s m args below meth c H locs cells slots Q (F0 m (pc + 3) ls (.ref (q 29) :: rest))) : W p l e R s m args below meth c H locs cells slots Q (F0 m pc ls (.ref (q 27) :: rest)) :=
  va_get (ci := 7) (v := .ref (q 29)) (C := zR_LS) (T := zT_LS) (N := 6) hx hb hts zi_LS hown X.1 X.2.1 27 rfl rfl 4 (by decide) (hts (.fieldLink zR_LS 27 zR_LS "found" "[I") (zz_in 217 (by decide +kernel) rfl)) (fun _ h9 => h9) rfl hdg k
theorem zg_LS_foundSize (hx : p.tables.exec = Jvm.exec) (hb : c.code = cc) (hts : ∀ w ∈ zz_WS, w.before args s = true) (hown : s.vm.findClass zR_LS = some m.cls) (X : zz_X D vwCl (zz_tys cI cZ) A s H locs (wS q cI cZ σ)) (hdg : decode cc pc = .ok (.getfield 34, 3)) (k : W p l e R s m args below meth c H locs cells slots Q (F0 m (pc + 3) ls (.int (σ 28 0) :: rest))) : W p l e R s m args below meth c H locs cells slots Q (F0 m pc ls (.ref (q 27) :: rest)) :=
  va_get (ci := 7) (v := .int (σ 28 0)) (C := zR_LS) (T := zT_LS) (N := 6) hx hb hts zi_LS hown X.1 X.2.1 27 rfl rfl 5 (by decide) (hts (.fieldLink zR_LS 34 zR_LS "foundSize" "I") (zz_in 218 (by decide +kernel) rfl)) (fun _ h9 => h9) rfl hdg k
theorem zp_LS_foundSize (hx : p.tables.exec = Jvm.exec) (hb : c.code = cc) (hts : ∀ w ∈ zz_WS, w.before args s = true) (hown : s.vm.findClass zR_LS = some m.cls) (X : zz_X D vwCl (zz_tys cI cZ) A s H locs (wS q cI cZ σ)) {x : Int32} (hdg : decode cc pc = .ok (.putfield 34, 3)) (kk : ∀ (H : Heap) (locs : List Loc), zz_X D vwCl (zz_tys cI cZ) A s H locs (wS q cI cZ (zz_put σ 28 0 x)) → W p l e R s m args below meth c H locs cells slots Q (F0 m (pc + 3) ls rest)) : W p l e R s m args below meth c H locs cells slots Q (F0 m pc ls (.int x :: .ref (q 27) :: rest)) :=
  va_put (ci := 7) (v := .int x) (ty := .int) (C := zR_LS) (T := zT_LS) (N := 6) hx hb hts zi_LS zt_LS zo_LS zn_LS hown X.1 X.2.1 X.2.2.1 X.2.2.2.1 27 rfl rfl 5 (by decide) (hts (.fieldLink zR_LS 34 zR_LS "foundSize" "I") (zz_in 218 (by decide +kernel) rfl)) (fun _ h9 => h9) rfl (by decide +kernel) rfl rfl (Nat.le_of_ble_eq_true rfl) hdg (fun H locs hP hD hS => kk H locs ⟨X.1, hP, hD, hS, X.2.2.2.2⟩)
theorem zg_Ma_bytes (hx : p.tables.exec = Jvm.exec) (hb : c.code = cc) (hts : ∀ w ∈ zz_WS, w.before args s = true) (hown : s.vm.findClass zR_Ma = some m.cls) (X : zz_X D vwCl (zz_tys cI cZ) A s H locs (wS q cI cZ σ)) (hdg : decode cc pc = .ok (.getfield 7, 3)) (k : W p l e R s m args below meth c H locs cells slots Q (F0 m (pc + 3) ls (.ref (q 1) :: rest))) : W p l e R s m args below meth c H locs cells slots Q (F0 m pc ls (.ref (q 30) :: rest)) :=
  va_get (ci := 8) (v := .ref (q 1)) (C := zR_Ma) (T := zT_Ma) (N := 11) hx hb hts zi_Ma hown X.1 X.2.1 30 rfl rfl 0 (by decide) (hts (.fieldLink zR_Ma 7 zR_Ma "bytes" "LShadowWarden$Memory;") (zz_in 238 (by decide +kernel) rfl)) (fun _ h9 => h9) rfl hdg k
theorem zg_Ma_registers (hx : p.tables.exec = Jvm.exec) (hb : c.code = cc) (hts : ∀ w ∈ zz_WS, w.before args s = true) (hown : s.vm.findClass zR_Ma = some m.cls) (X : zz_X D vwCl (zz_tys cI cZ) A s H locs (wS q cI cZ σ)) (hdg : decode cc pc = .ok (.getfield 13, 3)) (k : W p l e R s m args below meth c H locs cells slots Q (F0 m (pc + 3) ls (.ref (q 5) :: rest))) : W p l e R s m args below meth c H locs cells slots Q (F0 m pc ls (.ref (q 30) :: rest)) :=
  va_get (ci := 8) (v := .ref (q 5)) (C := zR_Ma) (T := zT_Ma) (N := 11) hx hb hts zi_Ma hown X.1 X.2.1 30 rfl rfl 1 (by decide) (hts (.fieldLink zR_Ma 13 zR_Ma "registers" "LShadowWarden$Registers;") (zz_in 239 (by decide +kernel) rfl)) (fun _ h9 => h9) rfl hdg k
theorem zg_Ma_program (hx : p.tables.exec = Jvm.exec) (hb : c.code = cc) (hts : ∀ w ∈ zz_WS, w.before args s = true) (hown : s.vm.findClass zR_Ma = some m.cls) (X : zz_X D vwCl (zz_tys cI cZ) A s H locs (wS q cI cZ σ)) (hdg : decode cc pc = .ok (.getfield 17, 3)) (k : W p l e R s m args below meth c H locs cells slots Q (F0 m (pc + 3) ls (.ref (q 8) :: rest))) : W p l e R s m args below meth c H locs cells slots Q (F0 m pc ls (.ref (q 30) :: rest)) :=
  va_get (ci := 8) (v := .ref (q 8)) (C := zR_Ma) (T := zT_Ma) (N := 11) hx hb hts zi_Ma hown X.1 X.2.1 30 rfl rfl 2 (by decide) (hts (.fieldLink zR_Ma 17 zR_Ma "program" "LShadowWarden$Program;") (zz_in 240 (by decide +kernel) rfl)) (fun _ h9 => h9) rfl hdg k
theorem zg_Ma_pieces (hx : p.tables.exec = Jvm.exec) (hb : c.code = cc) (hts : ∀ w ∈ zz_WS, w.before args s = true) (hown : s.vm.findClass zR_Ma = some m.cls) (X : zz_X D vwCl (zz_tys cI cZ) A s H locs (wS q cI cZ σ)) (hdg : decode cc pc = .ok (.getfield 21, 3)) (k : W p l e R s m args below meth c H locs cells slots Q (F0 m (pc + 3) ls (.ref (q 14) :: rest))) : W p l e R s m args below meth c H locs cells slots Q (F0 m pc ls (.ref (q 30) :: rest)) :=
  va_get (ci := 8) (v := .ref (q 14)) (C := zR_Ma) (T := zT_Ma) (N := 11) hx hb hts zi_Ma hown X.1 X.2.1 30 rfl rfl 3 (by decide) (hts (.fieldLink zR_Ma 21 zR_Ma "pieces" "LShadowWarden$Pieces;") (zz_in 241 (by decide +kernel) rfl)) (fun _ h9 => h9) rfl hdg k
theorem zg_Ma_findings (hx : p.tables.exec = Jvm.exec) (hb : c.code = cc) (hts : ∀ w ∈ zz_WS, w.before args s = true) (hown : s.vm.findClass zR_Ma = some m.cls) (X : zz_X D vwCl (zz_tys cI cZ) A s H locs (wS q cI cZ σ)) (hdg : decode cc pc = .ok (.getfield 25, 3)) (k : W p l e R s m args below meth c H locs cells slots Q (F0 m (pc + 3) ls (.ref (q 16) :: rest))) : W p l e R s m args below meth c H locs cells slots Q (F0 m pc ls (.ref (q 30) :: rest)) :=
  va_get (ci := 8) (v := .ref (q 16)) (C := zR_Ma) (T := zT_Ma) (N := 11) hx hb hts zi_Ma hown X.1 X.2.1 30 rfl rfl 4 (by decide) (hts (.fieldLink zR_Ma 25 zR_Ma "findings" "LShadowWarden$Findings;") (zz_in 242 (by decide +kernel) rfl)) (fun _ h9 => h9) rfl hdg k
theorem zg_Ma_heap (hx : p.tables.exec = Jvm.exec) (hb : c.code = cc) (hts : ∀ w ∈ zz_WS, w.before args s = true) (hown : s.vm.findClass zR_Ma = some m.cls) (X : zz_X D vwCl (zz_tys cI cZ) A s H locs (wS q cI cZ σ)) (hdg : decode cc pc = .ok (.getfield 29, 3)) (k : W p l e R s m args below meth c H locs cells slots Q (F0 m (pc + 3) ls (.ref (q 21) :: rest))) : W p l e R s m args below meth c H locs cells slots Q (F0 m pc ls (.ref (q 30) :: rest)) :=
  va_get (ci := 8) (v := .ref (q 21)) (C := zR_Ma) (T := zT_Ma) (N := 11) hx hb hts zi_Ma hown X.1 X.2.1 30 rfl rfl 5 (by decide) (hts (.fieldLink zR_Ma 29 zR_Ma "heap" "LShadowWarden$Heap;") (zz_in 243 (by decide +kernel) rfl)) (fun _ h9 => h9) rfl hdg k
theorem zg_Ma_at (hx : p.tables.exec = Jvm.exec) (hb : c.code = cc) (hts : ∀ w ∈ zz_WS, w.before args s = true) (hown : s.vm.findClass zR_Ma = some m.cls) (X : zz_X D vwCl (zz_tys cI cZ) A s H locs (wS q cI cZ σ)) (hdg : decode cc pc = .ok (.getfield 37, 3)) (k : W p l e R s m args below meth c H locs cells slots Q (F0 m (pc + 3) ls (.int (σ 29 0) :: rest))) : W p l e R s m args below meth c H locs cells slots Q (F0 m pc ls (.ref (q 30) :: rest)) :=
  va_get (ci := 8) (v := .int (σ 29 0)) (C := zR_Ma) (T := zT_Ma) (N := 11) hx hb hts zi_Ma hown X.1 X.2.1 30 rfl rfl 6 (by decide) (hts (.fieldLink zR_Ma 37 zR_Ma "at" "I") (zz_in 244 (by decide +kernel) rfl)) (fun _ h9 => h9) rfl hdg k
theorem zp_Ma_at (hx : p.tables.exec = Jvm.exec) (hb : c.code = cc) (hts : ∀ w ∈ zz_WS, w.before args s = true) (hown : s.vm.findClass zR_Ma = some m.cls) (X : zz_X D vwCl (zz_tys cI cZ) A s H locs (wS q cI cZ σ)) {x : Int32} (hdg : decode cc pc = .ok (.putfield 37, 3)) (kk : ∀ (H : Heap) (locs : List Loc), zz_X D vwCl (zz_tys cI cZ) A s H locs (wS q cI cZ (zz_put σ 29 0 x)) → W p l e R s m args below meth c H locs cells slots Q (F0 m (pc + 3) ls rest)) : W p l e R s m args below meth c H locs cells slots Q (F0 m pc ls (.int x :: .ref (q 30) :: rest)) :=
  va_put (ci := 8) (v := .int x) (ty := .int) (C := zR_Ma) (T := zT_Ma) (N := 11) hx hb hts zi_Ma zt_Ma zo_Ma zn_Ma hown X.1 X.2.1 X.2.2.1 X.2.2.2.1 30 rfl rfl 6 (by decide) (hts (.fieldLink zR_Ma 37 zR_Ma "at" "I") (zz_in 244 (by decide +kernel) rfl)) (fun _ h9 => h9) rfl (by decide +kernel) rfl rfl (Nat.le_of_ble_eq_true rfl) hdg (fun H locs hP hD hS => kk H locs ⟨X.1, hP, hD, hS, X.2.2.2.2⟩)
theorem zg_Ma_next (hx : p.tables.exec = Jvm.exec) (hb : c.code = cc) (hts : ∀ w ∈ zz_WS, w.before args s = true) (hown : s.vm.findClass zR_Ma = some m.cls) (X : zz_X D vwCl (zz_tys cI cZ) A s H locs (wS q cI cZ σ)) (hdg : decode cc pc = .ok (.getfield 72, 3)) (k : W p l e R s m args below meth c H locs cells slots Q (F0 m (pc + 3) ls (.int (σ 30 0) :: rest))) : W p l e R s m args below meth c H locs cells slots Q (F0 m pc ls (.ref (q 30) :: rest)) :=
  va_get (ci := 8) (v := .int (σ 30 0)) (C := zR_Ma) (T := zT_Ma) (N := 11) hx hb hts zi_Ma hown X.1 X.2.1 30 rfl rfl 7 (by decide) (hts (.fieldLink zR_Ma 72 zR_Ma "next" "I") (zz_in 245 (by decide +kernel) rfl)) (fun _ h9 => h9) rfl hdg k
theorem zp_Ma_next (hx : p.tables.exec = Jvm.exec) (hb : c.code = cc) (hts : ∀ w ∈ zz_WS, w.before args s = true) (hown : s.vm.findClass zR_Ma = some m.cls) (X : zz_X D vwCl (zz_tys cI cZ) A s H locs (wS q cI cZ σ)) {x : Int32} (hdg : decode cc pc = .ok (.putfield 72, 3)) (kk : ∀ (H : Heap) (locs : List Loc), zz_X D vwCl (zz_tys cI cZ) A s H locs (wS q cI cZ (zz_put σ 30 0 x)) → W p l e R s m args below meth c H locs cells slots Q (F0 m (pc + 3) ls rest)) : W p l e R s m args below meth c H locs cells slots Q (F0 m pc ls (.int x :: .ref (q 30) :: rest)) :=
  va_put (ci := 8) (v := .int x) (ty := .int) (C := zR_Ma) (T := zT_Ma) (N := 11) hx hb hts zi_Ma zt_Ma zo_Ma zn_Ma hown X.1 X.2.1 X.2.2.1 X.2.2.2.1 30 rfl rfl 7 (by decide) (hts (.fieldLink zR_Ma 72 zR_Ma "next" "I") (zz_in 245 (by decide +kernel) rfl)) (fun _ h9 => h9) rfl (by decide +kernel) rfl rfl (Nat.le_of_ble_eq_true rfl) hdg (fun H locs hP hD hS => kk H locs ⟨X.1, hP, hD, hS, X.2.2.2.2⟩)
theorem zg_Ma_stopped (hx : p.tables.exec = Jvm.exec) (hb : c.code = cc) (hts : ∀ w ∈ zz_WS, w.before args s = true) (hown : s.vm.findClass zR_Ma = some m.cls) (X : zz_X D vwCl (zz_tys cI cZ) A s H locs (wS q cI cZ σ)) (hdg : decode cc pc = .ok (.getfield 33, 3)) (k : W p l e R s m args below meth c H locs cells slots Q (F0 m (pc + 3) ls (.int (σ 31 0) :: rest))) : W p l e R s m args below meth c H locs cells slots Q (F0 m pc ls (.ref (q 30) :: rest)) :=
  va_get (ci := 8) (v := .int (σ 31 0)) (C := zR_Ma) (T := zT_Ma) (N := 11) hx hb hts zi_Ma hown X.1 X.2.1 30 rfl rfl 8 (by decide) (hts (.fieldLink zR_Ma 33 zR_Ma "stopped" "Z") (zz_in 246 (by decide +kernel) rfl)) (fun _ h9 => h9) rfl hdg k
theorem zp_Ma_stopped (hx : p.tables.exec = Jvm.exec) (hb : c.code = cc) (hts : ∀ w ∈ zz_WS, w.before args s = true) (hown : s.vm.findClass zR_Ma = some m.cls) (X : zz_X D vwCl (zz_tys cI cZ) A s H locs (wS q cI cZ σ)) {x : Int32} (hz : x = 0 ∨ x = 1) (hdg : decode cc pc = .ok (.putfield 33, 3)) (kk : ∀ (H : Heap) (locs : List Loc), zz_X D vwCl (zz_tys cI cZ) A s H locs (wS q cI cZ (zz_put σ 31 0 x)) → W p l e R s m args below meth c H locs cells slots Q (F0 m (pc + 3) ls rest)) : W p l e R s m args below meth c H locs cells slots Q (F0 m pc ls (.int x :: .ref (q 30) :: rest)) :=
  va_put (ci := 8) (v := .int x) (ty := .boolean) (C := zR_Ma) (T := zT_Ma) (N := 11) hx hb hts zi_Ma zt_Ma zo_Ma zn_Ma hown X.1 X.2.1 X.2.2.1 X.2.2.2.1 30 rfl rfl 8 (by decide) (hts (.fieldLink zR_Ma 33 zR_Ma "stopped" "Z") (zz_in 246 (by decide +kernel) rfl)) (fun _ h9 => h9) rfl (by decide +kernel) (by rcases hz with rfl | rfl <;> rfl) (by rcases hz with rfl | rfl <;> rfl) (Nat.le_of_ble_eq_true rfl) hdg (fun H locs hP hD hS => kk H locs ⟨X.1, hP, hD, hS, X.2.2.2.2⟩)
theorem zg_Ma_faulted (hx : p.tables.exec = Jvm.exec) (hb : c.code = cc) (hts : ∀ w ∈ zz_WS, w.before args s = true) (hown : s.vm.findClass zR_Ma = some m.cls) (X : zz_X D vwCl (zz_tys cI cZ) A s H locs (wS q cI cZ σ)) (hdg : decode cc pc = .ok (.getfield 41, 3)) (k : W p l e R s m args below meth c H locs cells slots Q (F0 m (pc + 3) ls (.int (σ 32 0) :: rest))) : W p l e R s m args below meth c H locs cells slots Q (F0 m pc ls (.ref (q 30) :: rest)) :=
  va_get (ci := 8) (v := .int (σ 32 0)) (C := zR_Ma) (T := zT_Ma) (N := 11) hx hb hts zi_Ma hown X.1 X.2.1 30 rfl rfl 9 (by decide) (hts (.fieldLink zR_Ma 41 zR_Ma "faulted" "Z") (zz_in 247 (by decide +kernel) rfl)) (fun _ h9 => h9) rfl hdg k
theorem zp_Ma_faulted (hx : p.tables.exec = Jvm.exec) (hb : c.code = cc) (hts : ∀ w ∈ zz_WS, w.before args s = true) (hown : s.vm.findClass zR_Ma = some m.cls) (X : zz_X D vwCl (zz_tys cI cZ) A s H locs (wS q cI cZ σ)) {x : Int32} (hz : x = 0 ∨ x = 1) (hdg : decode cc pc = .ok (.putfield 41, 3)) (kk : ∀ (H : Heap) (locs : List Loc), zz_X D vwCl (zz_tys cI cZ) A s H locs (wS q cI cZ (zz_put σ 32 0 x)) → W p l e R s m args below meth c H locs cells slots Q (F0 m (pc + 3) ls rest)) : W p l e R s m args below meth c H locs cells slots Q (F0 m pc ls (.int x :: .ref (q 30) :: rest)) :=
  va_put (ci := 8) (v := .int x) (ty := .boolean) (C := zR_Ma) (T := zT_Ma) (N := 11) hx hb hts zi_Ma zt_Ma zo_Ma zn_Ma hown X.1 X.2.1 X.2.2.1 X.2.2.2.1 30 rfl rfl 9 (by decide) (hts (.fieldLink zR_Ma 41 zR_Ma "faulted" "Z") (zz_in 247 (by decide +kernel) rfl)) (fun _ h9 => h9) rfl (by decide +kernel) (by rcases hz with rfl | rfl <;> rfl) (by rcases hz with rfl | rfl <;> rfl) (Nat.le_of_ble_eq_true rfl) hdg (fun H locs hP hD hS => kk H locs ⟨X.1, hP, hD, hS, X.2.2.2.2⟩)
theorem zg_Ma_done (hx : p.tables.exec = Jvm.exec) (hb : c.code = cc) (hts : ∀ w ∈ zz_WS, w.before args s = true) (hown : s.vm.findClass zR_Ma = some m.cls) (X : zz_X D vwCl (zz_tys cI cZ) A s H locs (wS q cI cZ σ)) (hdg : decode cc pc = .ok (.getfield 49, 3)) (k : W p l e R s m args below meth c H locs cells slots Q (F0 m (pc + 3) ls (.int (σ 33 0) :: rest))) : W p l e R s m args below meth c H locs cells slots Q (F0 m pc ls (.ref (q 30) :: rest)) :=
  va_get (ci := 8) (v := .int (σ 33 0)) (C := zR_Ma) (T := zT_Ma) (N := 11) hx hb hts zi_Ma hown X.1 X.2.1 30 rfl rfl 10 (by decide) (hts (.fieldLink zR_Ma 49 zR_Ma "done" "I") (zz_in 248 (by decide +kernel) rfl)) (fun _ h9 => h9) rfl hdg k
theorem zp_Ma_done (hx : p.tables.exec = Jvm.exec) (hb : c.code = cc) (hts : ∀ w ∈ zz_WS, w.before args s = true) (hown : s.vm.findClass zR_Ma = some m.cls) (X : zz_X D vwCl (zz_tys cI cZ) A s H locs (wS q cI cZ σ)) {x : Int32} (hdg : decode cc pc = .ok (.putfield 49, 3)) (kk : ∀ (H : Heap) (locs : List Loc), zz_X D vwCl (zz_tys cI cZ) A s H locs (wS q cI cZ (zz_put σ 33 0 x)) → W p l e R s m args below meth c H locs cells slots Q (F0 m (pc + 3) ls rest)) : W p l e R s m args below meth c H locs cells slots Q (F0 m pc ls (.int x :: .ref (q 30) :: rest)) :=
  va_put (ci := 8) (v := .int x) (ty := .int) (C := zR_Ma) (T := zT_Ma) (N := 11) hx hb hts zi_Ma zt_Ma zo_Ma zn_Ma hown X.1 X.2.1 X.2.2.1 X.2.2.2.1 30 rfl rfl 10 (by decide) (hts (.fieldLink zR_Ma 49 zR_Ma "done" "I") (zz_in 248 (by decide +kernel) rfl)) (fun _ h9 => h9) rfl (by decide +kernel) rfl rfl (Nat.le_of_ble_eq_true rfl) hdg (fun H locs hP hD hS => kk H locs ⟨X.1, hP, hD, hS, X.2.2.2.2⟩)
theorem za_Me_values (hx : p.tables.exec = Jvm.exec) (hb : c.code = cc) (X : zz_X D vwCl (zz_tys cI cZ) A s H locs (wS q cI cZ σ)) {i : Int32} (hin : vp_in i 256) (hdg : decode cc pc = .ok (.iaload, 1)) (k : W p l e R s m args below meth c H locs cells slots Q (F0 m (pc + 1) ls (.int (σ 0 i.toNatClampNeg) :: rest))) : W p l e R s m args below meth c H locs cells slots Q (F0 m pc ls (.int i :: .ref (q 2) :: rest)) :=
  va_iald hx hb X.1 X.2.1 2 0 rfl rfl hin hdg k
theorem zs_Me_values (hx : p.tables.exec = Jvm.exec) (hb : c.code = cc) (X : zz_X D vwCl (zz_tys cI cZ) A s H locs (wS q cI cZ σ)) {i x : Int32} (hin : vp_in i 256) (hdg : decode cc pc = .ok (.iastore, 1)) (kk : ∀ (H : Heap) (locs : List Loc), zz_X D vwCl (zz_tys cI cZ) A s H locs (wS q cI cZ (zz_put σ 0 i.toNatClampNeg x)) → W p l e R s m args below meth c H locs cells slots Q (F0 m (pc + 1) ls rest)) : W p l e R s m args below meth c H locs cells slots Q (F0 m pc ls (.int x :: .int i :: .ref (q 2) :: rest)) :=
  va_iast hx hb X.1 X.2.1 X.2.2.1 X.2.2.2.1 2 0 rfl rfl hin hdg (fun H locs hP hD hS => kk H locs ⟨X.1, hP, hD, hS, X.2.2.2.2⟩)
theorem za_Me_open (hx : p.tables.exec = Jvm.exec) (hb : c.code = cc) (X : zz_X D vwCl (zz_tys cI cZ) A s H locs (wS q cI cZ σ)) {i : Int32} (hin : vp_in i 256) (hdg : decode cc pc = .ok (.baload, 1)) (k : W p l e R s m args below meth c H locs cells slots Q (F0 m (pc + 1) ls (.int (σ 1 i.toNatClampNeg) :: rest))) : W p l e R s m args below meth c H locs cells slots Q (F0 m pc ls (.int i :: .ref (q 3) :: rest)) :=
  va_zald hx hb X.1 X.2.1 3 1 rfl rfl hin hdg k
theorem zs_Me_open (hx : p.tables.exec = Jvm.exec) (hb : c.code = cc) (X : zz_X D vwCl (zz_tys cI cZ) A s H locs (wS q cI cZ σ)) {i x : Int32} (hin : vp_in i 256) (hdg : decode cc pc = .ok (.bastore, 1)) (kk : ∀ (H : Heap) (locs : List Loc), zz_X D vwCl (zz_tys cI cZ) A s H locs (wS q cI cZ (zz_put σ 1 i.toNatClampNeg (vp_nar .boolean x))) → W p l e R s m args below meth c H locs cells slots Q (F0 m (pc + 1) ls rest)) : W p l e R s m args below meth c H locs cells slots Q (F0 m pc ls (.int x :: .int i :: .ref (q 3) :: rest)) :=
  va_zast hx hb X.1 X.2.1 X.2.2.1 X.2.2.2.1 3 1 rfl rfl hin hdg (fun H locs hP hD hS => kk H locs ⟨X.1, hP, hD, hS, X.2.2.2.2⟩)
theorem za_Me_known (hx : p.tables.exec = Jvm.exec) (hb : c.code = cc) (X : zz_X D vwCl (zz_tys cI cZ) A s H locs (wS q cI cZ σ)) {i : Int32} (hin : vp_in i 256) (hdg : decode cc pc = .ok (.baload, 1)) (k : W p l e R s m args below meth c H locs cells slots Q (F0 m (pc + 1) ls (.int (σ 2 i.toNatClampNeg) :: rest))) : W p l e R s m args below meth c H locs cells slots Q (F0 m pc ls (.int i :: .ref (q 4) :: rest)) :=
  va_zald hx hb X.1 X.2.1 4 1 rfl rfl hin hdg k
theorem zs_Me_known (hx : p.tables.exec = Jvm.exec) (hb : c.code = cc) (X : zz_X D vwCl (zz_tys cI cZ) A s H locs (wS q cI cZ σ)) {i x : Int32} (hin : vp_in i 256) (hdg : decode cc pc = .ok (.bastore, 1)) (kk : ∀ (H : Heap) (locs : List Loc), zz_X D vwCl (zz_tys cI cZ) A s H locs (wS q cI cZ (zz_put σ 2 i.toNatClampNeg (vp_nar .boolean x))) → W p l e R s m args below meth c H locs cells slots Q (F0 m (pc + 1) ls rest)) : W p l e R s m args below meth c H locs cells slots Q (F0 m pc ls (.int x :: .int i :: .ref (q 4) :: rest)) :=
  va_zast hx hb X.1 X.2.1 X.2.2.1 X.2.2.2.1 4 1 rfl rfl hin hdg (fun H locs hP hD hS => kk H locs ⟨X.1, hP, hD, hS, X.2.2.2.2⟩)
theorem za_Re_values (hx : p.tables.exec = Jvm.exec) (hb : c.code = cc) (X : zz_X D vwCl (zz_tys cI cZ) A s H locs (wS q cI cZ σ)) {i : Int32} (hin : vp_in i 8) (hdg : decode cc pc = .ok (.iaload, 1)) (k : W p l e R s m args below meth c H locs cells slots Q (F0 m (pc + 1) ls (.int (σ 3 i.toNatClampNeg) :: rest))) : W p l e R s m args below meth c H locs cells slots Q (F0 m pc ls (.int i :: .ref (q 6) :: rest)) :=
  va_iald hx hb X.1 X.2.1 6 0 rfl rfl hin hdg k
theorem zs_Re_values (hx : p.tables.exec = Jvm.exec) (hb : c.code = cc) (X : zz_X D vwCl (zz_tys cI cZ) A s H locs (wS q cI cZ σ)) {i x : Int32} (hin : vp_in i 8) (hdg : decode cc pc = .ok (.iastore, 1)) (kk : ∀ (H : Heap) (locs : List Loc), zz_X D vwCl (zz_tys cI cZ) A s H locs (wS q cI cZ (zz_put σ 3 i.toNatClampNeg x)) → W p l e R s m args below meth c H locs cells slots Q (F0 m (pc + 1) ls rest)) : W p l e R s m args below meth c H locs cells slots Q (F0 m pc ls (.int x :: .int i :: .ref (q 6) :: rest)) :=
  va_iast hx hb X.1 X.2.1 X.2.2.1 X.2.2.2.1 6 0 rfl rfl hin hdg (fun H locs hP hD hS => kk H locs ⟨X.1, hP, hD, hS, X.2.2.2.2⟩)
theorem za_Re_known (hx : p.tables.exec = Jvm.exec) (hb : c.code = cc) (X : zz_X D vwCl (zz_tys cI cZ) A s H locs (wS q cI cZ σ)) {i : Int32} (hin : vp_in i 8) (hdg : decode cc pc = .ok (.iaload, 1)) (k : W p l e R s m args below meth c H locs cells slots Q (F0 m (pc + 1) ls (.int (σ 4 i.toNatClampNeg) :: rest))) : W p l e R s m args below meth c H locs cells slots Q (F0 m pc ls (.int i :: .ref (q 7) :: rest)) :=
  va_iald hx hb X.1 X.2.1 7 0 rfl rfl hin hdg k
theorem zs_Re_known (hx : p.tables.exec = Jvm.exec) (hb : c.code = cc) (X : zz_X D vwCl (zz_tys cI cZ) A s H locs (wS q cI cZ σ)) {i x : Int32} (hin : vp_in i 8) (hdg : decode cc pc = .ok (.iastore, 1)) (kk : ∀ (H : Heap) (locs : List Loc), zz_X D vwCl (zz_tys cI cZ) A s H locs (wS q cI cZ (zz_put σ 4 i.toNatClampNeg x)) → W p l e R s m args below meth c H locs cells slots Q (F0 m (pc + 1) ls rest)) : W p l e R s m args below meth c H locs cells slots Q (F0 m pc ls (.int x :: .int i :: .ref (q 7) :: rest)) :=
  va_iast hx hb X.1 X.2.1 X.2.2.1 X.2.2.2.1 7 0 rfl rfl hin hdg (fun H locs hP hD hS => kk H locs ⟨X.1, hP, hD, hS, X.2.2.2.2⟩)
theorem za_Pr_ops (hx : p.tables.exec = Jvm.exec) (hb : c.code = cc) (X : zz_X D vwCl (zz_tys cI cZ) A s H locs (wS q cI cZ σ)) {i : Int32} (hin : vp_in i 32) (hdg : decode cc pc = .ok (.iaload, 1)) (k : W p l e R s m args below meth c H locs cells slots Q (F0 m (pc + 1) ls (.int (σ 5 i.toNatClampNeg) :: rest))) : W p l e R s m args below meth c H locs cells slots Q (F0 m pc ls (.int i :: .ref (q 9) :: rest)) :=
  va_iald hx hb X.1 X.2.1 9 0 rfl rfl hin hdg k
theorem zs_Pr_ops (hx : p.tables.exec = Jvm.exec) (hb : c.code = cc) (X : zz_X D vwCl (zz_tys cI cZ) A s H locs (wS q cI cZ σ)) {i x : Int32} (hin : vp_in i 32) (hdg : decode cc pc = .ok (.iastore, 1)) (kk : ∀ (H : Heap) (locs : List Loc), zz_X D vwCl (zz_tys cI cZ) A s H locs (wS q cI cZ (zz_put σ 5 i.toNatClampNeg x)) → W p l e R s m args below meth c H locs cells slots Q (F0 m (pc + 1) ls rest)) : W p l e R s m args below meth c H locs cells slots Q (F0 m pc ls (.int x :: .int i :: .ref (q 9) :: rest)) :=
  va_iast hx hb X.1 X.2.1 X.2.2.1 X.2.2.2.1 9 0 rfl rfl hin hdg (fun H locs hP hD hS => kk H locs ⟨X.1, hP, hD, hS, X.2.2.2.2⟩)
theorem za_Pr_targets (hx : p.tables.exec = Jvm.exec) (hb : c.code = cc) (X : zz_X D vwCl (zz_tys cI cZ) A s H locs (wS q cI cZ σ)) {i : Int32} (hin : vp_in i 32) (hdg : decode cc pc = .ok (.iaload, 1)) (k : W p l e R s m args below meth c H locs cells slots Q (F0 m (pc + 1) ls (.int (σ 6 i.toNatClampNeg) :: rest))) : W p l e R s m args below meth c H locs cells slots Q (F0 m pc ls (.int i :: .ref (q 10) :: rest)) :=
  va_iald hx hb X.1 X.2.1 10 0 rfl rfl hin hdg k
theorem zs_Pr_targets (hx : p.tables.exec = Jvm.exec) (hb : c.code = cc) (X : zz_X D vwCl (zz_tys cI cZ) A s H locs (wS q cI cZ σ)) {i x : Int32} (hin : vp_in i 32) (hdg : decode cc pc = .ok (.iastore, 1)) (kk : ∀ (H : Heap) (locs : List Loc), zz_X D vwCl (zz_tys cI cZ) A s H locs (wS q cI cZ (zz_put σ 6 i.toNatClampNeg x)) → W p l e R s m args below meth c H locs cells slots Q (F0 m (pc + 1) ls rest)) : W p l e R s m args below meth c H locs cells slots Q (F0 m pc ls (.int x :: .int i :: .ref (q 10) :: rest)) :=
  va_iast hx hb X.1 X.2.1 X.2.2.1 X.2.2.2.1 10 0 rfl rfl hin hdg (fun H locs hP hD hS => kk H locs ⟨X.1, hP, hD, hS, X.2.2.2.2⟩)
theorem za_Pr_firsts (hx : p.tables.exec = Jvm.exec) (hb : c.code = cc) (X : zz_X D vwCl (zz_tys cI cZ) A s H locs (wS q cI cZ σ)) {i : Int32} (hin : vp_in i 32) (hdg : decode cc pc = .ok (.iaload, 1)) (k : W p l e R s m args below meth c H locs cells slots Q (F0 m (pc + 1) ls (.int (σ 7 i.toNatClampNeg) :: rest))) : W p l e R s m args below meth c H locs cells slots Q (F0 m pc ls (.int i :: .ref (q 11) :: rest)) :=
  va_iald hx hb X.1 X.2.1 11 0 rfl rfl hin hdg k
theorem zs_Pr_firsts (hx : p.tables.exec = Jvm.exec) (hb : c.code = cc) (X : zz_X D vwCl (zz_tys cI cZ) A s H locs (wS q cI cZ σ)) {i x : Int32} (hin : vp_in i 32) (hdg : decode cc pc = .ok (.iastore, 1)) (kk : ∀ (H : Heap) (locs : List Loc), zz_X D vwCl (zz_tys cI cZ) A s H locs (wS q cI cZ (zz_put σ 7 i.toNatClampNeg x)) → W p l e R s m args below meth c H locs cells slots Q (F0 m (pc + 1) ls rest)) : W p l e R s m args below meth c H locs cells slots Q (F0 m pc ls (.int x :: .int i :: .ref (q 11) :: rest)) :=
  va_iast hx hb X.1 X.2.1 X.2.2.1 X.2.2.2.1 11 0 rfl rfl hin hdg (fun H locs hP hD hS => kk H locs ⟨X.1, hP, hD, hS, X.2.2.2.2⟩)
theorem za_Pr_seconds (hx : p.tables.exec = Jvm.exec) (hb : c.code = cc) (X : zz_X D vwCl (zz_tys cI cZ) A s H locs (wS q cI cZ σ)) {i : Int32} (hin : vp_in i 32) (hdg : decode cc pc = .ok (.iaload, 1)) (k : W p l e R s m args below meth c H locs cells slots Q (F0 m (pc + 1) ls (.int (σ 8 i.toNatClampNeg) :: rest))) : W p l e R s m args below meth c H locs cells slots Q (F0 m pc ls (.int i :: .ref (q 12) :: rest)) :=
  va_iald hx hb X.1 X.2.1 12 0 rfl rfl hin hdg k
theorem zs_Pr_seconds (hx : p.tables.exec = Jvm.exec) (hb : c.code = cc) (X : zz_X D vwCl (zz_tys cI cZ) A s H locs (wS q cI cZ σ)) {i x : Int32} (hin : vp_in i 32) (hdg : decode cc pc = .ok (.iastore, 1)) (kk : ∀ (H : Heap) (locs : List Loc), zz_X D vwCl (zz_tys cI cZ) A s H locs (wS q cI cZ (zz_put σ 8 i.toNatClampNeg x)) → W p l e R s m args below meth c H locs cells slots Q (F0 m (pc + 1) ls rest)) : W p l e R s m args below meth c H locs cells slots Q (F0 m pc ls (.int x :: .int i :: .ref (q 12) :: rest)) :=
  va_iast hx hb X.1 X.2.1 X.2.2.1 X.2.2.2.1 12 0 rfl rfl hin hdg (fun H locs hP hD hS => kk H locs ⟨X.1, hP, hD, hS, X.2.2.2.2⟩)
theorem za_Pr_numbers (hx : p.tables.exec = Jvm.exec) (hb : c.code = cc) (X : zz_X D vwCl (zz_tys cI cZ) A s H locs (wS q cI cZ σ)) {i : Int32} (hin : vp_in i 32) (hdg : decode cc pc = .ok (.iaload, 1)) (k : W p l e R s m args below meth c H locs cells slots Q (F0 m (pc + 1) ls (.int (σ 9 i.toNatClampNeg) :: rest))) : W p l e R s m args below meth c H locs cells slots Q (F0 m pc ls (.int i :: .ref (q 13) :: rest)) :=
  va_iald hx hb X.1 X.2.1 13 0 rfl rfl hin hdg k
theorem zs_Pr_numbers (hx : p.tables.exec = Jvm.exec) (hb : c.code = cc) (X : zz_X D vwCl (zz_tys cI cZ) A s H locs (wS q cI cZ σ)) {i x : Int32} (hin : vp_in i 32) (hdg : decode cc pc = .ok (.iastore, 1)) (kk : ∀ (H : Heap) (locs : List Loc), zz_X D vwCl (zz_tys cI cZ) A s H locs (wS q cI cZ (zz_put σ 9 i.toNatClampNeg x)) → W p l e R s m args below meth c H locs cells slots Q (F0 m (pc + 1) ls rest)) : W p l e R s m args below meth c H locs cells slots Q (F0 m pc ls (.int x :: .int i :: .ref (q 13) :: rest)) :=
  va_iast hx hb X.1 X.2.1 X.2.2.1 X.2.2.2.1 13 0 rfl rfl hin hdg (fun H locs hP hD hS => kk H locs ⟨X.1, hP, hD, hS, X.2.2.2.2⟩)
theorem za_Pi_lengths (hx : p.tables.exec = Jvm.exec) (hb : c.code = cc) (X : zz_X D vwCl (zz_tys cI cZ) A s H locs (wS q cI cZ σ)) {i : Int32} (hin : vp_in i 32) (hdg : decode cc pc = .ok (.iaload, 1)) (k : W p l e R s m args below meth c H locs cells slots Q (F0 m (pc + 1) ls (.int (σ 10 i.toNatClampNeg) :: rest))) : W p l e R s m args below meth c H locs cells slots Q (F0 m pc ls (.int i :: .ref (q 15) :: rest)) :=
  va_iald hx hb X.1 X.2.1 15 0 rfl rfl hin hdg k
theorem zs_Pi_lengths (hx : p.tables.exec = Jvm.exec) (hb : c.code = cc) (X : zz_X D vwCl (zz_tys cI cZ) A s H locs (wS q cI cZ σ)) {i x : Int32} (hin : vp_in i 32) (hdg : decode cc pc = .ok (.iastore, 1)) (kk : ∀ (H : Heap) (locs : List Loc), zz_X D vwCl (zz_tys cI cZ) A s H locs (wS q cI cZ (zz_put σ 10 i.toNatClampNeg x)) → W p l e R s m args below meth c H locs cells slots Q (F0 m (pc + 1) ls rest)) : W p l e R s m args below meth c H locs cells slots Q (F0 m pc ls (.int x :: .int i :: .ref (q 15) :: rest)) :=
  va_iast hx hb X.1 X.2.1 X.2.2.1 X.2.2.2.1 15 0 rfl rfl hin hdg (fun H locs hP hD hS => kk H locs ⟨X.1, hP, hD, hS, X.2.2.2.2⟩)
theorem za_Fi_kinds (hx : p.tables.exec = Jvm.exec) (hb : c.code = cc) (X : zz_X D vwCl (zz_tys cI cZ) A s H locs (wS q cI cZ σ)) {i : Int32} (hin : vp_in i 24) (hdg : decode cc pc = .ok (.iaload, 1)) (k : W p l e R s m args below meth c H locs cells slots Q (F0 m (pc + 1) ls (.int (σ 13 i.toNatClampNeg) :: rest))) : W p l e R s m args below meth c H locs cells slots Q (F0 m pc ls (.int i :: .ref (q 17) :: rest)) :=
  va_iald hx hb X.1 X.2.1 17 0 rfl rfl hin hdg k
theorem zs_Fi_kinds (hx : p.tables.exec = Jvm.exec) (hb : c.code = cc) (X : zz_X D vwCl (zz_tys cI cZ) A s H locs (wS q cI cZ σ)) {i x : Int32} (hin : vp_in i 24) (hdg : decode cc pc = .ok (.iastore, 1)) (kk : ∀ (H : Heap) (locs : List Loc), zz_X D vwCl (zz_tys cI cZ) A s H locs (wS q cI cZ (zz_put σ 13 i.toNatClampNeg x)) → W p l e R s m args below meth c H locs cells slots Q (F0 m (pc + 1) ls rest)) : W p l e R s m args below meth c H locs cells slots Q (F0 m pc ls (.int x :: .int i :: .ref (q 17) :: rest)) :=
  va_iast hx hb X.1 X.2.1 X.2.2.1 X.2.2.2.1 17 0 rfl rfl hin hdg (fun H locs hP hD hS => kk H locs ⟨X.1, hP, hD, hS, X.2.2.2.2⟩)
theorem za_Fi_instructions (hx : p.tables.exec = Jvm.exec) (hb : c.code = cc) (X : zz_X D vwCl (zz_tys cI cZ) A s H locs (wS q cI cZ σ)) {i : Int32} (hin : vp_in i 24) (hdg : decode cc pc = .ok (.iaload, 1)) (k : W p l e R s m args below meth c H locs cells slots Q (F0 m (pc + 1) ls (.int (σ 14 i.toNatClampNeg) :: rest))) : W p l e R s m args below meth c H locs cells slots Q (F0 m pc ls (.int i :: .ref (q 18) :: rest)) :=
  va_iald hx hb X.1 X.2.1 18 0 rfl rfl hin hdg k
theorem zs_Fi_instructions (hx : p.tables.exec = Jvm.exec) (hb : c.code = cc) (X : zz_X D vwCl (zz_tys cI cZ) A s H locs (wS q cI cZ σ)) {i x : Int32} (hin : vp_in i 24) (hdg : decode cc pc = .ok (.iastore, 1)) (kk : ∀ (H : Heap) (locs : List Loc), zz_X D vwCl (zz_tys cI cZ) A s H locs (wS q cI cZ (zz_put σ 14 i.toNatClampNeg x)) → W p l e R s m args below meth c H locs cells slots Q (F0 m (pc + 1) ls rest)) : W p l e R s m args below meth c H locs cells slots Q (F0 m pc ls (.int x :: .int i :: .ref (q 18) :: rest)) :=
  va_iast hx hb X.1 X.2.1 X.2.2.1 X.2.2.2.1 18 0 rfl rfl hin hdg (fun H locs hP hD hS => kk H locs ⟨X.1, hP, hD, hS, X.2.2.2.2⟩)
theorem za_Fi_addresses (hx : p.tables.exec = Jvm.exec) (hb : c.code = cc) (X : zz_X D vwCl (zz_tys cI cZ) A s H locs (wS q cI cZ σ)) {i : Int32} (hin : vp_in i 24) (hdg : decode cc pc = .ok (.iaload, 1)) (k : W p l e R s m args below meth c H locs cells slots Q (F0 m (pc + 1) ls (.int (σ 15 i.toNatClampNeg) :: rest))) : W p l e R s m args below meth c H locs cells slots Q (F0 m pc ls (.int i :: .ref (q 19) :: rest)) :=
  va_iald hx hb X.1 X.2.1 19 0 rfl rfl hin hdg k
theorem zs_Fi_addresses (hx : p.tables.exec = Jvm.exec) (hb : c.code = cc) (X : zz_X D vwCl (zz_tys cI cZ) A s H locs (wS q cI cZ σ)) {i x : Int32} (hin : vp_in i 24) (hdg : decode cc pc = .ok (.iastore, 1)) (kk : ∀ (H : Heap) (locs : List Loc), zz_X D vwCl (zz_tys cI cZ) A s H locs (wS q cI cZ (zz_put σ 15 i.toNatClampNeg x)) → W p l e R s m args below meth c H locs cells slots Q (F0 m (pc + 1) ls rest)) : W p l e R s m args below meth c H locs cells slots Q (F0 m pc ls (.int x :: .int i :: .ref (q 19) :: rest)) :=
  va_iast hx hb X.1 X.2.1 X.2.2.1 X.2.2.2.1 19 0 rfl rfl hin hdg (fun H locs hP hD hS => kk H locs ⟨X.1, hP, hD, hS, X.2.2.2.2⟩)
theorem za_Fi_times (hx : p.tables.exec = Jvm.exec) (hb : c.code = cc) (X : zz_X D vwCl (zz_tys cI cZ) A s H locs (wS q cI cZ σ)) {i : Int32} (hin : vp_in i 24) (hdg : decode cc pc = .ok (.iaload, 1)) (k : W p l e R s m args below meth c H locs cells slots Q (F0 m (pc + 1) ls (.int (σ 16 i.toNatClampNeg) :: rest))) : W p l e R s m args below meth c H locs cells slots Q (F0 m pc ls (.int i :: .ref (q 20) :: rest)) :=
  va_iald hx hb X.1 X.2.1 20 0 rfl rfl hin hdg k
theorem zs_Fi_times (hx : p.tables.exec = Jvm.exec) (hb : c.code = cc) (X : zz_X D vwCl (zz_tys cI cZ) A s H locs (wS q cI cZ σ)) {i x : Int32} (hin : vp_in i 24) (hdg : decode cc pc = .ok (.iastore, 1)) (kk : ∀ (H : Heap) (locs : List Loc), zz_X D vwCl (zz_tys cI cZ) A s H locs (wS q cI cZ (zz_put σ 16 i.toNatClampNeg x)) → W p l e R s m args below meth c H locs cells slots Q (F0 m (pc + 1) ls rest)) : W p l e R s m args below meth c H locs cells slots Q (F0 m pc ls (.int x :: .int i :: .ref (q 20) :: rest)) :=
  va_iast hx hb X.1 X.2.1 X.2.2.1 X.2.2.2.1 20 0 rfl rfl hin hdg (fun H locs hP hD hS => kk H locs ⟨X.1, hP, hD, hS, X.2.2.2.2⟩)
theorem za_He_numbers (hx : p.tables.exec = Jvm.exec) (hb : c.code = cc) (X : zz_X D vwCl (zz_tys cI cZ) A s H locs (wS q cI cZ σ)) {i : Int32} (hin : vp_in i 10) (hdg : decode cc pc = .ok (.iaload, 1)) (k : W p l e R s m args below meth c H locs cells slots Q (F0 m (pc + 1) ls (.int (σ 18 i.toNatClampNeg) :: rest))) : W p l e R s m args below meth c H locs cells slots Q (F0 m pc ls (.int i :: .ref (q 22) :: rest)) :=
  va_iald hx hb X.1 X.2.1 22 0 rfl rfl hin hdg k
theorem zs_He_numbers (hx : p.tables.exec = Jvm.exec) (hb : c.code = cc) (X : zz_X D vwCl (zz_tys cI cZ) A s H locs (wS q cI cZ σ)) {i x : Int32} (hin : vp_in i 10) (hdg : decode cc pc = .ok (.iastore, 1)) (kk : ∀ (H : Heap) (locs : List Loc), zz_X D vwCl (zz_tys cI cZ) A s H locs (wS q cI cZ (zz_put σ 18 i.toNatClampNeg x)) → W p l e R s m args below meth c H locs cells slots Q (F0 m (pc + 1) ls rest)) : W p l e R s m args below meth c H locs cells slots Q (F0 m pc ls (.int x :: .int i :: .ref (q 22) :: rest)) :=
  va_iast hx hb X.1 X.2.1 X.2.2.1 X.2.2.2.1 22 0 rfl rfl hin hdg (fun H locs hP hD hS => kk H locs ⟨X.1, hP, hD, hS, X.2.2.2.2⟩)
theorem za_He_addresses (hx : p.tables.exec = Jvm.exec) (hb : c.code = cc) (X : zz_X D vwCl (zz_tys cI cZ) A s H locs (wS q cI cZ σ)) {i : Int32} (hin : vp_in i 10) (hdg : decode cc pc = .ok (.iaload, 1)) (k : W p l e R s m args below meth c H locs cells slots Q (F0 m (pc + 1) ls (.int (σ 19 i.toNatClampNeg) :: rest))) : W p l e R s m args below meth c H locs cells slots Q (F0 m pc ls (.int i :: .ref (q 23) :: rest)) :=
  va_iald hx hb X.1 X.2.1 23 0 rfl rfl hin hdg k
theorem zs_He_addresses (hx : p.tables.exec = Jvm.exec) (hb : c.code = cc) (X : zz_X D vwCl (zz_tys cI cZ) A s H locs (wS q cI cZ σ)) {i x : Int32} (hin : vp_in i 10) (hdg : decode cc pc = .ok (.iastore, 1)) (kk : ∀ (H : Heap) (locs : List Loc), zz_X D vwCl (zz_tys cI cZ) A s H locs (wS q cI cZ (zz_put σ 19 i.toNatClampNeg x)) → W p l e R s m args below meth c H locs cells slots Q (F0 m (pc + 1) ls rest)) : W p l e R s m args below meth c H locs cells slots Q (F0 m pc ls (.int x :: .int i :: .ref (q 23) :: rest)) :=
  va_iast hx hb X.1 X.2.1 X.2.2.1 X.2.2.2.1 23 0 rfl rfl hin hdg (fun H locs hP hD hS => kk H locs ⟨X.1, hP, hD, hS, X.2.2.2.2⟩)
theorem za_He_sizes (hx : p.tables.exec = Jvm.exec) (hb : c.code = cc) (X : zz_X D vwCl (zz_tys cI cZ) A s H locs (wS q cI cZ σ)) {i : Int32} (hin : vp_in i 10) (hdg : decode cc pc = .ok (.iaload, 1)) (k : W p l e R s m args below meth c H locs cells slots Q (F0 m (pc + 1) ls (.int (σ 20 i.toNatClampNeg) :: rest))) : W p l e R s m args below meth c H locs cells slots Q (F0 m pc ls (.int i :: .ref (q 24) :: rest)) :=
  va_iald hx hb X.1 X.2.1 24 0 rfl rfl hin hdg k
theorem zs_He_sizes (hx : p.tables.exec = Jvm.exec) (hb : c.code = cc) (X : zz_X D vwCl (zz_tys cI cZ) A s H locs (wS q cI cZ σ)) {i x : Int32} (hin : vp_in i 10) (hdg : decode cc pc = .ok (.iastore, 1)) (kk : ∀ (H : Heap) (locs : List Loc), zz_X D vwCl (zz_tys cI cZ) A s H locs (wS q cI cZ (zz_put σ 20 i.toNatClampNeg x)) → W p l e R s m args below meth c H locs cells slots Q (F0 m (pc + 1) ls rest)) : W p l e R s m args below meth c H locs cells slots Q (F0 m pc ls (.int x :: .int i :: .ref (q 24) :: rest)) :=
  va_iast hx hb X.1 X.2.1 X.2.2.1 X.2.2.2.1 24 0 rfl rfl hin hdg (fun H locs hP hD hS => kk H locs ⟨X.1, hP, hD, hS, X.2.2.2.2⟩)
theorem za_He_wallEnds (hx : p.tables.exec = Jvm.exec) (hb : c.code = cc) (X : zz_X D vwCl (zz_tys cI cZ) A s H locs (wS q cI cZ σ)) {i : Int32} (hin : vp_in i 10) (hdg : decode cc pc = .ok (.iaload, 1)) (k : W p l e R s m args below meth c H locs cells slots Q (F0 m (pc + 1) ls (.int (σ 21 i.toNatClampNeg) :: rest))) : W p l e R s m args below meth c H locs cells slots Q (F0 m pc ls (.int i :: .ref (q 25) :: rest)) :=
  va_iald hx hb X.1 X.2.1 25 0 rfl rfl hin hdg k
theorem zs_He_wallEnds (hx : p.tables.exec = Jvm.exec) (hb : c.code = cc) (X : zz_X D vwCl (zz_tys cI cZ) A s H locs (wS q cI cZ σ)) {i x : Int32} (hin : vp_in i 10) (hdg : decode cc pc = .ok (.iastore, 1)) (kk : ∀ (H : Heap) (locs : List Loc), zz_X D vwCl (zz_tys cI cZ) A s H locs (wS q cI cZ (zz_put σ 21 i.toNatClampNeg x)) → W p l e R s m args below meth c H locs cells slots Q (F0 m (pc + 1) ls rest)) : W p l e R s m args below meth c H locs cells slots Q (F0 m pc ls (.int x :: .int i :: .ref (q 25) :: rest)) :=
  va_iast hx hb X.1 X.2.1 X.2.2.1 X.2.2.2.1 25 0 rfl rfl hin hdg (fun H locs hP hD hS => kk H locs ⟨X.1, hP, hD, hS, X.2.2.2.2⟩)
theorem za_He_restingSince (hx : p.tables.exec = Jvm.exec) (hb : c.code = cc) (X : zz_X D vwCl (zz_tys cI cZ) A s H locs (wS q cI cZ σ)) {i : Int32} (hin : vp_in i 10) (hdg : decode cc pc = .ok (.iaload, 1)) (k : W p l e R s m args below meth c H locs cells slots Q (F0 m (pc + 1) ls (.int (σ 22 i.toNatClampNeg) :: rest))) : W p l e R s m args below meth c H locs cells slots Q (F0 m pc ls (.int i :: .ref (q 26) :: rest)) :=
  va_iald hx hb X.1 X.2.1 26 0 rfl rfl hin hdg k
theorem zs_He_restingSince (hx : p.tables.exec = Jvm.exec) (hb : c.code = cc) (X : zz_X D vwCl (zz_tys cI cZ) A s H locs (wS q cI cZ σ)) {i x : Int32} (hin : vp_in i 10) (hdg : decode cc pc = .ok (.iastore, 1)) (kk : ∀ (H : Heap) (locs : List Loc), zz_X D vwCl (zz_tys cI cZ) A s H locs (wS q cI cZ (zz_put σ 22 i.toNatClampNeg x)) → W p l e R s m args below meth c H locs cells slots Q (F0 m (pc + 1) ls rest)) : W p l e R s m args below meth c H locs cells slots Q (F0 m pc ls (.int x :: .int i :: .ref (q 26) :: rest)) :=
  va_iast hx hb X.1 X.2.1 X.2.2.1 X.2.2.2.1 26 0 rfl rfl hin hdg (fun H locs hP hD hS => kk H locs ⟨X.1, hP, hD, hS, X.2.2.2.2⟩)
theorem za_LS_verdicts (hx : p.tables.exec = Jvm.exec) (hb : c.code = cc) (X : zz_X D vwCl (zz_tys cI cZ) A s H locs (wS q cI cZ σ)) {i : Int32} (hin : vp_in i 10) (hdg : decode cc pc = .ok (.iaload, 1)) (k : W p l e R s m args below meth c H locs cells slots Q (F0 m (pc + 1) ls (.int (σ 26 i.toNatClampNeg) :: rest))) : W p l e R s m args below meth c H locs cells slots Q (F0 m pc ls (.int i :: .ref (q 28) :: rest)) :=
  va_iald hx hb X.1 X.2.1 28 0 rfl rfl hin hdg k
theorem zs_LS_verdicts (hx : p.tables.exec = Jvm.exec) (hb : c.code = cc) (X : zz_X D vwCl (zz_tys cI cZ) A s H locs (wS q cI cZ σ)) {i x : Int32} (hin : vp_in i 10) (hdg : decode cc pc = .ok (.iastore, 1)) (kk : ∀ (H : Heap) (locs : List Loc), zz_X D vwCl (zz_tys cI cZ) A s H locs (wS q cI cZ (zz_put σ 26 i.toNatClampNeg x)) → W p l e R s m args below meth c H locs cells slots Q (F0 m (pc + 1) ls rest)) : W p l e R s m args below meth c H locs cells slots Q (F0 m pc ls (.int x :: .int i :: .ref (q 28) :: rest)) :=
  va_iast hx hb X.1 X.2.1 X.2.2.1 X.2.2.2.1 28 0 rfl rfl hin hdg (fun H locs hP hD hS => kk H locs ⟨X.1, hP, hD, hS, X.2.2.2.2⟩)
theorem za_LS_found (hx : p.tables.exec = Jvm.exec) (hb : c.code = cc) (X : zz_X D vwCl (zz_tys cI cZ) A s H locs (wS q cI cZ σ)) {i : Int32} (hin : vp_in i 10) (hdg : decode cc pc = .ok (.iaload, 1)) (k : W p l e R s m args below meth c H locs cells slots Q (F0 m (pc + 1) ls (.int (σ 27 i.toNatClampNeg) :: rest))) : W p l e R s m args below meth c H locs cells slots Q (F0 m pc ls (.int i :: .ref (q 29) :: rest)) :=
  va_iald hx hb X.1 X.2.1 29 0 rfl rfl hin hdg k
theorem zs_LS_found (hx : p.tables.exec = Jvm.exec) (hb : c.code = cc) (X : zz_X D vwCl (zz_tys cI cZ) A s H locs (wS q cI cZ σ)) {i x : Int32} (hin : vp_in i 10) (hdg : decode cc pc = .ok (.iastore, 1)) (kk : ∀ (H : Heap) (locs : List Loc), zz_X D vwCl (zz_tys cI cZ) A s H locs (wS q cI cZ (zz_put σ 27 i.toNatClampNeg x)) → W p l e R s m args below meth c H locs cells slots Q (F0 m (pc + 1) ls rest)) : W p l e R s m args below meth c H locs cells slots Q (F0 m pc ls (.int x :: .int i :: .ref (q 29) :: rest)) :=
  va_iast hx hb X.1 X.2.1 X.2.2.1 X.2.2.2.1 29 0 rfl rfl hin hdg (fun H locs hP hD hS => kk H locs ⟨X.1, hP, hD, hS, X.2.2.2.2⟩)
end ZFS
end
